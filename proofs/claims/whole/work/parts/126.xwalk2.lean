set_option maxHeartbeats 400000 in
set_option maxRecDepth 100000 in
theorem c_X5_walk (l : Launch) (D : va_G) (cA : Nat → ClassId) (B0 : Nat) (ad : kA) (hal : mAl ad) (S : sS) (d0 : kD) (hX : XB cA ad S d0) (pp dd k : Nat) (hp : pp < S 7 0) (hd : dd < 400) (hw : Wk S d0 pp dd k) : oM l yX5_walk wX5_walk 2 0 0 D cA B0 ad d0 ([.ref (ad.1 6 pp), .int (nI dd)] : List Value) (oQv D cA B0 ad (fun d1 => (∃ k', Wk S d1 pp (dd + 1) k') ∧ F1 pp d0 d1)) := by
  refine o_ofW (cc := cX5_walk) (maxL := 6) (ret := none) (by decide) rfl (Nat.le_of_ble_eq_true rfl) ?_
  intro p e s m below meth c hx hb hr hml hts hown hlocks hnm hK hW hB hS ls hl
  have hu : ∀ w ∈ UW, w.before _ s = true := fun w h => hts w (uw_c w h)
  have hl : lv_has ls 6 [(0, .ref (ad.1 6 pp)), (1, .int (nI dd))] := hl
  have hA := hX.1
  have hG := hX.2.2
  have hb7 : S 7 0 ≤ 8 := hG.f 7 (mx := 8) (by decide)
  have hb11 : S 11 0 ≤ 20 := hG.f 11 (mx := 20) (by decide)
  have hb18 : S 18 0 ≤ 40 := hG.f 18 (mx := 40) (by decide)
  have hWL := WL.start S pp dd d0
  have hwl := sW_le hG (p := pp) (day := dd) (by omega) (S 11 0) (by omega)
  have hk10 := hw.2.1
  refine lv_aload_n hx hb dX5_walk_0 rfl (lv_at hl 0 rfl) ?_
  refine lv_iload_n hx hb dX5_walk_1 rfl (lv_at hl 1 rfl) ?_
  refine o_calli (o_runV (As := [.int (nI dd)]) (rest := []) ⟨hx, hb, hml, hown, hu⟩ (c_X5_wideOn l D cA B0 ad hal S d0 (⟨hX.1, hX.2.1.fr hWL.1.x, hX.2.2⟩) pp dd (by omega) (by omega)) (gV_X5_67 (fun _ h => h)) (n0 := 1) rfl (by decide +kernel) rfl ⟨Nat.le_of_ble_eq_true rfl, Nat.le_of_ble_eq_true rfl⟩ (o_recv hK hW (hA.pier (by omega)) (kX_6 _ _ _ _) rfl) hK hW hB hS hl.1 rfl (lv_room (Nat.le_of_ble_eq_true rfl)) ⟨Nat.zero_le _, Nat.zero_le _⟩ dX5_walk_2) hS (fun r_2 d_1 q_3 H locs hW hS => ?_)
  obtain ⟨rfl, rfl⟩ := q_3
  refine lv_istore_n (lv' := [(2, .int (nI (sW S pp dd (S 11 0)))), (0, .ref (ad.1 6 pp)), (1, .int (nI dd))]) hx hb dX5_walk_5 rfl hl (by decide) rfl (fun ls hl => ?_)
  refine n_iconst (v := 0) hx hb dX5_walk_6 (by decide) ?_
  refine lv_istore_n (lv' := [(3, .int (nI 0)), (2, .int (nI (sW S pp dd (S 11 0)))), (0, .ref (ad.1 6 pp)), (1, .int (nI dd))]) hx hb dX5_walk_7 rfl hl (by decide) rfl (fun ls hl => ?_)
  have lp8 : ∀ (n : Nat) (fi : Nat) (a : Nat) (d : kD) (H : Heap) (locs : List Loc) (ls : Array Slot), 8 - a < n → (a ≤ 8) → (fi = 8 * a) → (WL S pp dd fi d0 d) → oW D cA B0 ad d H → va_S (oA B0) s.heap H locs → lv_has ls 6 [(0, .ref (ad.1 6 pp)), (1, .int (nI dd)), (2, .int (nI (sW S pp dd (S 11 0)))), (3, .int (nI fi))] → W p l e (oR 2 0 0) s m ([.ref (ad.1 6 pp), .int (nI dd)] : List Value).toArray below meth c H locs 0 0 (MQ below (oQv D cA B0 ad (fun d1 => (∃ k', Wk S d1 pp (dd + 1) k') ∧ F1 pp d0 d1)) ([.ref (ad.1 6 pp), .int (nI dd)] : List Value).toArray s 0 0 (oA B0)) (F0 m 8 ls []) := by
    intro n
    induction n with
    | zero => intro fi a d H locs ls hmu; exact absurd hmu (Nat.not_lt_zero _)
    | succ n ih_lp8 =>
      intro fi a d H locs ls hmu ha hfi hWL hW hS hl
      refine lv_iload_n hx hb dX5_walk_8 rfl (lv_at hl 3 rfl) ?_
      refine n_bipush (v := 64) hx hb dX5_walk_9 (by decide) ?_
      refine n_icmp_ge (tgt := 70) hx hb (by omega) (by omega) dX5_walk_11 (by decide) (fun c_4 => ?_) (fun c_4 => ?_)
      · have hfe : fi = 64 := by omega
        refine lv_aload_n hx hb dX5_walk_70 rfl (lv_at hl 0 rfl) ?_
        refine lv_iload_n hx hb dX5_walk_71 rfl (lv_at hl 1 rfl) ?_
        refine n_iconst (v := 1) hx hb dX5_walk_72 (by decide) ?_
        refine n_iadd hx hb dX5_walk_73 ?_
        refine x_pi hx hb hu in_X5 tyX5 tyX5_ok nmX5 hown hK hW hS (hA.pier (by omega)) (kI_6 _ _ _ _) rfl 7 (ty := .int) (by decide +kernel) uF_X5_9 ⟨rfl, rfl⟩ dX5_walk_74 (fun H locs hW hS => ?_)
        obtain ⟨hw2, hF2⟩ := WL.end (hfe ▸ hWL) hw hd
        refine lv_aload_n hx hb dX5_walk_77 rfl (lv_at hl 0 rfl) ?_
        refine x_gi hx hb hu in_X5 hown hK hW (hA.pier (by omega)) (kX_6 _ _ _ _) rfl 8 (by decide) uF_X5_15 dX5_walk_78 ?_
        refine n_topi (y := nI k) (hw2.2.2.2.1) ?_
        refine n_bipush (v := 10) hx hb dX5_walk_81 (by decide) ?_
        refine n_icmp_ge (tgt := 106) hx hb (by omega) (by omega) dX5_walk_83 (by decide) (fun c_5 => ?_) (fun c_5 => ?_)
        · exact o_vret hx hb hr hlocks hW hS (⟨⟨k, hw2⟩, hF2⟩) dX5_walk_106
        · refine lv_aload_n hx hb dX5_walk_86 rfl (lv_at hl 0 rfl) ?_
          refine x_gi hx hb hu in_X5 hown hK hW (hA.pier (by omega)) (kX_6 _ _ _ _) rfl 7 (by decide) uF_X5_9 dX5_walk_87 ?_
          refine n_topi (y := nI (dd + 1)) (hw2.2.2.1) ?_
          refine lv_aload_n hx hb dX5_walk_90 rfl (lv_at hl 0 rfl) ?_
          refine x_gi hx hb hu in_X5 hown hK hW (hA.pier (by omega)) (kX_6 _ _ _ _) rfl 8 (by decide) uF_X5_15 dX5_walk_91 ?_
          refine n_topi (y := nI k) (hw2.2.2.2.1) ?_
          refine n_iconst (v := 1) hx hb dX5_walk_94 (by decide) ?_
          refine n_iadd hx hb dX5_walk_95 ?_
          refine n_bipush (v := 40) hx hb dX5_walk_96 (by decide) ?_
          refine n_imul hx hb dX5_walk_98 ?_
          refine n_icmp_ne (tgt := 106) hx hb (by omega) (by omega) dX5_walk_99 (by decide) (fun c_6 => ?_) (fun c_6 => ?_)
          · exact o_vret hx hb hr hlocks hW hS (⟨⟨k, hw2⟩, hF2⟩) dX5_walk_106
          · refine lv_aload_n hx hb dX5_walk_102 rfl (lv_at hl 0 rfl) ?_
            refine o_callv (o_runV (As := []) (rest := []) ⟨hx, hb, hml, hown, hu⟩ (c_X5_putMark l D cA B0 ad hal S (uI d 6 pp 7 (nI (dd + 1))) (⟨hX.1, hX.2.1.fr hF2.x, hX.2.2⟩) pp k hp (by omega) hw2.2.2.2.1 (by rw [show 40 * (k + 1) = dd + 1 by omega]; exact hw2.at) hw2.mk) (gV_X5_78 (fun _ h => h)) (n0 := 0) rfl (by decide +kernel) rfl ⟨Nat.le_of_ble_eq_true rfl, Nat.le_of_ble_eq_true rfl⟩ (o_recv hK hW (hA.pier (by omega)) (kX_6 _ _ _ _) rfl) hK hW hB hS hl.1 rfl (lv_room (Nat.le_of_ble_eq_true rfl)) ⟨Nat.zero_le _, Nat.zero_le _⟩ dX5_walk_103) hS (fun d_7 q_9 H locs hW hS => ?_)
            obtain ⟨r_8a, r_8b, r_8c, r_8d⟩ := q_9
            have hw3 : Wk S d_7 pp (dd + 1) (k + 1) := ⟨by omega, by omega, by rw [show dd + 1 = 40 * (k + 1) by omega]; exact r_8c.1, r_8b, by rw [show dd + 1 = 40 * (k + 1) by omega]; exact r_8c.2, r_8a⟩
            have hF3 := hF2.trans r_8d
            exact o_vret hx hb hr hlocks hW hS (⟨⟨k + 1, hw3⟩, hF3⟩) dX5_walk_106
      · refine lv_aload_n hx hb dX5_walk_14 rfl (lv_at hl 0 rfl) ?_
        refine lv_iload_n hx hb dX5_walk_15 rfl (lv_at hl 2 rfl) ?_
        refine lv_iload_n hx hb dX5_walk_16 rfl (lv_at hl 3 rfl) ?_
        refine lv_iload_n hx hb dX5_walk_17 rfl (lv_at hl 1 rfl) ?_
        refine o_calli (o_runV (As := [.int (nI (sW S pp dd (S 11 0))), .int (nI fi), .int (nI dd)]) (rest := []) ⟨hx, hb, hml, hown, hu⟩ (c_X5_goalWith l D cA B0 ad hal S d (⟨hX.1, hX.2.1.fr hWL.1.x, hX.2.2⟩) pp (sW S pp dd (S 11 0)) fi dd hp (by omega) hd (by omega)) (gV_X5_71 (fun _ h => h)) (n0 := 3) rfl (by decide +kernel) rfl ⟨Nat.le_of_ble_eq_true rfl, Nat.le_of_ble_eq_true rfl⟩ (o_recv hK hW (hA.pier (by omega)) (kX_6 _ _ _ _) rfl) hK hW hB hS hl.1 rfl (lv_room (Nat.le_of_ble_eq_true rfl)) ⟨Nat.zero_le _, Nat.zero_le _⟩ dX5_walk_18) hS (fun r_11 d_10 q_12 H locs hW hS => ?_)
        obtain ⟨rfl, rfl⟩ := q_12
        have hgl := gW_le hG (p := pp) (by omega) fi dd (sW S pp dd (S 11 0))
        refine lv_istore (lv' := [(4, .int (nI (gW S pp fi dd (sW S pp dd (S 11 0))))), (0, .ref (ad.1 6 pp)), (1, .int (nI dd)), (2, .int (nI (sW S pp dd (S 11 0)))), (3, .int (nI fi))]) hx hb dX5_walk_21 hl (by decide) rfl (fun ls hl => ?_)
        refine n_iconst (v := 0) hx hb dX5_walk_23 (by decide) ?_
        refine lv_istore (lv' := [(5, .int (nI 0)), (4, .int (nI (gW S pp fi dd (sW S pp dd (S 11 0))))), (0, .ref (ad.1 6 pp)), (1, .int (nI dd)), (2, .int (nI (sW S pp dd (S 11 0)))), (3, .int (nI fi))]) hx hb dX5_walk_24 hl (by decide) rfl (fun ls hl => ?_)
        have lp26 : ∀ (n : Nat) (b1 : Nat)  (d : kD) (H : Heap) (locs : List Loc) (ls : Array Slot), 8 - b1 < n → (b1 ≤ 8) → (WL S pp dd (fi + b1) d0 d) → oW D cA B0 ad d H → va_S (oA B0) s.heap H locs → lv_has ls 6 [(0, .ref (ad.1 6 pp)), (1, .int (nI dd)), (2, .int (nI (sW S pp dd (S 11 0)))), (3, .int (nI fi)), (4, .int (nI (gW S pp fi dd (sW S pp dd (S 11 0))))), (5, .int (nI b1))] → W p l e (oR 2 0 0) s m ([.ref (ad.1 6 pp), .int (nI dd)] : List Value).toArray below meth c H locs 0 0 (MQ below (oQv D cA B0 ad (fun d1 => (∃ k', Wk S d1 pp (dd + 1) k') ∧ F1 pp d0 d1)) ([.ref (ad.1 6 pp), .int (nI dd)] : List Value).toArray s 0 0 (oA B0)) (F0 m 26 ls []) := by
          intro n
          induction n with
          | zero => intro b1  d H locs ls hmu; exact absurd hmu (Nat.not_lt_zero _)
          | succ n ih_lp26 =>
            intro b1  d H locs ls hmu hb1 hWL hW hS hl
            refine lv_iload hx hb dX5_walk_26 (lv_at hl 5 rfl) ?_
            refine n_bipush (v := 8) hx hb dX5_walk_28 (by decide) ?_
            refine n_icmp_ge (tgt := 64) hx hb (by omega) (by omega) dX5_walk_30 (by decide) (fun c_13 => ?_) (fun c_13 => ?_)
            · refine n_iinc (q := 8) (lv' := [(3, .int (nI (fi + 8))), (0, .ref (ad.1 6 pp)), (1, .int (nI dd)), (2, .int (nI (sW S pp dd (S 11 0)))), (4, .int (nI (gW S pp fi dd (sW S pp dd (S 11 0))))), (5, .int (nI b1))]) hx hb dX5_walk_64 hl (k := 3) rfl (by decide) (by decide) rfl (fun ls hl => ?_)
              refine lv_goto (tgt := 8) hx hb dX5_walk_67 (by decide) ?_
              exact ih_lp8 (fi + 8) (a + 1) d _ _ ls (by omega) (by omega) (by omega) ((show b1 = 8 by omega) ▸ hWL) hW hS (lv_sub hl [1, 2, 3, 0] rfl)
            · refine lv_aload_n hx hb dX5_walk_33 rfl (lv_at hl 0 rfl) ?_
              refine x_gr hx hb hu in_X5 hown hK hW (hA.pier (by omega)) (kX_6 _ _ _ _) rfl 6 (by decide) uF_X5_51 (hA.ps (by omega) (by omega)) dX5_walk_34 ?_
              refine lv_iload_n hx hb dX5_walk_37 rfl (lv_at hl 3 rfl) ?_
              refine lv_iload hx hb dX5_walk_38 (lv_at hl 5 rfl) ?_
              refine n_iadd hx hb dX5_walk_40 ?_
              refine lv_aload_n hx hb dX5_walk_41 rfl (lv_at hl 0 rfl) ?_
              refine x_gr hx hb hu in_X5 hown hK hW (hA.pier (by omega)) (kX_6 _ _ _ _) rfl 6 (by decide) uF_X5_51 (hA.ps (by omega) (by omega)) dX5_walk_42 ?_
              refine lv_iload_n hx hb dX5_walk_45 rfl (lv_at hl 3 rfl) ?_
              refine lv_iload hx hb dX5_walk_46 (lv_at hl 5 rfl) ?_
              refine n_iadd hx hb dX5_walk_48 ?_
              refine x_il hx hb hK hW (hA.st (by omega)) (kX_3 _ _ _ _) (by decide) (by omega) dX5_walk_49 ?_
              refine n_topi (y := nI (pkd (sHE S pp (fi + b1) dd))) (by rw [hWL.2.2.1 (fi + b1) (Nat.le_refl _)]; exact hw.2.2.2.2.1 (fi + b1) (by omega)) ?_
              have hhl := sHE_le hG (p := pp) (m := fi + b1) (by omega) dd
              refine lv_iload hx hb dX5_walk_50 (lv_at hl 4 rfl) ?_
              refine lv_iload hx hb dX5_walk_52 (lv_at hl 5 rfl) ?_
              refine o_calli (o_runS (As := [.int (nI (pkd (sHE S pp (fi + b1) dd))), .int (nI (gW S pp fi dd (sW S pp dd (S 11 0)))), .int (nI b1)]) (rest := [.int (nI (fi + b1)), .ref (ad.1 3 pp)]) ⟨hx, hb, hml, hown, hu⟩ (c_X5_behindDay l D cA B0 ad hal d (sHE S pp (fi + b1) dd) (gW S pp fi dd (sW S pp dd (S 11 0))) b1 hhl.1 hhl.2 hgl (by omega)) (gS_X5_75 (fun _ h => h)) (n0 := 3) rfl (by decide +kernel) rfl ⟨Nat.le_of_ble_eq_true rfl, Nat.le_of_ble_eq_true rfl⟩ hK hW hB hS hl.1 rfl (lv_room (Nat.le_of_ble_eq_true rfl)) ⟨Nat.zero_le _, Nat.zero_le _⟩ dX5_walk_54) hS (fun r_15 d_14 q_16 H locs hW hS => ?_)
              obtain ⟨rfl, rfl⟩ := q_16
              refine x_is hx hb hK hW hS (hA.st (by omega)) (kI_3 _ _ _ _) (by decide) (by omega) dX5_walk_57 (fun H locs hW hS => ?_)
              have hWL := hWL.st (by omega) (congrArg pkd (sHE_8 S pp fi b1 dd hfi (by omega)))
              refine n_iinc (q := 1) (lv' := [(5, .int (nI (b1 + 1))), (0, .ref (ad.1 6 pp)), (1, .int (nI dd)), (2, .int (nI (sW S pp dd (S 11 0)))), (3, .int (nI fi)), (4, .int (nI (gW S pp fi dd (sW S pp dd (S 11 0)))))]) hx hb dX5_walk_58 hl (k := 5) rfl (by decide) (by decide) rfl (fun ls hl => ?_)
              refine lv_goto (tgt := 26) hx hb dX5_walk_61 (by decide) ?_
              exact ih_lp26 (b1 + 1) (uI d 3 pp (fi + b1) (nI (pkd (sStep (sHE S pp (fi + b1) dd).1 (gW S pp fi dd (sW S pp dd (S 11 0))) b1, max (sHE S pp (fi + b1) dd).2 (sStep (sHE S pp (fi + b1) dd).1 (gW S pp fi dd (sW S pp dd (S 11 0))) b1))))) _ _ ls (by omega) (by omega) hWL hW hS (lv_sub hl [1, 2, 3, 4, 5, 0] rfl)
        exact lp26 (9) 0 d _ _ ls (by omega) (by omega) hWL hW hS (lv_sub hl [2, 3, 4, 5, 1, 0] rfl)
  exact lp8 (9) 0 0 d0 _ _ ls (by omega) (by omega) rfl hWL hW hS (lv_sub hl [2, 3, 1, 0] rfl)
