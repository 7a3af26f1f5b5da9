set_option maxHeartbeats 400000 in
set_option maxRecDepth 100000 in
theorem c_X2_forgetFrom (l : Launch) (D : va_G) (cA : Nat → ClassId) (B0 : Nat) (ad : kA) (hal : mAl ad) (S : sS) (d0 : kD) (hX : XB cA ad S d0) (ll dd : Nat) (hll : ll < S 18 0) (hd : dd < 400) : oM l yX2_forgetFrom wX2_forgetFrom 1 0 0 D cA B0 ad d0 ([.ref (ad.1 8 ll), .int (nI dd)] : List Value) (oQv D cA B0 ad (fun d1 => (S 13 ll < dd ∧ d0 = d1) ∨ (dd ≤ S 13 ll ∧ uI d0 8 ll 6 (nI 0) = d1))) := by
  refine o_ofW (cc := cX2_forgetFrom) (maxL := 2) (ret := none) (by decide) rfl (Nat.le_of_ble_eq_true rfl) ?_
  intro p e s m below meth c hx hb hr hml hts hown hlocks hnm hK hW hB hS ls hl
  have hu : ∀ w ∈ UW, w.before _ s = true := fun w h => hts w (uw_c w h)
  have hl : lv_has ls 2 [(0, .ref (ad.1 8 ll)), (1, .int (nI dd))] := hl
  have hA := hX.1
  have hG := hX.2.2
  have hb7 : S 7 0 ≤ 8 := hG.f 7 (mx := 8) (by decide)
  have hb11 : S 11 0 ≤ 20 := hG.f 11 (mx := 20) (by decide)
  have hb18 : S 18 0 ≤ 40 := hG.f 18 (mx := 40) (by decide)
  refine lv_aload_n hx hb dX2_forgetFrom_0 rfl (lv_at hl 0 rfl) ?_
  refine x_gi hx hb hu in_X2 hown hK hW (hA.look (by omega)) (kX_8 _ _ _ _) rfl 1 (by decide) uF_X2_27 dX2_forgetFrom_1 ?_
  refine n_topi (y := nI (S 13 ll)) (hX.2.1.look (by omega) 1 (by decide)) ?_
  have b_1 : S 13 ll ≤ 399 := hG.a 13 ll (n := 40) (mx := 399) (by decide) (by omega)
  refine lv_iload_n hx hb dX2_forgetFrom_4 rfl (lv_at hl 1 rfl) ?_
  refine n_icmp_lt (tgt := 13) hx hb (by omega) (by omega) dX2_forgetFrom_5 (by decide) (fun c_a => ?_) (fun c_a => ?_)
  · exact o_vret hx hb hr hlocks hW hS (Or.inl ⟨by omega, rfl⟩) dX2_forgetFrom_13
  · refine lv_aload_n hx hb dX2_forgetFrom_8 rfl (lv_at hl 0 rfl) ?_
    refine n_iconst (v := 0) hx hb dX2_forgetFrom_9 (by decide) ?_
    refine x_pi hx hb hu in_X2 tyX2 tyX2_ok nmX2 hown hK hW hS (hA.look (by omega)) (kI_8 _ _ _ _) rfl 6 (ty := .boolean) (by decide +kernel) uF_X2_15 ⟨rfl, rfl⟩ dX2_forgetFrom_10 (fun H locs hW hS => ?_)
    exact o_vret hx hb hr hlocks hW hS (Or.inr ⟨by omega, rfl⟩) dX2_forgetFrom_13

set_option maxHeartbeats 400000 in
set_option maxRecDepth 100000 in
theorem c_X9_forgetFrom (l : Launch) (D : va_G) (cA : Nat → ClassId) (B0 : Nat) (ad : kA) (hal : mAl ad) (S : sS) (d0 : kD) (hX : XB cA ad S d0) (dd : Nat) (hd : dd < 400) (hPF : ∀ p, p < S 7 0 → PF S dd d0 p) (hLF : ∀ l, l < S 18 0 → LF S dd d0 l) (hZ : Zr S d0) : oM l yX9_forgetFrom wX9_forgetFrom 4 0 0 D cA B0 ad d0 ([.ref (ad.1 0 0), .int (nI dd)] : List Value) (oQv D cA B0 ad (fun d1 => InvX cA ad S d1 ∧ Fr IF J0 d0 d1)) := by
  refine o_ofW (cc := cX9_forgetFrom) (maxL := 3) (ret := none) (by decide) rfl (Nat.le_of_ble_eq_true rfl) ?_
  intro p e s m below meth c hx hb hr hml hts hown hlocks hnm hK hW hB hS ls hl
  have hu : ∀ w ∈ UW, w.before _ s = true := fun w h => hts w (uw_c w h)
  have hl : lv_has ls 3 [(0, .ref (ad.1 0 0)), (1, .int (nI dd))] := hl
  have hA := hX.1
  have hG := hX.2.2
  have hb7 : S 7 0 ≤ 8 := hG.f 7 (mx := 8) (by decide)
  have hb11 : S 11 0 ≤ 20 := hG.f 11 (mx := 20) (by decide)
  have hb18 : S 18 0 ≤ 40 := hG.f 18 (mx := 40) (by decide)
  have hFr := Fr.refl IF J0 d0
  refine n_iconst (v := 0) hx hb dX9_forgetFrom_0 (by decide) ?_
  refine lv_istore_n (lv' := [(2, .int (nI 0)), (0, .ref (ad.1 0 0)), (1, .int (nI dd))]) hx hb dX9_forgetFrom_1 rfl hl (by decide) rfl (fun ls hl => ?_)
  have lp2 : ∀ (n : Nat) (k : Nat)  (d : kD) (H : Heap) (locs : List Loc) (ls : Array Slot), S 7 0 - k < n → (k ≤ S 7 0) → (Fr IF J0 d0 d) → (∀ p, k ≤ p → p < S 7 0 → PF S dd d p) → (∀ p, p < k → ∃ w j, Wk S d p w j) → (∀ l, l < S 18 0 → LF S dd d l) → (Zr S d) → oW D cA B0 ad d H → va_S (oA B0) s.heap H locs → lv_has ls 3 [(0, .ref (ad.1 0 0)), (1, .int (nI dd)), (2, .int (nI k))] → W p l e (oR 4 0 0) s m ([.ref (ad.1 0 0), .int (nI dd)] : List Value).toArray below meth c H locs 0 0 (MQ below (oQv D cA B0 ad (fun d1 => InvX cA ad S d1 ∧ Fr IF J0 d0 d1)) ([.ref (ad.1 0 0), .int (nI dd)] : List Value).toArray s 0 0 (oA B0)) (F0 m 2 ls []) := by
    intro n
    induction n with
    | zero => intro k  d H locs ls hmu; exact absurd hmu (Nat.not_lt_zero _)
    | succ n ih_lp2 =>
      intro k  d H locs ls hmu hk hFr hP1 hP2 hLF hZ hW hS hl
      refine lv_iload_n hx hb dX9_forgetFrom_2 rfl (lv_at hl 2 rfl) ?_
      refine lv_aload_n hx hb dX9_forgetFrom_3 rfl (lv_at hl 0 rfl) ?_
      refine x_gr hx hb hu in_X9 hown hK hW (hA.o (k := 0) rfl) (kX_0 _ _ _ _) rfl 2 (by decide) uF_X9_21 (hA.f 2 (k := 4) (i := 0) (by decide) (hA.li (by omega))) dX9_forgetFrom_4 ?_
      refine o_calli (o_runV (As := []) (rest := [.int (nI k)]) ⟨hx, hb, hml, hown, hu⟩ (c_Jx4a65c_size_8abf5 l D cA B0 ad hal S d (⟨hX.1, hX.2.1.fr hFr.fx, hX.2.2⟩) 0 (by decide)) (gV_X9_105 (fun _ h => h)) (n0 := 0) rfl (by decide +kernel) rfl ⟨Nat.le_of_ble_eq_true rfl, Nat.le_of_ble_eq_true rfl⟩ (o_recv hK hW (hA.li (by omega)) (kX_4 _ _ _ _) rfl) hK hW hB hS hl.1 rfl (lv_room (Nat.le_of_ble_eq_true rfl)) ⟨Nat.zero_le _, Nat.zero_le _⟩ dX9_forgetFrom_7) hS (fun r_2 d_1 q_3 H locs hW hS => ?_)
      obtain ⟨rfl, rfl⟩ := q_3
      refine n_topi (y := nI (S 7 0)) rfl ?_
      refine n_icmp_ge (tgt := 34) hx hb (by omega) (by omega) dX9_forgetFrom_10 (by decide) (fun c_4 => ?_) (fun c_4 => ?_)
      · have hP2 : ∀ p, p < S 7 0 → ∃ w j, Wk S d p w j := fun p hp => hP2 p (by omega)
        refine n_iconst (v := 0) hx hb dX9_forgetFrom_34 (by decide) ?_
        refine lv_istore_n (lv' := [(2, .int (nI 0)), (0, .ref (ad.1 0 0)), (1, .int (nI dd))]) hx hb dX9_forgetFrom_35 rfl hl (by decide) rfl (fun ls hl => ?_)
        have lp36 : ∀ (n : Nat) (l1 : Nat)  (d : kD) (H : Heap) (locs : List Loc) (ls : Array Slot), S 18 0 - l1 < n → (l1 ≤ S 18 0) → (Fr IF J0 d0 d) → (∀ p, p < S 7 0 → ∃ w j, Wk S d p w j) → (∀ l, l1 ≤ l → l < S 18 0 → LF S dd d l) → (∀ l, l < l1 → Lk S d l) → (Zr S d) → oW D cA B0 ad d H → va_S (oA B0) s.heap H locs → lv_has ls 3 [(0, .ref (ad.1 0 0)), (1, .int (nI dd)), (2, .int (nI l1))] → W p l e (oR 4 0 0) s m ([.ref (ad.1 0 0), .int (nI dd)] : List Value).toArray below meth c H locs 0 0 (MQ below (oQv D cA B0 ad (fun d1 => InvX cA ad S d1 ∧ Fr IF J0 d0 d1)) ([.ref (ad.1 0 0), .int (nI dd)] : List Value).toArray s 0 0 (oA B0)) (F0 m 36 ls []) := by
          intro n
          induction n with
          | zero => intro l1  d H locs ls hmu; exact absurd hmu (Nat.not_lt_zero _)
          | succ n ih_lp36 =>
            intro l1  d H locs ls hmu hl1 hFr hP2 hL1 hL2 hZ hW hS hl
            refine lv_iload_n hx hb dX9_forgetFrom_36 rfl (lv_at hl 2 rfl) ?_
            refine lv_aload_n hx hb dX9_forgetFrom_37 rfl (lv_at hl 0 rfl) ?_
            refine x_gr hx hb hu in_X9 hown hK hW (hA.o (k := 0) rfl) (kX_0 _ _ _ _) rfl 3 (by decide) uF_X9_25 (hA.f 3 (k := 4) (i := 1) (by decide) (hA.li (by omega))) dX9_forgetFrom_38 ?_
            refine o_calli (o_runV (As := []) (rest := [.int (nI l1)]) ⟨hx, hb, hml, hown, hu⟩ (c_Jx4a65c_size_8abf5 l D cA B0 ad hal S d (⟨hX.1, hX.2.1.fr hFr.fx, hX.2.2⟩) 1 (by decide)) (gV_X9_105 (fun _ h => h)) (n0 := 0) rfl (by decide +kernel) rfl ⟨Nat.le_of_ble_eq_true rfl, Nat.le_of_ble_eq_true rfl⟩ (o_recv hK hW (hA.li (by omega)) (kX_4 _ _ _ _) rfl) hK hW hB hS hl.1 rfl (lv_room (Nat.le_of_ble_eq_true rfl)) ⟨Nat.zero_le _, Nat.zero_le _⟩ dX9_forgetFrom_41) hS (fun r_6 d_5 q_7 H locs hW hS => ?_)
            obtain ⟨rfl, rfl⟩ := q_7
            refine n_topi (y := nI (S 18 0)) rfl ?_
            refine n_icmp_ge (tgt := 68) hx hb (by omega) (by omega) dX9_forgetFrom_44 (by decide) (fun c_8 => ?_) (fun c_8 => ?_)
            · exact o_vret hx hb hr hlocks hW hS (⟨⟨⟨hX.1, hX.2.1.fr hFr.fx, hX.2.2⟩, hP2, fun l hl => hL2 l (by omega), hZ⟩, hFr⟩) dX9_forgetFrom_68
            · refine lv_aload_n hx hb dX9_forgetFrom_47 rfl (lv_at hl 0 rfl) ?_
              refine x_gr hx hb hu in_X9 hown hK hW (hA.o (k := 0) rfl) (kX_0 _ _ _ _) rfl 3 (by decide) uF_X9_25 (hA.f 3 (k := 4) (i := 1) (by decide) (hA.li (by omega))) dX9_forgetFrom_48 ?_
              refine lv_iload_n hx hb dX9_forgetFrom_51 rfl (lv_at hl 2 rfl) ?_
              refine o_callq (o_runV (As := [.int (nI l1)]) (rest := []) ⟨hx, hb, hml, hown, hu⟩ (c_Jx4a65c_get_915e3 l D cA B0 ad hal S d (⟨hX.1, hX.2.1.fr hFr.fx, hX.2.2⟩) 1 l1 (by decide) (show l1 < S 18 0 by omega)) (gV_X9_109 (fun _ h => h)) (n0 := 1) rfl (by decide +kernel) rfl ⟨Nat.le_of_ble_eq_true rfl, Nat.le_of_ble_eq_true rfl⟩ (o_recv hK hW (hA.li (by omega)) (kX_4 _ _ _ _) rfl) hK hW hB hS hl.1 rfl (lv_room (Nat.le_of_ble_eq_true rfl)) ⟨Nat.zero_le _, Nat.zero_le _⟩ dX9_forgetFrom_52) hS (fun r_10 d_9 q_11 H locs hW hS => ?_)
              obtain ⟨rfl, rfl⟩ := q_11
              refine W.eq (g2 := F0 m 55 ls [.ref (ad.1 8 l1)]) rfl ?_
              refine x_cast hx hb hu hown uL_X9_116 hK hW (hA.look (by omega)) (kX_8 _ _ _ _) rfl dX9_forgetFrom_55 ?_
              refine lv_iload_n hx hb dX9_forgetFrom_58 rfl (lv_at hl 1 rfl) ?_
              refine o_callv (o_runV (As := [.int (nI dd)]) (rest := []) ⟨hx, hb, hml, hown, hu⟩ (c_X2_forgetFrom l D cA B0 ad hal S d (⟨hX.1, hX.2.1.fr hFr.fx, hX.2.2⟩) l1 dd (by omega) (by omega)) (gV_X9_118 (fun _ h => h)) (n0 := 1) rfl (by decide +kernel) rfl ⟨Nat.le_of_ble_eq_true rfl, Nat.le_of_ble_eq_true rfl⟩ (o_recv hK hW (hA.look (by omega)) (kX_8 _ _ _ _) rfl) hK hW hB hS hl.1 rfl (lv_room (Nat.le_of_ble_eq_true rfl)) ⟨Nat.zero_le _, Nat.zero_le _⟩ dX9_forgetFrom_59) hS (fun d_12 q_14 H locs hW hS => ?_)
              have hqf := q_14
              have hZ : Zr S d_12 := fgt_z hqf hZ
              obtain ⟨hFr3, hP3, hL1, hL2⟩ := fgt_look hqf hFr hP2 hL1 hL2 (by omega)
              refine n_iinc (q := 1) (lv' := [(2, .int (nI (l1 + 1))), (0, .ref (ad.1 0 0)), (1, .int (nI dd))]) hx hb dX9_forgetFrom_62 hl (k := 2) rfl (by decide) (by decide) rfl (fun ls hl => ?_)
              refine lv_goto (tgt := 36) hx hb dX9_forgetFrom_65 (by decide) ?_
              exact ih_lp36 (l1 + 1) d_12 _ _ ls (by omega) (by omega) hFr3 hP3 hL1 hL2 hZ hW hS (lv_sub hl [1, 2, 0] rfl)
        exact lp36 (S 18 0 + 1) 0 d _ _ ls (by omega) (by omega) hFr hP2 (fun l _ hl => hLF l hl) (fun _ h => absurd h (Nat.not_lt_zero _)) hZ hW hS (lv_sub hl [1, 2, 0] rfl)
      · refine lv_aload_n hx hb dX9_forgetFrom_13 rfl (lv_at hl 0 rfl) ?_
        refine x_gr hx hb hu in_X9 hown hK hW (hA.o (k := 0) rfl) (kX_0 _ _ _ _) rfl 2 (by decide) uF_X9_21 (hA.f 2 (k := 4) (i := 0) (by decide) (hA.li (by omega))) dX9_forgetFrom_14 ?_
        refine lv_iload_n hx hb dX9_forgetFrom_17 rfl (lv_at hl 2 rfl) ?_
        refine o_callq (o_runV (As := [.int (nI k)]) (rest := []) ⟨hx, hb, hml, hown, hu⟩ (c_Jx4a65c_get_915e3 l D cA B0 ad hal S d (⟨hX.1, hX.2.1.fr hFr.fx, hX.2.2⟩) 0 k (by decide) (show k < S 7 0 by omega)) (gV_X9_109 (fun _ h => h)) (n0 := 1) rfl (by decide +kernel) rfl ⟨Nat.le_of_ble_eq_true rfl, Nat.le_of_ble_eq_true rfl⟩ (o_recv hK hW (hA.li (by omega)) (kX_4 _ _ _ _) rfl) hK hW hB hS hl.1 rfl (lv_room (Nat.le_of_ble_eq_true rfl)) ⟨Nat.zero_le _, Nat.zero_le _⟩ dX9_forgetFrom_18) hS (fun r_16 d_15 q_17 H locs hW hS => ?_)
        obtain ⟨rfl, rfl⟩ := q_17
        refine W.eq (g2 := F0 m 21 ls [.ref (ad.1 6 k)]) rfl ?_
        refine x_cast hx hb hu hown uL_X9_113 hK hW (hA.pier (by omega)) (kX_6 _ _ _ _) rfl dX9_forgetFrom_21 ?_
        refine lv_iload_n hx hb dX9_forgetFrom_24 rfl (lv_at hl 1 rfl) ?_
        obtain ⟨pw, pk, g1, g2, g3, g4, g5, g6⟩ := hP1 k (Nat.le_refl _) (by omega)
        refine o_callv (o_runV (As := [.int (nI dd)]) (rest := []) ⟨hx, hb, hml, hown, hu⟩ (c_X5_forgetFrom l D cA B0 ad hal S d (⟨hX.1, hX.2.1.fr hFr.fx, hX.2.2⟩) k dd pw pk (by omega) hd g3 g1 g4 g2 g5 g6) (gV_X9_115 (fun _ h => h)) (n0 := 1) rfl (by decide +kernel) rfl ⟨Nat.le_of_ble_eq_true rfl, Nat.le_of_ble_eq_true rfl⟩ (o_recv hK hW (hA.pier (by omega)) (kX_6 _ _ _ _) rfl) hK hW hB hS hl.1 rfl (lv_room (Nat.le_of_ble_eq_true rfl)) ⟨Nat.zero_le _, Nat.zero_le _⟩ dX9_forgetFrom_25) hS (fun d_18 q_20 H locs hW hS => ?_)
        obtain ⟨r_19a, r_19b⟩ := q_20
        have hZ : Zr S d_18 := hZ.f1 r_19b (by omega)
        have hFr := hFr.trans r_19b.f
        have hP1 : ∀ p, k + 1 ≤ p → p < S 7 0 → PF S dd d_18 p := fun p h1 h2 => (hP1 p (by omega) h2).cg r_19b (by omega)
        have hP2 : ∀ p, p < k + 1 → ∃ w j, Wk S d_18 p w j := fun p h1 => (Nat.lt_or_ge p k).elim (fun z => (hP2 p z).elim fun w hw => hw.elim fun j hj => ⟨w, j, hj.other r_19b (by omega)⟩) (fun z => (show p = k by omega) ▸ r_19a)
        have hLF : ∀ l, l < S 18 0 → LF S dd d_18 l := fun l hl => by unfold LF; rw [r_19b.1 8 l 6 (by omega), r_19b.2]; exact hLF l hl
        refine n_iinc (q := 1) (lv' := [(2, .int (nI (k + 1))), (0, .ref (ad.1 0 0)), (1, .int (nI dd))]) hx hb dX9_forgetFrom_28 hl (k := 2) rfl (by decide) (by decide) rfl (fun ls hl => ?_)
        refine lv_goto (tgt := 2) hx hb dX9_forgetFrom_31 (by decide) ?_
        exact ih_lp2 (k + 1) d_18 _ _ ls (by omega) (by omega) hFr hP1 hP2 hLF hZ hW hS (lv_sub hl [1, 2, 0] rfl)
  exact lp2 (S 7 0 + 1) 0 d0 _ _ ls (by omega) (by omega) hFr (fun p _ hp => hPF p hp) (fun _ h => absurd h (Nat.not_lt_zero _)) hLF hZ hW hS (lv_sub hl [1, 2, 0] rfl)

set_option maxHeartbeats 400000 in
set_option maxRecDepth 100000 in
theorem c_X9_asSheetHolds (l : Launch) (D : va_G) (cA : Nat → ClassId) (B0 : Nat) (ad : kA) (hal : mAl ad) (d0 : kD) (e0 : Int32) (kd : Nat) (hkd : kd < 4) : oM l yX9_asSheetHolds wX9_asSheetHolds 1 0 0 D cA B0 ad d0 ([.int e0, .int (nI kd)] : List Value) (oQi D cA B0 ad (fun r d1 => r = shv kd e0 ∧ d0 = d1)) := by
  refine o_ofW (cc := cX9_asSheetHolds) (maxL := 2) (ret := some .int) (by decide) rfl (Nat.le_of_ble_eq_true rfl) ?_
  intro p e s m below meth c hx hb hr hml hts hown hlocks hnm hK hW hB hS ls hl
  have hu : ∀ w ∈ UW, w.before _ s = true := fun w h => hts w (uw_c w h)
  have hl : lv_has ls 2 [(0, .int e0), (1, .int (nI kd))] := hl
  refine lv_iload_n hx hb dX9_asSheetHolds_0 rfl (lv_at hl 1 rfl) ?_
  refine n_if_ne (tgt := 7) hx hb (by omega) dX9_asSheetHolds_1 (by decide) (fun c_0 => ?_) (fun c_0 => ?_)
  · refine lv_iload_n hx hb dX9_asSheetHolds_7 rfl (lv_at hl 1 rfl) ?_
    refine n_iconst (v := 1) hx hb dX9_asSheetHolds_8 (by decide) ?_
    refine n_icmp_ne (tgt := 17) hx hb (by omega) (by omega) dX9_asSheetHolds_9 (by decide) (fun c_1 => ?_) (fun c_1 => ?_)
    · refine lv_iload_n hx hb dX9_asSheetHolds_17 rfl (lv_at hl 0 rfl) ?_
      exact o_iret hx hb hr hlocks hW hS (⟨by unfold shv; first | (rw [if_pos (by omega)]; done) | (rw [if_neg (by omega), if_pos (by omega)]; done) | (rw [if_neg (by omega), if_neg (by omega)]; done), rfl⟩) dX9_asSheetHolds_18
    · refine lv_iload_n hx hb dX9_asSheetHolds_12 rfl (lv_at hl 0 rfl) ?_
      refine lv_i2s (v := e0.toInt16.toInt32) hx hb dX9_asSheetHolds_13 rfl ?_
      refine lv_goto (tgt := 18) hx hb dX9_asSheetHolds_14 (by decide) ?_
      exact o_iret hx hb hr hlocks hW hS (⟨by unfold shv; first | (rw [if_pos (by omega)]; done) | (rw [if_neg (by omega), if_pos (by omega)]; done) | (rw [if_neg (by omega), if_neg (by omega)]; done), rfl⟩) dX9_asSheetHolds_18
  · refine lv_iload_n hx hb dX9_asSheetHolds_4 rfl (lv_at hl 0 rfl) ?_
    refine lv_i2b (v := e0.toInt8.toInt32) hx hb dX9_asSheetHolds_5 rfl ?_
    exact o_iret hx hb hr hlocks hW hS (⟨by unfold shv; first | (rw [if_pos (by omega)]; done) | (rw [if_neg (by omega), if_pos (by omega)]; done) | (rw [if_neg (by omega), if_neg (by omega)]; done), rfl⟩) dX9_asSheetHolds_6
