set_option maxHeartbeats 400000 in
set_option maxRecDepth 100000 in
theorem c_X9_bridge (l : Launch) (D : va_G) (cA : Nat → ClassId) (B0 : Nat) (ad : kA) (hal : mAl ad) (S : sS) (sr : Nat → Int32) (d0 : kD) (hM : InvX cA ad S d0) (hR : RowX S sr d0) (bi ti : Int32) : oM l yX9_bridge wX9_bridge 8 2 80 D cA B0 ad d0 ([.ref (ad.1 0 0), .int bi, .int ti] : List Value) (oQiA D cA B0 (fun r u => r = aBridge S bi ti ∧ PX cA u.1 (nBridge S bi ti) sr d0 u.2 ∧ AFr ad u.1)) := by
  refine o_ofW (cc := cX9_bridge) (maxL := 4) (ret := some .int) (by decide) rfl (Nat.le_of_ble_eq_true rfl) ?_
  intro p e s m below meth c hx hb hr hml hts hown hlocks hnm hK hW hB hS ls hl
  have hu : ∀ w ∈ UW, w.before _ s = true := fun w h => hts w (uw_c w h)
  have hl : lv_has ls 4 [(0, .ref (ad.1 0 0)), (1, .int bi), (2, .int ti)] := hl
  have hX := hM.1
  have hA := hX.1
  have hG := hX.2.2
  have hb7 : S 7 0 ≤ 8 := hG.f 7 (mx := 8) (by decide)
  have hb11 : S 11 0 ≤ 20 := hG.f 11 (mx := 20) (by decide)
  have hb18 : S 18 0 ≤ 40 := hG.f 18 (mx := 40) (by decide)
  have hI : XX cA ad S d0 d0 := XX.start hM
  have hb1 : S 1 0 ≤ 4 := hG.f 1 (mx := 4) (by decide)
  have hb19 : S 19 0 ≤ 399 := hG.f 19 (mx := 399) (by decide)
  have hb22 : S 22 0 ≤ 64 := hG.f 22 (mx := 64) (by decide)
  have hb25 : S 25 0 ≤ 4 := hG.f 25 (mx := 4) (by decide)
  have hb30 : S 30 0 ≤ 10 := hG.f 30 (mx := 10) (by decide)
  have hb32 : S 32 0 ≤ 64 := hG.f 32 (mx := 64) (by decide)
  refine lv_iload_n hx hb dX9_bridge_0 rfl (lv_at hl 1 rfl) ?_
  refine n_iconst (v := 1) hx hb dX9_bridge_1 (by decide) ?_
  refine n_iconst (v := 1) hx hb dX9_bridge_2 (by decide) ?_
  have hpw := pow8 hb7
  refine lv_aload_n hx hb dX9_bridge_3 rfl (lv_at hl 0 rfl) ?_
  refine x_gr hx hb hu in_X9 hown hK hW (hA.o (k := 0) rfl) (kX_0 _ _ _ _) rfl 2 (by decide) uF_X9_21 (hA.f 2 (k := 4) (i := 0) (by decide) (hA.li (by omega))) dX9_bridge_4 ?_
  refine o_calli (o_runV (As := []) (rest := [.int (nI 1), .int (nI 1), .int bi]) ⟨hx, hb, hml, hown, hu⟩ (c_Jx4a65c_size_8abf5 l D cA B0 ad hal S d0 hI.1.1 0 (by decide)) (gV_X9_105 (fun _ h => h)) (n0 := 0) rfl (by decide +kernel) rfl ⟨Nat.le_of_ble_eq_true rfl, Nat.le_of_ble_eq_true rfl⟩ (o_recv hK hW (hA.li (by omega)) (kX_4 _ _ _ _) rfl) hK hW hB hS hl.1 rfl (lv_room (Nat.le_of_ble_eq_true rfl)) ⟨Nat.zero_le _, Nat.zero_le _⟩ dX9_bridge_7) hS (fun r_2 d_1 q_3 H locs hW hS => ?_)
  obtain ⟨rfl, rfl⟩ := q_3
  refine n_topi (y := nI (S 7 0)) rfl ?_
  refine lv_ishl hx hb dX9_bridge_10 ?_
  refine n_topi (y := nI (2 ^ S 7 0)) (shl1 hb7) ?_
  refine n_iconst (v := 1) hx hb dX9_bridge_11 (by decide) ?_
  refine n_isub hx hb (by omega) dX9_bridge_12 ?_
  refine o_calli (o_runS (As := [.int bi, .int (nI 1), .int (nI ((2 ^ S 7 0) - 1))]) (rest := []) ⟨hx, hb, hml, hown, hu⟩ (c_X9_within l D cA B0 ad hal d0 bi (nI 1) (nI ((2 ^ S 7 0) - 1))) (gS_X9_85 (fun _ h => h)) (n0 := 3) rfl (by decide +kernel) rfl ⟨Nat.le_of_ble_eq_true rfl, Nat.le_of_ble_eq_true rfl⟩ hK hW hB hS hl.1 rfl (lv_room (Nat.le_of_ble_eq_true rfl)) ⟨Nat.zero_le _, Nat.zero_le _⟩ dX9_bridge_13) hS (fun r_5 d_4 q_6 H locs hW hS => ?_)
  obtain ⟨rfl, rfl⟩ := q_6
  refine n_topi (y := bI (rx bi 1 ((2 ^ S 7 0) - 1))) (in_rx (by omega) (by omega)) ?_
  refine lv_if_eq (tgt := 34) hx hb dX9_bridge_16 (by decide) (fun c_7 => ?_) (fun c_7 => ?_)
  · refine n_iconst (v := 0) hx hb dX9_bridge_34 (by decide) ?_
    refine lv_istore_n (lv' := [(3, .int (nI 0)), (0, .ref (ad.1 0 0)), (1, .int bi), (2, .int ti)]) hx hb dX9_bridge_35 rfl hl (by decide) rfl (fun ls hl => ?_)
    refine lv_iload_n hx hb dX9_bridge_36 rfl (lv_at hl 0 rfl) ?_
    refine n_if_eq (tgt := 51) hx hb (by omega) dX9_bridge_37 (by decide) (fun c_r => ?_) (fun c_r => ?_)
    · refine lv_iconst (v := -1) hx hb dX9_bridge_51 (by decide) ?_
      refine W.widen (k := 2) (n := 80) (by decide) (by decide) ?_
      exact o_iretA hx hb hr hlocks hW hS (⟨by first | (simp only [aBridge, bI_z c_7, eq_self, ↓reduceIte, Bool.false_eq_true]; done) | (simp only [aBridge, bI_z c_7, eq_self, ↓reduceIte, Bool.false_eq_true]; rfl), by simp only [nBridge, bI_z c_7, eq_self, ↓reduceIte, Bool.false_eq_true]; exact hI.pub hR, AFr.refl ad⟩) dX9_bridge_52
    · exact absurd rfl c_r
  · obtain ⟨bin, hbina, hbin, rfl⟩ := rx_t (bI_n c_7) (by omega)
    refine lv_iload_n hx hb dX9_bridge_19 rfl (lv_at hl 2 rfl) ?_
    refine n_iconst (v := 0) hx hb dX9_bridge_20 (by decide) ?_
    refine n_sipush (v := 999) hx hb dX9_bridge_21 (by decide) ?_
    refine o_calli (o_runS (As := [.int ti, .int (nI 0), .int (nI 999)]) (rest := []) ⟨hx, hb, hml, hown, hu⟩ (c_X9_within l D cA B0 ad hal d0 ti (nI 0) (nI 999)) (gS_X9_85 (fun _ h => h)) (n0 := 3) rfl (by decide +kernel) rfl ⟨Nat.le_of_ble_eq_true rfl, Nat.le_of_ble_eq_true rfl⟩ hK hW hB hS hl.1 rfl (lv_room (Nat.le_of_ble_eq_true rfl)) ⟨Nat.zero_le _, Nat.zero_le _⟩ dX9_bridge_24) hS (fun r_9 d_8 q_10 H locs hW hS => ?_)
    obtain ⟨rfl, rfl⟩ := q_10
    refine n_topi (y := bI (ix ti 1000)) (in_ixc 1000 rfl (by decide)) ?_
    refine lv_if_eq (tgt := 34) hx hb dX9_bridge_27 (by decide) (fun c_11 => ?_) (fun c_11 => ?_)
    · refine n_iconst (v := 0) hx hb dX9_bridge_34 (by decide) ?_
      refine lv_istore_n (lv' := [(3, .int (nI 0)), (0, .ref (ad.1 0 0)), (1, .int (nI bin)), (2, .int ti)]) hx hb dX9_bridge_35 rfl hl (by decide) rfl (fun ls hl => ?_)
      refine lv_iload_n hx hb dX9_bridge_36 rfl (lv_at hl 0 rfl) ?_
      refine n_if_eq (tgt := 51) hx hb (by omega) dX9_bridge_37 (by decide) (fun c_r => ?_) (fun c_r => ?_)
      · refine lv_iconst (v := -1) hx hb dX9_bridge_51 (by decide) ?_
        refine W.widen (k := 2) (n := 80) (by decide) (by decide) ?_
        exact o_iretA hx hb hr hlocks hW hS (⟨by first | (simp only [aBridge, rx_nI hbina hbin (by omega), nx_nI (j := bin) (by omega), bI_z c_11, eq_self, ↓reduceIte, Bool.false_eq_true]; done) | (simp only [aBridge, rx_nI hbina hbin (by omega), nx_nI (j := bin) (by omega), bI_z c_11, eq_self, ↓reduceIte, Bool.false_eq_true]; rfl), by simp only [nBridge, rx_nI hbina hbin (by omega), nx_nI (j := bin) (by omega), bI_z c_11, eq_self, ↓reduceIte, Bool.false_eq_true]; exact hI.pub hR, AFr.refl ad⟩) dX9_bridge_52
      · exact absurd rfl c_r
    · obtain ⟨tin, htin, rfl⟩ := ix_t (bI_n c_11) (by omega)
      refine n_iconst (v := 1) hx hb dX9_bridge_30 (by decide) ?_
      refine lv_goto (tgt := 35) hx hb dX9_bridge_31 (by decide) ?_
      refine lv_istore_n (lv' := [(3, .int (nI 1)), (0, .ref (ad.1 0 0)), (1, .int (nI bin)), (2, .int (nI tin))]) hx hb dX9_bridge_35 rfl hl (by decide) rfl (fun ls hl => ?_)
      refine lv_iload_n hx hb dX9_bridge_36 rfl (lv_at hl 0 rfl) ?_
      refine n_if_eq (tgt := 51) hx hb (by omega) dX9_bridge_37 (by decide) (fun c_r => ?_) (fun c_r => ?_)
      · exact absurd c_r (by decide)
      · refine lv_aload_n hx hb dX9_bridge_40 rfl (lv_at hl 1 rfl) ?_
        refine x_gr hx hb hu in_X9 hown hK hW (hA.o (k := 0) rfl) (kX_0 _ _ _ _) rfl 4 (by decide) uF_X9_28 (hA.f 4 (k := 4) (i := 2) (by decide) (hA.li (by omega))) dX9_bridge_41 ?_
        refine o_calli (o_runV (As := []) (rest := []) ⟨hx, hb, hml, hown, hu⟩ (c_Jx4a65c_size_8abf5 l D cA B0 ad hal S d0 hI.1.1 2 (by decide)) (gV_X9_105 (fun _ h => h)) (n0 := 0) rfl (by decide +kernel) rfl ⟨Nat.le_of_ble_eq_true rfl, Nat.le_of_ble_eq_true rfl⟩ (o_recv hK hW (hA.li (by omega)) (kX_4 _ _ _ _) rfl) hK hW hB hS hl.1 rfl (lv_room (Nat.le_of_ble_eq_true rfl)) ⟨Nat.zero_le _, Nat.zero_le _⟩ dX9_bridge_44) hS (fun r_13 d_12 q_14 H locs hW hS => ?_)
        obtain ⟨rfl, rfl⟩ := q_14
        refine n_topi (y := nI (S 25 0)) rfl ?_
        refine n_iconst (v := 4) hx hb dX9_bridge_47 (by decide) ?_
        refine n_icmp_lt (tgt := 53) hx hb (by omega) (by omega) dX9_bridge_48 (by decide) (fun c_f => ?_) (fun c_f => ?_)
        · have hne : ¬ S 25 0 = 4 := by omega
          refine lv_aload_n hx hb dX9_bridge_53 rfl (lv_at hl 1 rfl) ?_
          refine x_gr hx hb hu in_X9 hown hK hW (hA.o (k := 0) rfl) (kX_0 _ _ _ _) rfl 4 (by decide) uF_X9_28 (hA.f 4 (k := 4) (i := 2) (by decide) (hA.li (by omega))) dX9_bridge_54 ?_
          have hdn : ad.1 9 (S 25 0) = 0 := hA.2.2.2.2.2.2.2.2.2.2.2.1 2 (by decide) (S 25 0) (Nat.le_refl _)
          refine x_new hx hb hu in_X1 tyX1 tyX1_ok hown uL_X9_290 uO_X1 uI_X1 hK hW hS hB (k := 9) (i := (S 25 0)) (by decide) hdn (fun _ _ _ => rfl) rfl (fun j hj => match j, hj with | 0, _ => rfl | 1, _ => rfl | (j + 2), hj => absurd hj (by omega)) ⟨Nat.le_of_ble_eq_true rfl, Nat.le_of_ble_eq_true rfl⟩ dX9_bridge_57 (fun q H hq hW hS => ?_)
          generalize haN : ad1 (zA ad 9 (S 25 0)) 9 (S 25 0) q = aN at hW
          generalize hdN : zD d0 9 (S 25 0) = dN at hW
          have n1 : ∀ k i, ¬ (k = 9 ∧ i = (S 25 0)) → aN.1 k i = ad.1 k i := fun k i h => by rw [← haN]; exact ad1_n _ _ h
          have nq : aN.1 9 (S 25 0) = q := by rw [← haN]; exact ad1_s _ _ _ _
          have n2 : ∀ k i, ¬ (k = 9 ∧ i = (S 25 0)) → aN.2 k i = ad.2 k i := fun k i h => by rw [← haN]; exact zA_n ad h
          have n3 : ∀ k i, ¬ (k = 9 ∧ i = (S 25 0)) → dN.1 k i = d0.1 k i := fun k i h => by rw [← hdN]; exact zD_n1 d0 h
          have n4 : ∀ k i, ¬ (k = 9 ∧ i = (S 25 0)) → dN.2.1 k i = d0.2.1 k i := fun k i h => by rw [← hdN]; exact zD_n2 d0 h
          have n5 : dN.2.2 = d0.2.2 := by rw [← hdN]; rfl
          refine lv_dup hx hb dX9_bridge_60 rfl ?_
          refine lv_iload_n hx hb dX9_bridge_61 rfl (lv_at hl 2 rfl) ?_
          refine lv_iload_n hx hb dX9_bridge_62 rfl (lv_at hl 3 rfl) ?_
          refine W.eq (g2 := F0 m 63 ls [.int (nI tin), .int (nI bin), .ref (aN.1 9 (S 25 0)), .ref (aN.1 9 (S 25 0)), .ref (ad.1 4 2)]) (by rw [nq]) ?_
          refine o_callvA (x_runI (As := [.int (nI bin), .int (nI tin)]) (rest := [.ref (aN.1 9 (S 25 0)), .ref (ad.1 4 2)]) ⟨hx, hb, hml, hown, hu⟩ (c_X1_init l D cA B0 aN dN (S 25 0) (by rw [nq]; exact hq) (nI bin) (nI tin)) uC_X1_init uN_X1_init uI_X1 uM_X9_292 (n0 := 2) (by decide +kernel) rfl ⟨Nat.le_of_ble_eq_true rfl, Nat.le_of_ble_eq_true rfl⟩ hK hW hB hS hl.1 rfl (lv_room (Nat.le_of_ble_eq_true rfl)) ⟨Nat.le_of_ble_eq_true rfl, Nat.le_of_ble_eq_true rfl⟩ dX9_bridge_63) hS (fun u hp H locs hW hS => ?_)
          obtain ⟨aI, dI⟩ := u
          obtain ⟨haI, hdI⟩ := Prod.mk.inj hp
          have i1 : aI.1 = aN.1 := by rw [haI]; first | done | rfl
          have i2 : ∀ k i, ¬ (k = 9 ∧ i = (S 25 0)) → aI.2 k i = ad.2 k i := fun k i h => by rw [haI]; exact n2 k i h
          have j1 : ∀ k i f, ¬ (k = 9 ∧ i = (S 25 0)) → dI.1 k i f = d0.1 k i f := fun k i f h => by rw [hdI]; rw [uI_n _ _ (by omega)]; rw [uI_n _ _ (by omega)]; rw [n3 k i h]
          have j2 : ∀ k i f, ¬ (k = 9 ∧ i = (S 25 0)) → dI.2.1 k i f = d0.2.1 k i f := fun k i f h => by rw [hdI]; rw [uI_2]; rw [uI_2]; rw [n4 k i h]
          have j3 : dI.2.2 = d0.2.2 := by rw [hdI]; exact n5
          have aF : AFr ad aI := ⟨fun k hk => by funext i; rw [i1]; exact n1 k i (by omega), fun k hk => by funext i; exact i2 k i (by omega)⟩
          have h4 : aI.1 4 2 = ad.1 4 2 := by rw [i1]; exact n1 4 2 (by omega)
          have hqI : aI.1 9 (S 25 0) ≠ 0 := by rw [i1, nq]; exact hq
          have h4n : aI.1 4 2 ≠ 0 := by rw [h4]; exact hA.li (by decide)
          refine W.eq (g2 := F0 m 66 ls [.ref (aI.1 9 (S 25 0)), .ref (aI.1 4 2)]) (by rw [h4, i1]) ?_
          refine o_calliA (o_runV (As := [.ref (aI.1 9 (S 25 0))]) (rest := []) ⟨hx, hb, hml, hown, hu⟩ (c_Jx4a65c_add_9ea2d l D cA B0 aI (aF.mal hal) dI 2 (S 25 0) 9 2 2 (fs := fun i => xO (aI.2 9 i) (dI.1 9 i) (dI.2.1 9 i) [0, 0]) h4n (by rw [i1, n1 28 0 (by omega)]; exact hA.2.2.2.2.2.2.2.2.2.2.2.2.2) (by rw [i2 4 2 (by omega), i2 5 2 (by omega), i1, n1 5 2 (by omega)]; exact (hA.ls (j := 2) (by decide)).1) (by omega) (fun i hi => by have h := (hA.ls (j := 2) (by decide)).2 i hi; rw [i2 5 2 (by omega), i1, n1 9 i (by omega)]; exact ⟨h.2, h.1⟩) hqI (by decide) (fun a d ha h1 h2 i => by rw [kX_9, ha, h1, h2]) rfl uX_1454 (by rw [j1 4 2 2 (by omega)]; exact hM.1.2.1.size (j := 2) (by decide))) (gV_X9_122 (fun _ h => h)) (n0 := 1) rfl (by decide +kernel) rfl ⟨Nat.le_of_ble_eq_true rfl, Nat.le_of_ble_eq_true rfl⟩ (o_recv hK hW h4n (kX_4 _ _ _ _) rfl) hK hW hB hS hl.1 rfl (lv_room (Nat.le_of_ble_eq_true rfl)) ⟨Nat.le_of_ble_eq_true rfl, Nat.le_of_ble_eq_true rfl⟩ dX9_bridge_66) hS (fun r u hp H locs hW hS => ?_)
          obtain ⟨a3, d3⟩ := u
          obtain ⟨rfl, hAd, hd3⟩ := hp
          have hGw : GwP ad 2 9 (S 25 0) a3 := GwP.of (by decide) n1 (by rw [nq]; exact hq) i1 i2 hAd
          have hGd : GwD d0 2 9 (S 25 0) d3 := by rw [show d3 = _ from hd3]; exact GwD.of (by decide) j1 j2 j3
          have hGS : GwS S 23 24 25 (S 25 0) (upS (upS (upS S 23 (S 25 0) bin) 24 (S 25 0) tin) 25 0 (S 25 0 + 1)) := ⟨fun f i h1 h2 => by rw [upS_n _ _ (by omega), upS_n _ _ (by omega), upS_n _ _ (by omega)], upS_s _ _ _ _⟩
          have dv : ∀ f, d3.1 9 (S 25 0) f = dI.1 9 (S 25 0) f := fun f => by rw [show d3 = _ from hd3, uI_n _ _ (by omega), uI_n _ _ (by omega)]
          have r0 : d3.1 9 (S 25 0) 0 = nI bin := by rw [dv, hdI]; rw [uI_n _ _ (by omega)]; exact uI_s _ _ _ _ _
          have r1 : d3.1 9 (S 25 0) 1 = nI tin := by rw [dv, hdI]; exact uI_s _ _ _ _ _
          have t23 : (upS (upS (upS S 23 (S 25 0) bin) 24 (S 25 0) tin) 25 0 (S 25 0 + 1)) 23 (S 25 0) = bin := by rw [upS_n _ _ (by omega), upS_n _ _ (by omega), upS_s]
          have t24 : (upS (upS (upS S 23 (S 25 0) bin) 24 (S 25 0) tin) 25 0 (S 25 0 + 1)) 24 (S 25 0) = tin := by rw [upS_n _ _ (by omega), upS_s]
          have hrec : d3.1 9 (S 25 0) 0 = nI ((upS (upS (upS S 23 (S 25 0) bin) 24 (S 25 0) tin) 25 0 (S 25 0 + 1)) 23 (S 25 0)) ∧ d3.1 9 (S 25 0) 1 = nI ((upS (upS (upS S 23 (S 25 0) bin) 24 (S 25 0) tin) 25 0 (S 25 0 + 1)) 24 (S 25 0)) := ⟨by rw [r0, t23], by rw [r1, t24]⟩
          have hP : PX cA a3 (upS (upS (upS S 23 (S 25 0) bin) 24 (S 25 0) tin) 25 0 (S 25 0 + 1)) sr d0 d3 := xg2 hM hR rfl (by omega) ((((hG.b.up 23 _ (mx := 255) rfl (by omega)).up 24 _ (mx := 999) rfl (by omega)).up 25 0 (mx := 4) rfl (by omega)).g ⟨hG.2.2.1, hG.2.2.2.1, hG.2.2.2.2.1, hG.2.2.2.2.2.1, fun k hk => up_lt (f := 23) (g := S 23) (m := 2 ^ S 7 0) (by omega) (fun hk => hG.2.2.2.2.2.2 k hk) hk⟩) hGw hGd hGS hrec
          refine lv_pop hx hb dX9_bridge_69 rfl ?_
          have hA3 := hP.1.1.1
          have h00 : a3.1 0 0 = ad.1 0 0 := hGw.2.1 0 0 (by omega) (by omega)
          refine lv_aload_n hx hb dX9_bridge_70 rfl (lv_at hl 1 rfl) ?_
          refine W.eq (g2 := F0 m 71 ls [.ref (a3.1 0 0)]) (by rw [h00]) ?_
          refine x_gr hx hb hu in_X9 hown hK hW (hA3.o (k := 0) rfl) (kX_0 _ _ _ _) rfl 4 (by decide) uF_X9_28 (hA3.f 4 (k := 4) (i := 2) (by decide) (hA3.li (by decide))) dX9_bridge_71 ?_
          refine o_calli (o_runV (As := []) (rest := []) ⟨hx, hb, hml, hown, hu⟩ (c_Jx4a65c_size_8abf5 l D cA B0 a3 ((hGw.afr (by decide)).mal hal) (upS (upS (upS S 23 (S 25 0) bin) 24 (S 25 0) tin) 25 0 (S 25 0 + 1)) d3 hP.1.1 2 (by decide)) (gV_X9_105 (fun _ h => h)) (n0 := 0) rfl (by decide +kernel) rfl ⟨Nat.le_of_ble_eq_true rfl, Nat.le_of_ble_eq_true rfl⟩ (o_recv hK hW (hA3.li (by decide)) (kX_4 _ _ _ _) rfl) hK hW hB hS hl.1 rfl (lv_room (Nat.le_of_ble_eq_true rfl)) ⟨Nat.le_of_ble_eq_true rfl, Nat.le_of_ble_eq_true rfl⟩ dX9_bridge_74) hS (fun r d4 hp H locs hW hS => ?_)
          obtain ⟨rfl, rfl⟩ := hp
          refine n_topi (y := nI (S 25 0 + 1)) rfl ?_
          refine n_iconst (v := 1) hx hb dX9_bridge_77 (by decide) ?_
          refine n_isub hx hb (by omega) dX9_bridge_78 ?_
          refine n_top (b := S 25 0) (by omega) ?_
          refine W.widen (k := 2) (n := 80) (by decide) (by decide) ?_
          exact o_iretA hx hb hr hlocks hW hS ⟨by simp only [aBridge, rx_nI hbina hbin (by omega), nx_nI (j := bin) (by omega), ix_nI htin (by omega), nx_nI (j := tin) (by omega), hne, eq_self, ↓reduceIte, Bool.false_eq_true], by simp only [nBridge, rx_nI hbina hbin (by omega), nx_nI (j := bin) (by omega), ix_nI htin (by omega), nx_nI (j := tin) (by omega), hne, eq_self, ↓reduceIte, Bool.false_eq_true]; exact hP, hGw.afr (by decide)⟩ dX9_bridge_79
        · have hne : S 25 0 = 4 := by omega
          refine lv_iconst (v := -1) hx hb dX9_bridge_51 (by decide) ?_
          refine W.widen (k := 2) (n := 80) (by decide) (by decide) ?_
          exact o_iretA hx hb hr hlocks hW hS (⟨by first | (simp only [aBridge, rx_nI hbina hbin (by omega), nx_nI (j := bin) (by omega), ix_nI htin (by omega), nx_nI (j := tin) (by omega), hne, eq_self, ↓reduceIte, Bool.false_eq_true]; done) | (simp only [aBridge, rx_nI hbina hbin (by omega), nx_nI (j := bin) (by omega), ix_nI htin (by omega), nx_nI (j := tin) (by omega), hne, eq_self, ↓reduceIte, Bool.false_eq_true]; rfl), by simp only [nBridge, rx_nI hbina hbin (by omega), nx_nI (j := bin) (by omega), ix_nI htin (by omega), nx_nI (j := tin) (by omega), hne, eq_self, ↓reduceIte, Bool.false_eq_true]; exact hI.pub hR, AFr.refl ad⟩) dX9_bridge_52

set_option maxHeartbeats 400000 in
set_option maxRecDepth 100000 in
theorem c_X9_offer (l : Launch) (D : va_G) (cA : Nat → ClassId) (B0 : Nat) (ad : kA) (hal : mAl ad) (S : sS) (sr : Nat → Int32) (d0 : kD) (hM : InvX cA ad S d0) (hR : RowX S sr d0) (pi mo co : Int32) : oM l yX9_offer wX9_offer 8 2 80 D cA B0 ad d0 ([.ref (ad.1 0 0), .int pi, .int mo, .int co] : List Value) (oQiA D cA B0 (fun r u => r = aOffer S pi mo co ∧ PX cA u.1 (nOffer S pi mo co) sr d0 u.2 ∧ AFr ad u.1)) := by
  refine o_ofW (cc := cX9_offer) (maxL := 4) (ret := some .int) (by decide) rfl (Nat.le_of_ble_eq_true rfl) ?_
  intro p e s m below meth c hx hb hr hml hts hown hlocks hnm hK hW hB hS ls hl
  have hu : ∀ w ∈ UW, w.before _ s = true := fun w h => hts w (uw_c w h)
  have hl : lv_has ls 4 [(0, .ref (ad.1 0 0)), (1, .int pi), (2, .int mo), (3, .int co)] := hl
  have hX := hM.1
  have hA := hX.1
  have hG := hX.2.2
  have hb7 : S 7 0 ≤ 8 := hG.f 7 (mx := 8) (by decide)
  have hb11 : S 11 0 ≤ 20 := hG.f 11 (mx := 20) (by decide)
  have hb18 : S 18 0 ≤ 40 := hG.f 18 (mx := 40) (by decide)
  have hI : XX cA ad S d0 d0 := XX.start hM
  have hb1 : S 1 0 ≤ 4 := hG.f 1 (mx := 4) (by decide)
  have hb19 : S 19 0 ≤ 399 := hG.f 19 (mx := 399) (by decide)
  have hb22 : S 22 0 ≤ 64 := hG.f 22 (mx := 64) (by decide)
  have hb25 : S 25 0 ≤ 4 := hG.f 25 (mx := 4) (by decide)
  have hb30 : S 30 0 ≤ 10 := hG.f 30 (mx := 10) (by decide)
  have hb32 : S 32 0 ≤ 64 := hG.f 32 (mx := 64) (by decide)
  refine lv_aload_n hx hb dX9_offer_0 rfl (lv_at hl 0 rfl) ?_
  refine lv_iload_n hx hb dX9_offer_1 rfl (lv_at hl 1 rfl) ?_
  refine o_callq (o_runV (As := [.int pi]) (rest := []) ⟨hx, hb, hml, hown, hu⟩ (c_X9_pierOf l D cA B0 ad hal S d0 hI.1.1 pi) (gV_X9_126 (fun _ h => h)) (n0 := 1) rfl (by decide +kernel) rfl ⟨Nat.le_of_ble_eq_true rfl, Nat.le_of_ble_eq_true rfl⟩ (o_recv hK hW (hA.o (k := 0) rfl) (kX_0 _ _ _ _) rfl) hK hW hB hS hl.1 rfl (lv_room (Nat.le_of_ble_eq_true rfl)) ⟨Nat.zero_le _, Nat.zero_le _⟩ dX9_offer_2) hS (fun r_2 d_1 q_3 H locs hW hS => ?_)
  obtain ⟨rfl, rfl⟩ := q_3
  cases o_4 : ix pi (S 7 0) with
  | false =>
    refine W.eq (g2 := F0 m 5 ls [.null]) rfl ?_
    refine lv_ifnullN (tgt := 41) hx hb dX9_offer_5 (by decide) ?_
    refine lv_iconst (v := -1) hx hb dX9_offer_41 (by decide) ?_
    refine W.widen (k := 2) (n := 80) (by decide) (by decide) ?_
    exact o_iretA hx hb hr hlocks hW hS (⟨by first | (simp only [aOffer, o_4, eq_self, ↓reduceIte, Bool.false_eq_true]; done) | (simp only [aOffer, o_4, eq_self, ↓reduceIte, Bool.false_eq_true]; rfl), by simp only [nOffer, o_4, eq_self, ↓reduceIte, Bool.false_eq_true]; exact hI.pub hR, AFr.refl ad⟩) dX9_offer_42
  | true =>
    obtain ⟨pin, hpin, rfl⟩ := ix_t o_4 (by omega)
    refine W.eq (g2 := F0 m 5 ls [.ref (ad.1 6 pin)]) (by rw [if_pos rfl, nx_nI (by omega)]; rfl) ?_
    refine lv_ifnull hx hb dX9_offer_5 ?_
    refine lv_iload_n hx hb dX9_offer_8 rfl (lv_at hl 2 rfl) ?_
    refine n_iconst (v := 1) hx hb dX9_offer_9 (by decide) ?_
    refine n_bipush (v := 99) hx hb dX9_offer_10 (by decide) ?_
    refine o_calli (o_runS (As := [.int mo, .int (nI 1), .int (nI 99)]) (rest := []) ⟨hx, hb, hml, hown, hu⟩ (c_X9_within l D cA B0 ad hal d0 mo (nI 1) (nI 99)) (gS_X9_85 (fun _ h => h)) (n0 := 3) rfl (by decide +kernel) rfl ⟨Nat.le_of_ble_eq_true rfl, Nat.le_of_ble_eq_true rfl⟩ hK hW hB hS hl.1 rfl (lv_room (Nat.le_of_ble_eq_true rfl)) ⟨Nat.zero_le _, Nat.zero_le _⟩ dX9_offer_12) hS (fun r_6 d_5 q_7 H locs hW hS => ?_)
    obtain ⟨rfl, rfl⟩ := q_7
    refine n_topi (y := bI (rx mo 1 99)) (in_rx (by omega) (by omega)) ?_
    refine lv_if_eq (tgt := 41) hx hb dX9_offer_15 (by decide) (fun c_8 => ?_) (fun c_8 => ?_)
    · refine lv_iconst (v := -1) hx hb dX9_offer_41 (by decide) ?_
      refine W.widen (k := 2) (n := 80) (by decide) (by decide) ?_
      exact o_iretA hx hb hr hlocks hW hS (⟨by first | (simp only [aOffer, ix_nI hpin (by omega), nx_nI (j := pin) (by omega), bI_z c_8, eq_self, ↓reduceIte, Bool.false_eq_true]; done) | (simp only [aOffer, ix_nI hpin (by omega), nx_nI (j := pin) (by omega), bI_z c_8, eq_self, ↓reduceIte, Bool.false_eq_true]; rfl), by simp only [nOffer, ix_nI hpin (by omega), nx_nI (j := pin) (by omega), bI_z c_8, eq_self, ↓reduceIte, Bool.false_eq_true]; exact hI.pub hR, AFr.refl ad⟩) dX9_offer_42
    · obtain ⟨mon, hmona, hmon, rfl⟩ := rx_t (bI_n c_8) (by omega)
      refine lv_iload_n hx hb dX9_offer_18 rfl (lv_at hl 3 rfl) ?_
      refine n_iconst (v := 1) hx hb dX9_offer_19 (by decide) ?_
      refine n_sipush (v := 999) hx hb dX9_offer_20 (by decide) ?_
      refine o_calli (o_runS (As := [.int co, .int (nI 1), .int (nI 999)]) (rest := []) ⟨hx, hb, hml, hown, hu⟩ (c_X9_within l D cA B0 ad hal d0 co (nI 1) (nI 999)) (gS_X9_85 (fun _ h => h)) (n0 := 3) rfl (by decide +kernel) rfl ⟨Nat.le_of_ble_eq_true rfl, Nat.le_of_ble_eq_true rfl⟩ hK hW hB hS hl.1 rfl (lv_room (Nat.le_of_ble_eq_true rfl)) ⟨Nat.zero_le _, Nat.zero_le _⟩ dX9_offer_23) hS (fun r_10 d_9 q_11 H locs hW hS => ?_)
      obtain ⟨rfl, rfl⟩ := q_11
      refine n_topi (y := bI (rx co 1 999)) (in_rx (by omega) (by omega)) ?_
      refine lv_if_eq (tgt := 41) hx hb dX9_offer_26 (by decide) (fun c_12 => ?_) (fun c_12 => ?_)
      · refine lv_iconst (v := -1) hx hb dX9_offer_41 (by decide) ?_
        refine W.widen (k := 2) (n := 80) (by decide) (by decide) ?_
        exact o_iretA hx hb hr hlocks hW hS (⟨by first | (simp only [aOffer, ix_nI hpin (by omega), nx_nI (j := pin) (by omega), rx_nI hmona hmon (by omega), nx_nI (j := mon) (by omega), bI_z c_12, eq_self, ↓reduceIte, Bool.false_eq_true]; done) | (simp only [aOffer, ix_nI hpin (by omega), nx_nI (j := pin) (by omega), rx_nI hmona hmon (by omega), nx_nI (j := mon) (by omega), bI_z c_12, eq_self, ↓reduceIte, Bool.false_eq_true]; rfl), by simp only [nOffer, ix_nI hpin (by omega), nx_nI (j := pin) (by omega), rx_nI hmona hmon (by omega), nx_nI (j := mon) (by omega), bI_z c_12, eq_self, ↓reduceIte, Bool.false_eq_true]; exact hI.pub hR, AFr.refl ad⟩) dX9_offer_42
      · obtain ⟨con, hcona, hcon, rfl⟩ := rx_t (bI_n c_12) (by omega)
        refine lv_aload_n hx hb dX9_offer_29 rfl (lv_at hl 0 rfl) ?_
        refine x_gr hx hb hu in_X9 hown hK hW (hA.o (k := 0) rfl) (kX_0 _ _ _ _) rfl 5 (by decide) uF_X9_31 (hA.f 5 (k := 4) (i := 3) (by decide) (hA.li (by omega))) dX9_offer_30 ?_
        refine o_calli (o_runV (As := []) (rest := []) ⟨hx, hb, hml, hown, hu⟩ (c_Jx4a65c_size_8abf5 l D cA B0 ad hal S d0 hI.1.1 3 (by decide)) (gV_X9_105 (fun _ h => h)) (n0 := 0) rfl (by decide +kernel) rfl ⟨Nat.le_of_ble_eq_true rfl, Nat.le_of_ble_eq_true rfl⟩ (o_recv hK hW (hA.li (by omega)) (kX_4 _ _ _ _) rfl) hK hW hB hS hl.1 rfl (lv_room (Nat.le_of_ble_eq_true rfl)) ⟨Nat.zero_le _, Nat.zero_le _⟩ dX9_offer_33) hS (fun r_14 d_13 q_15 H locs hW hS => ?_)
        obtain ⟨rfl, rfl⟩ := q_15
        refine n_topi (y := nI (S 30 0)) rfl ?_
        refine n_bipush (v := 10) hx hb dX9_offer_36 (by decide) ?_
        refine n_icmp_lt (tgt := 43) hx hb (by omega) (by omega) dX9_offer_38 (by decide) (fun c_f => ?_) (fun c_f => ?_)
        · have hne : ¬ S 30 0 = 10 := by omega
          refine lv_aload_n hx hb dX9_offer_43 rfl (lv_at hl 0 rfl) ?_
          refine x_gr hx hb hu in_X9 hown hK hW (hA.o (k := 0) rfl) (kX_0 _ _ _ _) rfl 5 (by decide) uF_X9_31 (hA.f 5 (k := 4) (i := 3) (by decide) (hA.li (by omega))) dX9_offer_44 ?_
          have hdn : ad.1 10 (S 30 0) = 0 := hA.2.2.2.2.2.2.2.2.2.2.2.1 3 (by decide) (S 30 0) (Nat.le_refl _)
          refine x_new hx hb hu in_X4 tyX4 tyX4_ok hown uL_X9_337 uO_X4 uI_X4 hK hW hS hB (k := 10) (i := (S 30 0)) (by decide) hdn (fun _ _ _ => rfl) rfl (fun j hj => match j, hj with | 0, _ => rfl | 1, _ => rfl | 2, _ => rfl | (j + 3), hj => absurd hj (by omega)) ⟨Nat.le_of_ble_eq_true rfl, Nat.le_of_ble_eq_true rfl⟩ dX9_offer_47 (fun q H hq hW hS => ?_)
          generalize haN : ad1 (zA ad 10 (S 30 0)) 10 (S 30 0) q = aN at hW
          generalize hdN : zD d0 10 (S 30 0) = dN at hW
          have n1 : ∀ k i, ¬ (k = 10 ∧ i = (S 30 0)) → aN.1 k i = ad.1 k i := fun k i h => by rw [← haN]; exact ad1_n _ _ h
          have nq : aN.1 10 (S 30 0) = q := by rw [← haN]; exact ad1_s _ _ _ _
          have n2 : ∀ k i, ¬ (k = 10 ∧ i = (S 30 0)) → aN.2 k i = ad.2 k i := fun k i h => by rw [← haN]; exact zA_n ad h
          have n3 : ∀ k i, ¬ (k = 10 ∧ i = (S 30 0)) → dN.1 k i = d0.1 k i := fun k i h => by rw [← hdN]; exact zD_n1 d0 h
          have n4 : ∀ k i, ¬ (k = 10 ∧ i = (S 30 0)) → dN.2.1 k i = d0.2.1 k i := fun k i h => by rw [← hdN]; exact zD_n2 d0 h
          have n5 : dN.2.2 = d0.2.2 := by rw [← hdN]; rfl
          refine lv_dup hx hb dX9_offer_50 rfl ?_
          refine lv_iload_n hx hb dX9_offer_51 rfl (lv_at hl 1 rfl) ?_
          refine lv_iload_n hx hb dX9_offer_52 rfl (lv_at hl 2 rfl) ?_
          refine lv_iload_n hx hb dX9_offer_53 rfl (lv_at hl 3 rfl) ?_
          refine W.eq (g2 := F0 m 54 ls [.int (nI con), .int (nI mon), .int (nI pin), .ref (aN.1 10 (S 30 0)), .ref (aN.1 10 (S 30 0)), .ref (ad.1 4 3)]) (by rw [nq]) ?_
          refine o_callvA (x_runI (As := [.int (nI pin), .int (nI mon), .int (nI con)]) (rest := [.ref (aN.1 10 (S 30 0)), .ref (ad.1 4 3)]) ⟨hx, hb, hml, hown, hu⟩ (c_X4_init l D cA B0 aN dN (S 30 0) (by rw [nq]; exact hq) (nI pin) (nI mon) (nI con)) uC_X4_init uN_X4_init uI_X4 uM_X9_339 (n0 := 3) (by decide +kernel) rfl ⟨Nat.le_of_ble_eq_true rfl, Nat.le_of_ble_eq_true rfl⟩ hK hW hB hS hl.1 rfl (lv_room (Nat.le_of_ble_eq_true rfl)) ⟨Nat.le_of_ble_eq_true rfl, Nat.le_of_ble_eq_true rfl⟩ dX9_offer_54) hS (fun u hp H locs hW hS => ?_)
          obtain ⟨aI, dI⟩ := u
          obtain ⟨haI, hdI⟩ := Prod.mk.inj hp
          have i1 : aI.1 = aN.1 := by rw [haI]; first | done | rfl
          have i2 : ∀ k i, ¬ (k = 10 ∧ i = (S 30 0)) → aI.2 k i = ad.2 k i := fun k i h => by rw [haI]; exact n2 k i h
          have j1 : ∀ k i f, ¬ (k = 10 ∧ i = (S 30 0)) → dI.1 k i f = d0.1 k i f := fun k i f h => by rw [hdI]; rw [uI_n _ _ (by omega)]; rw [uI_n _ _ (by omega)]; rw [uI_n _ _ (by omega)]; rw [n3 k i h]
          have j2 : ∀ k i f, ¬ (k = 10 ∧ i = (S 30 0)) → dI.2.1 k i f = d0.2.1 k i f := fun k i f h => by rw [hdI]; rw [uI_2]; rw [uI_2]; rw [uI_2]; rw [n4 k i h]
          have j3 : dI.2.2 = d0.2.2 := by rw [hdI]; exact n5
          have aF : AFr ad aI := ⟨fun k hk => by funext i; rw [i1]; exact n1 k i (by omega), fun k hk => by funext i; exact i2 k i (by omega)⟩
          have h4 : aI.1 4 3 = ad.1 4 3 := by rw [i1]; exact n1 4 3 (by omega)
          have hqI : aI.1 10 (S 30 0) ≠ 0 := by rw [i1, nq]; exact hq
          have h4n : aI.1 4 3 ≠ 0 := by rw [h4]; exact hA.li (by decide)
          refine W.eq (g2 := F0 m 57 ls [.ref (aI.1 10 (S 30 0)), .ref (aI.1 4 3)]) (by rw [h4, i1]) ?_
          refine o_calliA (o_runV (As := [.ref (aI.1 10 (S 30 0))]) (rest := []) ⟨hx, hb, hml, hown, hu⟩ (c_Jx4a65c_add_9ea2d l D cA B0 aI (aF.mal hal) dI 3 (S 30 0) 10 5 3 (fs := fun i => xO (aI.2 10 i) (dI.1 10 i) (dI.2.1 10 i) [0, 0, 0]) h4n (by rw [i1, n1 28 0 (by omega)]; exact hA.2.2.2.2.2.2.2.2.2.2.2.2.2) (by rw [i2 4 3 (by omega), i2 5 3 (by omega), i1, n1 5 3 (by omega)]; exact (hA.ls (j := 3) (by decide)).1) (by omega) (fun i hi => by have h := (hA.ls (j := 3) (by decide)).2 i hi; rw [i2 5 3 (by omega), i1, n1 10 i (by omega)]; exact ⟨h.2, h.1⟩) hqI (by decide) (fun a d ha h1 h2 i => by rw [kX_10, ha, h1, h2]) rfl uX_1455 (by rw [j1 4 3 2 (by omega)]; exact hM.1.2.1.size (j := 3) (by decide))) (gV_X9_122 (fun _ h => h)) (n0 := 1) rfl (by decide +kernel) rfl ⟨Nat.le_of_ble_eq_true rfl, Nat.le_of_ble_eq_true rfl⟩ (o_recv hK hW h4n (kX_4 _ _ _ _) rfl) hK hW hB hS hl.1 rfl (lv_room (Nat.le_of_ble_eq_true rfl)) ⟨Nat.le_of_ble_eq_true rfl, Nat.le_of_ble_eq_true rfl⟩ dX9_offer_57) hS (fun r u hp H locs hW hS => ?_)
          obtain ⟨a3, d3⟩ := u
          obtain ⟨rfl, hAd, hd3⟩ := hp
          have hGw : GwP ad 3 10 (S 30 0) a3 := GwP.of (by decide) n1 (by rw [nq]; exact hq) i1 i2 hAd
          have hGd : GwD d0 3 10 (S 30 0) d3 := by rw [show d3 = _ from hd3]; exact GwD.of (by decide) j1 j2 j3
          have hGS : GwS S 27 29 30 (S 30 0) (upS (upS (upS (upS S 27 (S 30 0) pin) 28 (S 30 0) mon) 29 (S 30 0) con) 30 0 (S 30 0 + 1)) := ⟨fun f i h1 h2 => by rw [upS_n _ _ (by omega), upS_n _ _ (by omega), upS_n _ _ (by omega), upS_n _ _ (by omega)], upS_s _ _ _ _⟩
          have dv : ∀ f, d3.1 10 (S 30 0) f = dI.1 10 (S 30 0) f := fun f => by rw [show d3 = _ from hd3, uI_n _ _ (by omega), uI_n _ _ (by omega)]
          have r0 : d3.1 10 (S 30 0) 0 = nI pin := by rw [dv, hdI]; rw [uI_n _ _ (by omega)]; rw [uI_n _ _ (by omega)]; exact uI_s _ _ _ _ _
          have r1 : d3.1 10 (S 30 0) 1 = nI mon := by rw [dv, hdI]; rw [uI_n _ _ (by omega)]; exact uI_s _ _ _ _ _
          have r2 : d3.1 10 (S 30 0) 2 = nI con := by rw [dv, hdI]; exact uI_s _ _ _ _ _
          have t27 : (upS (upS (upS (upS S 27 (S 30 0) pin) 28 (S 30 0) mon) 29 (S 30 0) con) 30 0 (S 30 0 + 1)) 27 (S 30 0) = pin := by rw [upS_n _ _ (by omega), upS_n _ _ (by omega), upS_n _ _ (by omega), upS_s]
          have t28 : (upS (upS (upS (upS S 27 (S 30 0) pin) 28 (S 30 0) mon) 29 (S 30 0) con) 30 0 (S 30 0 + 1)) 28 (S 30 0) = mon := by rw [upS_n _ _ (by omega), upS_n _ _ (by omega), upS_s]
          have t29 : (upS (upS (upS (upS S 27 (S 30 0) pin) 28 (S 30 0) mon) 29 (S 30 0) con) 30 0 (S 30 0 + 1)) 29 (S 30 0) = con := by rw [upS_n _ _ (by omega), upS_s]
          have hrec : ∀ f, f < 3 → d3.1 10 (S 30 0) f = nI ((upS (upS (upS (upS S 27 (S 30 0) pin) 28 (S 30 0) mon) 29 (S 30 0) con) 30 0 (S 30 0 + 1)) (27 + f) (S 30 0)) := fun f hf => match f, hf with | 0, _ => by rw [r0, t27] | 1, _ => by rw [r1, t28] | 2, _ => by rw [r2, t29] | (f + 3), hf => absurd hf (by omega)
          have hP : PX cA a3 (upS (upS (upS (upS S 27 (S 30 0) pin) 28 (S 30 0) mon) 29 (S 30 0) con) 30 0 (S 30 0 + 1)) sr d0 d3 := xg3 hM hR rfl (by omega) (((((hG.b.up 27 _ (mx := 7) rfl (by omega)).up 28 _ (mx := 99) rfl (by omega)).up 29 _ (mx := 999) rfl (by omega)).up 30 0 (mx := 10) rfl (by omega)).g ⟨hG.2.2.1, hG.2.2.2.1, hG.2.2.2.2.1, fun k hk => up_lt hpin (fun hk => hG.2.2.2.2.2.1 k hk) hk, hG.2.2.2.2.2.2⟩) hGw hGd hGS hrec
          refine lv_pop hx hb dX9_offer_60 rfl ?_
          have hA3 := hP.1.1.1
          have h00 : a3.1 0 0 = ad.1 0 0 := hGw.2.1 0 0 (by omega) (by omega)
          refine lv_aload_n hx hb dX9_offer_61 rfl (lv_at hl 0 rfl) ?_
          refine W.eq (g2 := F0 m 62 ls [.ref (a3.1 0 0)]) (by rw [h00]) ?_
          refine x_gr hx hb hu in_X9 hown hK hW (hA3.o (k := 0) rfl) (kX_0 _ _ _ _) rfl 5 (by decide) uF_X9_31 (hA3.f 5 (k := 4) (i := 3) (by decide) (hA3.li (by decide))) dX9_offer_62 ?_
          refine o_calli (o_runV (As := []) (rest := []) ⟨hx, hb, hml, hown, hu⟩ (c_Jx4a65c_size_8abf5 l D cA B0 a3 ((hGw.afr (by decide)).mal hal) (upS (upS (upS (upS S 27 (S 30 0) pin) 28 (S 30 0) mon) 29 (S 30 0) con) 30 0 (S 30 0 + 1)) d3 hP.1.1 3 (by decide)) (gV_X9_105 (fun _ h => h)) (n0 := 0) rfl (by decide +kernel) rfl ⟨Nat.le_of_ble_eq_true rfl, Nat.le_of_ble_eq_true rfl⟩ (o_recv hK hW (hA3.li (by decide)) (kX_4 _ _ _ _) rfl) hK hW hB hS hl.1 rfl (lv_room (Nat.le_of_ble_eq_true rfl)) ⟨Nat.le_of_ble_eq_true rfl, Nat.le_of_ble_eq_true rfl⟩ dX9_offer_65) hS (fun r d4 hp H locs hW hS => ?_)
          obtain ⟨rfl, rfl⟩ := hp
          refine n_topi (y := nI (S 30 0 + 1)) rfl ?_
          refine W.widen (k := 2) (n := 80) (by decide) (by decide) ?_
          exact o_iretA hx hb hr hlocks hW hS ⟨by simp only [aOffer, ix_nI hpin (by omega), nx_nI (j := pin) (by omega), rx_nI hmona hmon (by omega), nx_nI (j := mon) (by omega), rx_nI hcona hcon (by omega), nx_nI (j := con) (by omega), hne, eq_self, ↓reduceIte, Bool.false_eq_true], by simp only [nOffer, ix_nI hpin (by omega), nx_nI (j := pin) (by omega), rx_nI hmona hmon (by omega), nx_nI (j := mon) (by omega), rx_nI hcona hcon (by omega), nx_nI (j := con) (by omega), hne, eq_self, ↓reduceIte, Bool.false_eq_true]; exact hP, hGw.afr (by decide)⟩ dX9_offer_68
        · have hne : S 30 0 = 10 := by omega
          refine lv_iconst (v := -1) hx hb dX9_offer_41 (by decide) ?_
          refine W.widen (k := 2) (n := 80) (by decide) (by decide) ?_
          exact o_iretA hx hb hr hlocks hW hS (⟨by first | (simp only [aOffer, ix_nI hpin (by omega), nx_nI (j := pin) (by omega), rx_nI hmona hmon (by omega), nx_nI (j := mon) (by omega), rx_nI hcona hcon (by omega), nx_nI (j := con) (by omega), hne, eq_self, ↓reduceIte, Bool.false_eq_true]; done) | (simp only [aOffer, ix_nI hpin (by omega), nx_nI (j := pin) (by omega), rx_nI hmona hmon (by omega), nx_nI (j := mon) (by omega), rx_nI hcona hcon (by omega), nx_nI (j := con) (by omega), hne, eq_self, ↓reduceIte, Bool.false_eq_true]; rfl), by simp only [nOffer, ix_nI hpin (by omega), nx_nI (j := pin) (by omega), rx_nI hmona hmon (by omega), nx_nI (j := mon) (by omega), rx_nI hcona hcon (by omega), nx_nI (j := con) (by omega), hne, eq_self, ↓reduceIte, Bool.false_eq_true]; exact hI.pub hR, AFr.refl ad⟩) dX9_offer_42
