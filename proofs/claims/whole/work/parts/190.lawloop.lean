theorem lw_cmp {L n : Nat} (h1 : 8 * n ≤ L) (h2 : L ≤ 4096) (h : ¬ (Int32.ofNat L - nI 8) < nI (8 * n)) : 8 * n + 8 ≤ L := by
  rcases Nat.lt_or_ge L (8 * n + 8) with q | q
  · exfalso
    apply h
    by_cases q8 : L < 8
    · have hn : n = 0 := by omega
      subst hn
      have : ∀ L, L < 8 → (Int32.ofNat L - nI 8) < nI (8 * 0) := by decide
      exact this L q8
    · show nI L - nI 8 < nI (8 * n)
      rw [pk_sub (by omega)]
      exact (nI_ltI (by omega) (by omega)).mpr (by omega)
  · exact q
set_option maxHeartbeats 1000000 in
set_option maxRecDepth 100000 in
theorem lw_loop {p : Program} {l : Launch} {e : Env} {s : State} {m : MethodId} {below : List Frame} {meth : Method} {c : Code} {b L : Nat} {xs : Nat → Int32} {D : va_G} {cA : Nat → ClassId} (hF : lw_F p s m meth c b L xs D cA) (hrow : ∀ (x0 m0 o0 n : Nat), 8 * n + 8 ≤ L → lw_NX p l e s m below meth c b D cA x0 m0 o0 n → ∀ (S : sS) (sr : Nat → Int32) (ad : kA) (d : kD) (H : Heap) (locs : List Loc) (ls : Array Slot), lw_I cA x0 m0 o0 S sr ad d → oW D cA s.heap.size ad d H → va_S (oA s.heap.size) s.heap H locs → lv_has ls 7 [(4, .int (nI (8 * n))), (3, .ref o0), (2, .ref m0), (1, .ref x0), (0, .ref b)] → W p l e room_1 s m #[Value.ref b] below meth c H locs (300 + 4 * n) (500000 + 100 * n) (lw_Z below #[Value.ref b] s) (F0 m 1741 ls [])) (x0 m0 o0 : Nat) : ∀ (k n : Nat), L < 8 * n + 8 * k → 8 * n ≤ L → ∀ (S : sS) (sr : Nat → Int32) (ad : kA) (d : kD) (H : Heap) (locs : List Loc) (ls : Array Slot), lw_I cA x0 m0 o0 S sr ad d → oW D cA s.heap.size ad d H → va_S (oA s.heap.size) s.heap H locs → lv_has ls 7 [(4, .int (nI (8 * n))), (3, .ref o0), (2, .ref m0), (1, .ref x0), (0, .ref b)] → W p l e room_1 s m #[Value.ref b] below meth c H locs (300 + 4 * n) (500000 + 100 * n) (lw_Z below #[Value.ref b] s) (F0 m 23 ls []) := by
  have hF0 := hF
  obtain ⟨⟨hx, hb, hr, hml, hown, hts, hX, hbl, hlocks, hgv⟩, hL, hK, hB, hu⟩ := hF0
  intro k
  induction k with
  | zero => intro n hk h8; omega
  | succ k ih =>
    intro n hk hn8 S sr ad d H locs ls hI hW hS hl
    refine lv_iload hx hb dL_law_23 (lv_at hl 0 rfl) ?_
    refine lv_aload_n hx hb dL_law_25 rfl (lv_at hl 4 rfl) ?_
    refine va_slen hx hb hX hbl (Nat.not_le.mpr hbl) hS dL_law_26 ?_
    refine n_bipush (v := 8) hx hb dL_law_27 (by decide) ?_
    refine lv_isub hx hb dL_law_29 ?_
    refine lv_icmp_gt (tgt := 1803) hx hb dL_law_30 (by decide) (fun h => ?_) (fun h => ?_)
    · refine va_forget (fun q hq => hS.2.2 q hq) ?_
      refine W.widen (k := 601024) (n := 7293034) (by omega) (by omega) ?_
      refine lv_iconst (v := 1) hx hb dL_law_1803 (by decide) ?_
      exact lw_ret hx hb hr hlocks dL_law_1804
    · have hn : 8 * n + 8 ≤ L := lw_cmp (by omega) hL h
      have nx : lw_NX p l e s m below meth c b D cA x0 m0 o0 n := by
        intro S sr ad d H locs ls cells slots hc1 hc2 hI hW hS hl
        refine n_iinc (q := 8) (lv' := [(4, .int (nI (8 * n + 8))), (3, .ref o0), (2, .ref m0), (1, .ref x0), (0, .ref b)]) hx hb dL_law_1797 hl (k := 0) rfl (by decide) (by decide) rfl (fun ls hl => ?_)
        refine lv_goto (tgt := 23) hx hb dL_law_1800 (by decide) ?_
        refine W.widen (k := 300 + 4 * (n + 1)) (n := 500000 + 100 * (n + 1)) hc1 hc2 ?_
        exact ih (n + 1) (by omega) (by omega) S sr ad d H locs ls hI hW hS hl
      refine lv_aload_n hx hb dL_law_33 rfl (lv_at hl 4 rfl) ?_
      refine lv_iload hx hb dL_law_34 (lv_at hl 0 rfl) ?_
      refine l_sld hx hb hX hbl hS (by omega) hL dL_law_36 ?_
      refine n_bipush (v := 63) hx hb dL_law_37 (by decide) ?_
      refine lv_iand hx hb dL_law_39 ?_
      generalize xs (8 * n) &&& nI 63 = v
      cases hv : ix v 36 with
      | false =>
        refine lv_tableOut (tgt := 1797) hx hb dL_law_40 (sw_out hv) (by decide) ?_
        exact nx S sr ad d H locs ls _ _ (by omega) (by omega) hI hW hS hl
      | true =>
        obtain ⟨j, hj, rfl⟩ := ix_t hv (by decide)
        rcases sw_36 hj with rfl | rfl | rfl | rfl | rfl | rfl | rfl | rfl | rfl | rfl | rfl | rfl | rfl | rfl | rfl | rfl | rfl | rfl | rfl | rfl | rfl | rfl | rfl | rfl | rfl | rfl | rfl | rfl | rfl | rfl | rfl | rfl | rfl | rfl | rfl | rfl
        · refine lv_tableIn (tgt := 200) hx hb dL_law_40 (by decide) (by decide) rfl (by decide) ?_
          exact lc_0 hF hn nx hI hW hS hl
        · refine lv_tableIn (tgt := 273) hx hb dL_law_40 (by decide) (by decide) rfl (by decide) ?_
          exact lc_1 hF hn nx hI hW hS hl
        · refine lv_tableIn (tgt := 298) hx hb dL_law_40 (by decide) (by decide) rfl (by decide) ?_
          exact lc_2 hF hn nx hI hW hS hl
        · refine lv_tableIn (tgt := 311) hx hb dL_law_40 (by decide) (by decide) rfl (by decide) ?_
          exact lc_3 hF hn nx hI hW hS hl
        · refine lv_tableIn (tgt := 384) hx hb dL_law_40 (by decide) (by decide) rfl (by decide) ?_
          exact lc_4 hF hn nx hI hW hS hl
        · refine lv_tableIn (tgt := 433) hx hb dL_law_40 (by decide) (by decide) rfl (by decide) ?_
          exact lc_5 hF hn nx hI hW hS hl
        · refine lv_tableIn (tgt := 494) hx hb dL_law_40 (by decide) (by decide) rfl (by decide) ?_
          exact lc_6 hF hn nx hI hW hS hl
        · refine lv_tableIn (tgt := 543) hx hb dL_law_40 (by decide) (by decide) rfl (by decide) ?_
          exact lc_7 hF hn nx hI hW hS hl
        · refine lv_tableIn (tgt := 580) hx hb dL_law_40 (by decide) (by decide) rfl (by decide) ?_
          exact lc_8 hF hn nx hI hW hS hl
        · refine lv_tableIn (tgt := 605) hx hb dL_law_40 (by decide) (by decide) rfl (by decide) ?_
          exact lc_9 hF hn nx hI hW hS hl
        · refine lv_tableIn (tgt := 630) hx hb dL_law_40 (by decide) (by decide) rfl (by decide) ?_
          exact lc_10 hF hn nx hI hW hS hl
        · refine lv_tableIn (tgt := 703) hx hb dL_law_40 (by decide) (by decide) rfl (by decide) ?_
          exact lc_11 hF hn nx hI hW hS hl
        · refine lv_tableIn (tgt := 740) hx hb dL_law_40 (by decide) (by decide) rfl (by decide) ?_
          exact lc_12 hF hn nx hI hW hS hl
        · refine lv_tableIn (tgt := 765) hx hb dL_law_40 (by decide) (by decide) rfl (by decide) ?_
          exact lc_13 hF hn nx hI hW hS hl
        · refine lv_tableIn (tgt := 790) hx hb dL_law_40 (by decide) (by decide) rfl (by decide) ?_
          exact lc_14 hF hn nx hI hW hS hl
        · refine lv_tableIn (tgt := 815) hx hb dL_law_40 (by decide) (by decide) rfl (by decide) ?_
          exact lc_15 hF hn nx hI hW hS hl
        · refine lv_tableIn (tgt := 840) hx hb dL_law_40 (by decide) (by decide) rfl (by decide) ?_
          exact lc_16 hF hn nx hI hW hS hl
        · refine lv_tableIn (tgt := 877) hx hb dL_law_40 (by decide) (by decide) rfl (by decide) ?_
          exact lc_17 hF hn nx hI hW hS hl
        · refine lv_tableIn (tgt := 914) hx hb dL_law_40 (by decide) (by decide) rfl (by decide) ?_
          exact lc_18 hF hn nx hI hW hS hl
        · refine lv_tableIn (tgt := 963) hx hb dL_law_40 (by decide) (by decide) rfl (by decide) ?_
          exact lc_19 hF hn nx hI hW hS hl
        · refine lv_tableIn (tgt := 1012) hx hb dL_law_40 (by decide) (by decide) rfl (by decide) ?_
          exact lc_20 hF hn nx hI hW hS hl
        · refine lv_tableIn (tgt := 1073) hx hb dL_law_40 (by decide) (by decide) rfl (by decide) ?_
          exact lc_21 hF hn nx hI hW hS hl
        · refine lv_tableIn (tgt := 1160) hx hb dL_law_40 (by decide) (by decide) rfl (by decide) ?_
          exact lc_22 hF hn nx hI hW hS hl
        · refine lv_tableIn (tgt := 1261) hx hb dL_law_40 (by decide) (by decide) rfl (by decide) ?_
          exact lc_23 hF hn nx hI hW hS hl
        · refine lv_tableIn (tgt := 1298) hx hb dL_law_40 (by decide) (by decide) rfl (by decide) ?_
          exact lc_24 hF hn nx hI hW hS hl
        · refine lv_tableIn (tgt := 1323) hx hb dL_law_40 (by decide) (by decide) rfl (by decide) ?_
          exact lc_25 hF hn nx hI hW hS hl
        · refine lv_tableIn (tgt := 1348) hx hb dL_law_40 (by decide) (by decide) rfl (by decide) ?_
          exact lc_26 hF hn nx hI hW hS hl
        · refine lv_tableIn (tgt := 1385) hx hb dL_law_40 (by decide) (by decide) rfl (by decide) ?_
          exact lc_27 hF hn nx hI hW hS hl
        · refine lv_tableIn (tgt := 1422) hx hb dL_law_40 (by decide) (by decide) rfl (by decide) ?_
          exact lc_28 hF hn nx hI hW hS hl
        · refine lv_tableIn (tgt := 1459) hx hb dL_law_40 (by decide) (by decide) rfl (by decide) ?_
          exact lc_29 hF hn nx hI hW hS hl
        · refine lv_tableIn (tgt := 1508) hx hb dL_law_40 (by decide) (by decide) rfl (by decide) ?_
          exact lc_30 hF hn nx hI hW hS hl
        · refine lv_tableIn (tgt := 1569) hx hb dL_law_40 (by decide) (by decide) rfl (by decide) ?_
          exact lc_31 hF hn nx hI hW hS hl
        · refine lv_tableIn (tgt := 1630) hx hb dL_law_40 (by decide) (by decide) rfl (by decide) ?_
          exact lc_32 hF hn nx hI hW hS hl
        · refine lv_tableIn (tgt := 1679) hx hb dL_law_40 (by decide) (by decide) rfl (by decide) ?_
          exact lc_33 hF hn nx hI hW hS hl
        · refine lv_tableIn (tgt := 1716) hx hb dL_law_40 (by decide) (by decide) rfl (by decide) ?_
          exact lc_34 hF hn nx hI hW hS hl
        · refine lv_tableIn (tgt := 1741) hx hb dL_law_40 (by decide) (by decide) rfl (by decide) ?_
          exact hrow x0 m0 o0 n hn nx S sr ad d H locs ls hI hW hS hl
