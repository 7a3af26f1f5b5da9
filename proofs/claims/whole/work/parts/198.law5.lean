abbrev rq_sv (sr : Nat → Int32) (ii : Int32) : Int32 := sr (nx ii)
theorem rq_uJ (d : kD) (v : Int64) {k : Nat} (h : k ≠ 30) : (uJ d 30 0 0 v).2.1 k = d.2.1 k := by
  funext i
  exact up3_ne _ _ _ (fun q => h q.1)
theorem uJ_30 (d : kD) (v : Int64) : (uJ d 30 0 0 v).2.1 30 0 0 = v := by
  show up3 d.2.1 30 0 0 v 30 0 0 = v
  rw [up3_same]; simp [va_up]
theorem rq_X {cA : Nat → ClassId} {ad : kA} {S : sS} {d : kD} (h : InvX cA ad S d) (v : Int64) : InvX cA ad S (uJ d 30 0 0 v) := by
  have hD : xD S (uJ d 30 0 0 v) := by
    obtain ⟨⟨h1, h2, h3⟩, h4, h5, h6, h7, h8, h9, h10, h14, h15⟩ := h.1.2.1
    refine ⟨⟨h1, ?_, h3⟩, h4, h5, h6, h7, ?_, h9, h10, h14, ?_⟩
    · rw [rq_uJ d v (by decide)]; exact h2
    · exact h8
    · rw [rq_uJ d v (by decide)]; exact h15
  exact h.chg h.1.1 hD h.1.2.2 (fun p => rfl) (fun p => rfl) (fun p => rfl) (fun p => rfl) (fun p => by rw [rq_uJ d v (by decide)]) rfl rfl (fun _ _ _ _ => rfl) (fun _ _ => ⟨rfl, rfl, rfl, rfl⟩)
theorem rq_M {S : sS} {d : kD} (h : InvM S d) (v : Int64) : InvM S (uJ d 30 0 0 v) :=
  h.chg h.1 h.2.1 rfl rfl rfl rfl (rq_uJ d v (by decide)) (fun _ _ _ _ => rfl) (fun _ _ => ⟨rfl, rfl, rfl, rfl⟩) (Nat.le_refl _) (Nat.le_refl _)
theorem rq_rF {p : Program} {s : State} {m : MethodId} {meth : Method} {c : Code} {b L : Nat} {xs : Nat → Int32} {D : va_G} {cA : Nat → ClassId} (hF : lw_F p s m meth c b L xs D cA) : rF s := by
  obtain ⟨⟨hx, hb, hr, hml, hown, hts, hX, hbl, hlocks, hgv⟩, hL, hK, hB, hu⟩ := hF
  refine ⟨_, hts, fun q hq => ?_⟩
  simp only [rq_S, List.mem_cons, List.not_mem_nil, or_false] at hq
  rcases hq with rfl | rfl
  · exact flat_of_before _ hgv _ (by decide +kernel)
  · exact flat_of_before _ hgv _ (by decide +kernel)
section RQR
variable {p : Program} {l : Launch} {e : Env} {R : Room} {s : State} {m : MethodId} {args : Array Value} {below : List Frame} {meth : Method} {c : Code} {H : Heap} {locs : List Loc} {cells slots : Nat} {Q : State → Prop} {cc : ByteArray} {pc nL : Nat} {ls : Array Slot} {rest st0 : List Value}
theorem rq_runL (hexec : p.tables.exec = Jvm.exec) (hb : c.code = cc) (hml : c.maxLocals = nL) (hown : s.vm.findClass RL = some m.cls) (hu : ∀ w ∈ UW, w.before args s = true) {Pc : Array Value → State → Prop} {Qc : Array Value → State → Outcome → State → Prop} {free : Addr → Prop} (hM : Met l yL_row wL_row (oR 8 1 6) Pc Qc 1 6 free) (hblind : FrameBlind Pc) (hR : 8 + 1 ≤ R.frames ∧ 8 + (4 + 11) + 800 ≤ R.locals)
    {As : List Value} (hP : ∀ U : State, U.heap = H → s.WarmedH U.vm → Pc As.toArray U) (hn : As.length = 3) (hsz : ls.size = nL) (hst : st0 = As.reverse ++ rest) (hrm : 2 * (F0 m pc ls st0).monitorRoom + (rest.map fun v => v.category).sum ≤ 8) (hf : cells + 1 ≤ R.cells ∧ slots + 6 ≤ R.slots) (hdg : decode cc pc = .ok (.invokestatic 167, 3)) :
    va_Run p l e R s m args below meth c H locs cells slots 1 6 (F0 m pc ls st0) rest (Qc As.toArray) free := by
  have hws : ∀ w ∈ wL_row, ∀ (a' : Array Value) (U : State), s.WarmedH U.vm → w.before a' U = true := fun w hw a' U hW => by
    have hin : w ∈ UW := by
      rcases List.mem_cons.mp hw with rfl | h
      · exact uW_L_row
      · exact h
    exact word_at hW (uw_good (fun _ h => h) hin).2 (hu w hin)
  have hK : Back l R p e below s args yL_row 3 8 (PreOf R 1 6 Pc) (PostOf Qc 1 6 free) := va_backW (hh := [(0, 9, 12, 13)]) (bytes := cL_row) (maxL := 4) (ret := some .int) hM hblind rfl rfl hR.1 hR.2 hws List.mem_cons_self (fun a' U hW => word_at hW (uw_good (fun _ h => h) uI_L).2 (hu _ uI_L))
  obtain ⟨mk, methM, cM, hnamed, hmethM, -, -, -, -, -, -, hsigM⟩ := Cond.codeWith_spec (hu _ uW_L_row)
  have hstatic : methM.isStatic = true := Cond.static_spec hnamed hmethM (hu _ uT_L_row)
  obtain ⟨kP, hkP, -⟩ := className_of_methodNamed hnamed
  have hinitP : kP.init = .initialized := Cond.initialized_spec (findClass_of_methodNamed hnamed) hkP (hu _ uI_L)
  have hsig1 : (parseMethodDescriptor yL_row.desc).map (fun d => d.parameters.length) = some 3 := by decide +kernel
  have hlen : As.length = methM.sig.parameters.length := by
    rw [hsigM] at hsig1
    rw [hn]; exact (Option.some.inj hsig1).symm
  intro T hT X
  obtain ⟨vm₁, X₁, hstep₁⟩ := X.invokestatic hexec hown (hu _ uM_L_167) hnamed hmethM hstatic hkP hinitP (by decide +kernel) (g := F0 m pc ls st0) rfl (argsL := As) (rest := rest) hlen hst (by rw [hb]; exact hdg)
  obtain ⟨v, ⟨U', l2, c2, s2⟩, X', ⟨g', mk', t, Lc, e1, e2, hq, h1, hL, h2, h3⟩, hsteps⟩ := hK m meth c ⟨T.setVm vm₁, locs, cells, slots⟩ (F0 m pc ls rest) (.invokestatic 167) mk As.toArray X₁ rfl (hsz.trans hml.symm) (by rw [hb]; exact hdg) hrm (X₁.named hnamed) ⟨hf.1, hf.2, hP _ hT X₁.warmed⟩
  dsimp only [Pt.U, Pt.locs, Pt.cells, Pt.slots] at X' e1 e2 h1 h2 h3 hsteps
  subst h1; subst h2; subst h3
  exact ⟨v, (T.setVm vm₁).calling g' mk' As.toArray, t, U', Lc, hT, X', hL, e1, e2, hq, fun tg h => hstep₁ _ fun acts => by rw [doInvoke_state]; exact hsteps.trans h⟩
end RQR
set_option maxHeartbeats 400000 in
set_option maxRecDepth 100000 in
theorem lc_35 {p : Program} {l : Launch} (hfl : l.flags = pinnedFlags ++ [noTraceFlag]) {e : Env} {s : State} {m : MethodId} {below : List Frame} {meth : Method} {c : Code} {b L : Nat} {xs : Nat → Int32} {D : va_G} {cA : Nat → ClassId} (hF : lw_F p s m meth c b L xs D cA) {x0 m0 o0 n : Nat} (hn : 8 * n + 8 ≤ L) (nx : lw_NX p l e s m below meth c b D cA x0 m0 o0 n) {S : sS} {sr : Nat → Int32} {ad : kA} {d : kD} {H : Heap} {locs : List Loc} {ls : Array Slot} (hI : lw_I cA x0 m0 o0 S sr ad d) (hW : oW D cA s.heap.size ad d H) (hS : va_S (oA s.heap.size) s.heap H locs) (hl : lv_has ls 7 [(4, .int (nI (8 * n))), (3, .ref o0), (2, .ref m0), (1, .ref x0), (0, .ref b)]) : W p l e room_1 s m #[Value.ref b] below meth c H locs (300 + 4 * n) (500000 + 100 * n) (lw_Z below #[Value.ref b] s) (F0 m 1741 ls []) := by
  have h0 := rq_rF hF
  obtain ⟨⟨hx, hb, hr, hml, hown, hts, hX, hbl, hlocks, hgv⟩, hL, hK, hB, hu⟩ := hF
  have hI0 := hI
  obtain ⟨hM, hR, hMm, hRm, hal, h31, h30, rfl, rfl, rfl⟩ := hI
  have hA := hM.1.1
  refine lv_aload_n hx hb dL_law_1741 rfl (lv_at hl 3 rfl) ?_
  refine lv_aload_n hx hb dL_law_1742 rfl (lv_at hl 4 rfl) ?_
  refine lv_iload hx hb dL_law_1743 (lv_at hl 0 rfl) ?_
  refine n_iconst (v := 1) hx hb dL_law_1745 (by decide) ?_
  refine n_iadd hx hb dL_law_1746 ?_
  refine l_sld hx hb hX hbl hS (by omega) hL dL_law_1747 ?_
  refine lv_aload_n hx hb dL_law_1748 rfl (lv_at hl 1 rfl) ?_
  generalize hii : xs (8 * n + 1) = ii
  refine o_calli (rq_runL (As := [.ref (ad.1 0 0), .int ii, .ref (ad.1 30 0)]) (rest := []) hx hb hml hown hu (c_L_row l hfl s h0 D cA s.heap.size rfl ad hal S sr d hM hR h30 ii) rq_P_blind ⟨Nat.le_of_ble_eq_true rfl, Nat.le_of_ble_eq_true rfl⟩ (fun U hU hWm => ⟨rfl, ⟨hK.warm hWm, by rw [hU]; exact hW, hB.go hS hU hWm.alike⟩, rq_go ⟨State.WarmedH.refl _, fun _ _ => rfl⟩ rfl (Nat.le_refl _) hS hU hWm⟩) rfl hl.1 rfl (lv_room (Nat.le_of_ble_eq_true rfl)) ⟨by show 300 + 4 * n + 1 ≤ 601024; omega, by show 500000 + 100 * n + 6 ≤ 7293034; omega⟩ dL_law_1749) hS (fun r d1 hp H locs hW hS => ?_)
  have hd1 : InvX cA ad S d1 ∧ RowX S sr d1 ∧ InvM S d1 ∧ RowM S sr d1 ∧ d1.2.1 31 = d.2.1 31 := by
    rcases hp with ⟨-, -, rfl⟩ | ⟨-, -, rfl⟩
    · exact ⟨rq_X hM _, hR, rq_M hMm _, hRm, rq_uJ d _ (by decide)⟩
    · exact ⟨hM, hR, hMm, hRm, rfl⟩
  obtain ⟨hX1, hR1, hM1, hRm1, e31⟩ := hd1
  refine lv_istore (lv' := [(5, .int r), (4, .int (nI (8 * n))), (3, .ref (ad.1 30 0)), (2, .ref (ad.1 40 0)), (1, .ref (ad.1 0 0)), (0, .ref b)]) hx hb dL_law_1752 hl (by decide) rfl (fun ls hl => ?_)
  refine lv_aload_n hx hb dL_law_1754 rfl (lv_at hl 3 rfl) ?_
  refine lv_aload_n hx hb dL_law_1755 rfl (lv_at hl 5 rfl) ?_
  refine lv_iload hx hb dL_law_1756 (lv_at hl 1 rfl) ?_
  refine n_iconst (v := 1) hx hb dL_law_1758 (by decide) ?_
  refine n_iadd hx hb dL_law_1759 ?_
  refine l_sld hx hb hX hbl hS (by omega) hL dL_law_1760 ?_
  rw [hii]
  refine o_calli (o_runV (As := [.int ii]) (rest := []) ⟨hx, hb, hml, hown, hu⟩ (c_X10_row l D cA s.heap.size ad hal S sr d1 hM1 hRm1 ii) (gV_L_172 (fun _ h => h)) (n0 := 1) rfl (by decide +kernel) rfl ⟨Nat.le_of_ble_eq_true rfl, Nat.le_of_ble_eq_true rfl⟩ (o_recv hK hW hal.1 (kC_M _ _ _) rfl) hK hW hB hS hl.1 rfl (lv_room (Nat.le_of_ble_eq_true rfl)) ⟨by show 300 + 4 * n + 1 + 0 ≤ 601024; omega, by show 500000 + 100 * n + 6 + 0 ≤ 7293034; omega⟩ dL_law_1761) hS (fun r2 d2 hp2 H locs hW hS => ?_)
  obtain ⟨rfl, hPI, hth⟩ := hp2
  refine lv_istore (lv' := [(6, .int (aRow S sr ii)), (5, .int r), (4, .int (nI (8 * n))), (3, .ref (ad.1 30 0)), (2, .ref (ad.1 40 0)), (1, .ref (ad.1 0 0)), (0, .ref b)]) hx hb dL_law_1764 hl (by decide) rfl (fun ls hl => ?_)
  refine lv_aload_n hx hb dL_law_1766 rfl (lv_at hl 4 rfl) ?_
  refine o_calli (o_runV (As := []) (rest := []) ⟨hx, hb, hml, hown, hu⟩ (c_X10_thrown l D cA s.heap.size ad hal d2) (gV_L_173 (fun _ h => h)) (n0 := 0) rfl (by decide +kernel) rfl ⟨Nat.le_of_ble_eq_true rfl, Nat.le_of_ble_eq_true rfl⟩ (o_recv hK hW hal.1 (kC_M _ _ _) rfl) hK hW hB hS hl.1 rfl (lv_room (Nat.le_of_ble_eq_true rfl)) ⟨by show 300 + 4 * n + 1 + 0 + 0 ≤ 601024; omega, by show 500000 + 100 * n + 6 + 0 + 0 ≤ 7293034; omega⟩ dL_law_1767) hS (fun r3 d3 hp3 H locs hW hS => ?_)
  obtain ⟨rfl, rfl⟩ := hp3
  refine n_topi (y := tRow S ii) hth ?_
  refine lv_iload hx hb dL_law_1770 (lv_at hl 1 rfl) ?_
  have hrt : tRow S ii = r := by
    rcases hp with ⟨h1, rfl, -⟩ | ⟨h1, rfl, -⟩
    · simp only [tRow, h1, ↓reduceIte]; rfl
    · simp only [tRow, h1, Bool.false_eq_true, ↓reduceIte]; rfl
  refine lv_icmp_eq (tgt := 1777) hx hb dL_law_1772 (by decide) (fun _ => ?_) (fun h => absurd hrt h)
  refine lv_iload hx hb dL_law_1777 (lv_at hl 1 rfl) ?_
  have hend : ∀ (H : Heap) (locs : List Loc), oW D cA s.heap.size ad d2 H → va_S (oA s.heap.size) s.heap H locs → W p l e room_1 s m #[Value.ref b] below meth c H locs (300 + 4 * n + 1 + 0 + 0) (500000 + 100 * n + 6 + 0 + 0) (lw_Z below #[Value.ref b] s) (F0 m 1794 ls []) := by
    intro H locs hW hS
    refine lv_goto (tgt := 1797) hx hb dL_law_1794 (by decide) ?_
    exact nx _ _ _ _ _ _ _ _ _ (by omega) (by omega) ⟨hX1.lo hPI.2.2.1 hPI.2.2.2.1, hR1.lo hPI.2.2.1, hPI.1, hPI.2.1, hal, by rw [hPI.2.2.2.1 31 (by omega), e31]; exact h31, h30, rfl, rfl, rfl⟩ hW hS (lv_sub hl [2, 3, 4, 5, 6] rfl)
  refine lv_if_ne (tgt := 1794) hx hb dL_law_1779 (by decide) (fun _ => hend _ _ hW hS) (fun hr0 => ?_)
  rcases hp with ⟨h1, -, hdd⟩ | ⟨h1, hr1, -⟩
  · refine lv_aload_n hx hb dL_law_1782 rfl (lv_at hl 3 rfl) ?_
    refine n_iconst (v := 0) hx hb dL_law_1783 (by decide) ?_
    refine x_ll (j := 0) hx hb hK hW h30 (kX_30 _ _ _ _) (by decide) (by decide) dL_law_1784 ?_
    refine n_topl (y := (rq_sv sr ii).toInt64) (by rw [hPI.2.2.2.1 30 (by omega), ← hdd]; exact uJ_30 d _) ?_
    refine lv_iload hx hb dL_law_1785 (lv_at hl 0 rfl) ?_
    refine n_topi (y := rq_sv sr ii) (by simp only [aRow, h1, ↓reduceIte]) ?_
    refine lv_i2l hx hb dL_law_1787 rfl ?_
    refine W.lcmp hx hb dL_law_1788 ?_
    refine lv_if_eq (tgt := 1794) hx hb dL_law_1789 (by decide) (fun _ => hend _ _ hW hS) (fun h => absurd (by simp [lg_cmp]) h)
  · exact absurd (hr1.symm.trans hr0) (by decide)
