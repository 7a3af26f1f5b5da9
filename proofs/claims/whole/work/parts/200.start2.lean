def aZ : kA := (fun _ _ => 0, fun _ _ _ => 0)
def dZ : kD := (fun _ _ _ => 0, fun _ _ _ => 0, fun _ _ _ => 0)
theorem oW_0 {D : va_G} {cA : Nat → ClassId} {B0 : Nat} {H : Heap} : oW D cA B0 aZ dZ H := ⟨fun k i e h => absurd rfl h, fun k i k' i' h => absurd rfl h, fun k i h => absurd rfl h⟩
theorem Zd_0 : Zd (zD dZ 0 0) := by
  refine ⟨fun k i f _ _ => ?_, fun k i f => ?_, rfl⟩
  · show (if k = 0 ∧ i = 0 then fun _ => 0 else fun _ => (0 : Int32)) f = 0
    split <;> rfl
  · show (if k = 0 ∧ i = 0 then fun _ => 0 else fun _ => (0 : Int64)) f = 0
    split <;> rfl
theorem Zd.i40 {d : kD} (h : Zd d) {k : Nat} (hk : 17 ≤ k) : d.1 k = fun _ _ => 0 := by
  funext i f
  exact h.1 k i f (by omega) (by omega)
theorem Zd.j {d : kD} (h : Zd d) (k : Nat) : d.2.1 k = fun _ _ => 0 := by
  funext i f
  exact h.2.1 k i f
theorem mO_cg {a a' : kA} (h : a.2 40 0 = a'.2 40 0) (g : Nat → Int32) : mO a g = mO a' g := by
  unfold mO mV; rw [h]
theorem st_al {cA : Nat → ClassId} {a a' : kA} (h : xAl cA a s00) (e1 : ∀ k, k < 30 → a'.1 k = a.1 k) (e2 : ∀ k, k < 30 → a'.2 k = a.2 k) : xAl cA a' s00 := by
  obtain ⟨h1, h2, h3, h4, h5, h6, h7, h8, ⟨h9, h9b, h9c⟩, h10, h11, h12, h13, h14⟩ := h
  have hf : ∀ f, f < 13 → (xFk f).1 < 30 := by decide
  have hk : ∀ j, j < 4 → xKd j < 30 := by decide
  refine ⟨fun k hs => ?_, fun f hf13 => ?_, fun j hj => ?_, fun i hi => ?_, fun j hj => ?_, fun p hp => absurd hp (Nat.not_lt_zero _), fun p hp => absurd hp (Nat.not_lt_zero _), fun p hp => absurd hp (Nat.not_lt_zero _), ⟨?_, ?_, ?_⟩, fun f hf5 => ?_, fun f hf2 => ?_, fun j hj q hq => ?_, fun t ht => ?_, ?_⟩
  · have hk28 : k < 28 := Nat.lt_of_not_le (fun z => by rw [xSg_hi z] at hs; cases hs)
    rw [e1 k (by omega)]; exact h1 k hs
  · rw [e2 0 (by omega), e1 _ (hf f hf13)]; exact h2 f hf13
  · rw [e1 4 (by omega)]; exact h3 j hj
  · rw [e1 3 (by omega), e2 2 (by omega)]; exact h4 i hi
  · have hl := h5 j hj
    unfold xLs at hl ⊢
    rw [e2 4 (by omega), e1 5 (by omega), e2 5 (by omega), e1 _ (hk j hj)]; exact hl
  · rw [e2 11 (by omega), e1 12 (by omega)]; exact h9
  · rw [e2 13 (by omega), e1 14 (by omega)]; exact h9b
  · rw [e2 13 (by omega), e1 15 (by omega)]; exact h9c
  · rw [e2 16 (by omega), e1 _ (by omega)]; exact h10 f hf5
  · rw [e2 22 (by omega), e1 _ (by omega)]; exact h11 f hf2
  · rw [e1 _ (hk j hj)]; exact h12 j hj q hq
  · rw [e1 7 (by omega)]; exact h13 t ht
  · rw [e1 28 (by omega)]; exact h14
theorem st_M {d : kD} (hZ : Zd d) : InvM s00 (uI d 40 0 19 (nI 399)) := by
  have hn : ∀ k, k ≠ 40 → (uI d 40 0 19 (nI 399)).1 k = d.1 k := fun k hk => by
    funext i; exact up3_ne _ _ _ (fun q => hk q.1)
  refine ⟨⟨fun f i hi => ?_, fun f hf => ?_⟩, s00_g, fun q _ hne => absurd ?_ hne, fun q _ hne => absurd ?_ hne⟩
  · rw [hn _ (by omega), hZ.i40 (by omega)]
    have hs : s00 f i = 0 := s00_n (fun z => by
      obtain ⟨rfl, rfl⟩ := z
      have : sLen 19 = 0 := by decide
      omega)
    rw [hs]; rfl
  · by_cases h19 : f = 19
    · subst h19
      show up3 d.1 40 0 19 (nI 399) 40 0 19 = _
      rw [up3_same]; simp [va_up, s00]
    · show up3 d.1 40 0 19 (nI 399) 40 0 f = _
      rw [up3_same, s00_n (fun z => h19 z.1)]
      simp only [va_up, h19, ↓reduceIte]
      rw [hZ.i40 (by omega)]; rfl
  · rw [hn _ (by omega), hZ.i40 (by omega)]
  · rw [hn _ (by omega), hZ.i40 (by omega)]
section STR
variable {p : Program} {l : Launch} {e : Env} {R : Room} {s : State} {m : MethodId} {args : Array Value} {below : List Frame} {meth : Method} {c : Code} {H : Heap} {locs : List Loc} {cells slots : Nat} {Q : State → Prop}
variable {cc : ByteArray} {pc nL : Nat} {ls : Array Slot} {rest st0 : List Value} {D : va_G} {cA : Nat → ClassId} {B0 : Nat} {ad : kA} {d : kD}
theorem st_run9 (S : CallFix p m c cc nL s args UW RL) {Qc : Array Value → State → Outcome → State → Prop} {a : Nat} (hM : Met l yX9_init wX9_init (oR 5 31 7576) (fun x U => oPc D cA B0 ad d ([.ref a] : List Value) x U ∧ oV U) Qc 31 7576 (oA B0)) (hR : 5 + 1 ≤ R.frames ∧ 8 + (1 + 11) + 100 * 5 ≤ R.locals) (hV : oV s)
    (hK : oK D cA s) (hW : oW D cA B0 ad d H) (hB : oG cA B0 s) (hS : va_S (oA B0) s.heap H locs) (hsz : ls.size = nL) (hst0 : st0 = .ref a :: rest) (hrm : 2 * (F0 m pc ls st0).monitorRoom + (rest.map fun v => v.category).sum ≤ 8) (hf : cells + 31 ≤ R.cells ∧ slots + 7576 ≤ R.slots) (hdg : decode cc pc = .ok (.invokespecial 15, 3)) :
    va_Run p l e R s m args below meth c H locs cells slots 31 7576 (F0 m pc ls st0) rest (Qc ([.ref a] : List Value).toArray) (oA B0) :=
  va_runI (As := []) S hM (cwI 0 S.2.2.2.2 (uw_gW (fun _ h => h) uC_X9_init) rfl rfl rfl (S.2.2.2.2 _ uI_X9) (S.2.2.2.2 _ uM_L_15) (S.2.2.2.2 _ uN_X9_init) rfl (by decide +kernel) hR) ⟨fun x U g mk q => ⟨oPc_blind x U g mk q.1, oV.moved (Vm.Alike.refl _) q.2⟩, fun U hU hWm => ⟨⟨rfl, hK.warm hWm, by rw [hU]; exact hW, hB.go hS hU hWm.alike⟩, hV.moved hWm.alike⟩⟩ rfl rfl hsz hst0 hrm hdg hf
theorem st_new10 (hx : p.tables.exec = Jvm.exec) (hb : c.code = cc) (hu : ∀ w ∈ UW, w.before args s = true) (hown : s.vm.findClass RL = some m.cls) (hK : oK D cA s) (hW : oW D cA B0 ad d H) (hS : va_S (oA B0) s.heap H locs) (hB : oG cA B0 s) (hdead : ad.1 40 0 = 0) (hd0 : d.1 40 0 = fun _ => 0) (hf : cells + 1 ≤ R.cells ∧ slots + 48 ≤ R.slots) (hdg : decode cc pc = .ok (.new 16, 3))
    (kk : ∀ (q : Nat) (H1 : Heap), q ≠ 0 → oW D cA B0 (ad1 (zA ad 40 0) 40 0 q) d H1 → va_S (oA B0) s.heap H1 locs → W p l e R s m args below meth c H1 locs (cells + 1) (slots + 48) Q (F0 m (pc + 3) ls (.ref q :: rest))) : W p l e R s m args below meth c H locs cells slots Q (F0 m pc ls rest) := by
  have hKn := hK.1.1 11 (RX10, TX10, 48) rfl
  have hle : s.heap.size ≤ H.size := hS.1
  have hb1 := hB.1
  have hb2 : 0 < B0 := Nat.lt_of_le_of_lt (Nat.zero_le _) hB.2.2.2.1
  refine W.newcK hx hb hown (hu _ uL_L_16) (hu _ uO_X10) (hu _ uI_X10) rfl hdg hf.1 hf.2 hKn.2.1 rfl fun H1 kC' hkC e1 z1 o1 => ?_
  refine kk H.size H1 (by omega) (hW.newG (ad' := zA ad 40 0) (d' := d) rfl (fun k' i' h => ?_) hdead (by omega) (by omega) (e := .inr (11, mO aZ (fun _ => 0))) ?_ ⟨_, rfl, (u_born tyX10 hu in_X10 hKn hkC e1 tyX10_ok).to (fun j hj => match j, hj with | 0, _ => rfl | 1, _ => rfl | 2, _ => rfl | 3, _ => rfl | 4, _ => rfl | 5, _ => rfl | 6, _ => rfl | 7, _ => rfl | 8, _ => rfl | 9, _ => rfl | 10, _ => rfl | 11, _ => rfl | 12, _ => rfl | 13, _ => rfl | 14, _ => rfl | 15, _ => rfl | 16, _ => rfl | 17, _ => rfl | 18, _ => rfl | 19, _ => rfl | 20, _ => rfl | 21, _ => rfl | 22, _ => rfl | 23, _ => rfl | 24, _ => rfl | 25, _ => rfl | 26, _ => rfl | 27, _ => rfl | 28, _ => rfl | 29, _ => rfl | 30, _ => rfl | 31, _ => rfl | 32, _ => rfl | 33, _ => rfl | 34, _ => rfl | 35, _ => rfl | 36, _ => rfl | 37, _ => rfl | 38, _ => rfl | 39, _ => rfl | 40, _ => rfl | 41, _ => rfl | 42, _ => rfl | 43, _ => rfl | 44, _ => rfl | 45, _ => rfl | 46, _ => rfl | 47, _ => rfl | (j + 48), hj => absurd hj (by omega))⟩ z1 o1) ⟨by rw [z1]; omega, fun x h1 h2 => (o1 x (by omega)).trans (hS.2.1 x h1 h2), hS.2.2⟩
  · unfold kC kF
    by_cases hk' : k' < 40
    · rw [if_pos hk', if_pos hk', zA_n ad h]
    · rw [if_neg hk', if_neg hk']
      unfold mF
      by_cases hi0 : i' = 0
      · rw [if_pos hi0, if_pos hi0]
        by_cases h40 : k' = 40
        · exact absurd ⟨h40, hi0⟩ h
        · rw [if_neg h40, if_neg h40]
      · rw [if_neg hi0, if_neg hi0]
  · rw [kC_M, hd0, mO_cg (a := zA ad 40 0) (a' := aZ) (zA_s ad 40 0)]
end STR
set_option maxHeartbeats 1000000 in
set_option maxRecDepth 100000 in
theorem whole_start {p : Program} {e : Env} {s : State} {m : MethodId} {below : List Frame} {meth : Method} {c : Code} (l : Launch) (hfl : l.flags = pinnedFlags ++ [noTraceFlag]) {b L : Nat} {xs : Nat → Int32} (hL : L ≤ 4096) (C0 : lw_At p s m meth c b L xs) : W p l e room_1 s m #[Value.ref b] below meth c s.heap [] 0 0 (lw_Z below #[Value.ref b] s) (entryFrame m ([Value.ref b] : List Value).toArray 7) := by
  obtain ⟨D, cA, hK, hB, hV⟩ := st_found C0
  have hF : lw_F p s m meth c b L xs D cA := ⟨C0, hL, hK, hB, fun w h => C0.2.2.2.2.2.1 w (uw_tbl w h)⟩
  have hF0 := hF
  obtain ⟨⟨hx, hb, hr, hml, hown, hts, hX, hbl, hlocks, hgv⟩, -, -, -, hu⟩ := hF0
  have hl := lv_entry ([.ref b] : List Value) (n := 7) (Nat.le_of_ble_eq_true rfl)
  rw [lg_entry_eq]
  refine (fun ls hl => ?_ : ∀ ls : Array Slot, lv_has ls 7 [(0, .ref b)] → W _ _ _ _ _ _ _ _ _ _ _ _ _ _ _ (F0 m 0 ls [])) _ hl
  have hW : oW D cA s.heap.size aZ dZ s.heap := oW_0
  have hS : va_S (oA s.heap.size) s.heap s.heap [] := va_S.rf
  have hp0 : 0 < s.heap.size := by omega
  refine x_new hx hb hu in_X9 tyX9 tyX9_ok hown uL_L_8 uO_X9 uI_X9 hK hW hS hB (k := 0) (i := 0) (by decide) rfl (fun _ _ _ => rfl) rfl (fun j hj => match j, hj with | 0, _ => rfl | 1, _ => rfl | 2, _ => rfl | 3, _ => rfl | 4, _ => rfl | 5, _ => rfl | 6, _ => rfl | 7, _ => rfl | 8, _ => rfl | 9, _ => rfl | 10, _ => rfl | 11, _ => rfl | 12, _ => rfl | 13, _ => rfl | 14, _ => rfl | 15, _ => rfl | (j + 16), hj => absurd hj (by omega)) ⟨Nat.le_of_ble_eq_true rfl, Nat.le_of_ble_eq_true rfl⟩ dL_law_0 (fun q9 H hq9 hW hS => ?_)
  refine lv_dup hx hb dL_law_3 rfl ?_
  have ha0 : (ad1 (zA aZ 0 0) 0 0 q9).1 0 0 = q9 := ad1_s _ _ _ _
  have hz0 : ∀ k i, ¬ (k = 0 ∧ i = 0) → (ad1 (zA aZ 0 0) 0 0 q9).1 k i = 0 := fun k i h => ad1_n _ _ h
  have hZ0 := Zd_0
  generalize ad1 (zA aZ 0 0) 0 0 q9 = a0 at hW ha0 hz0
  generalize zD dZ 0 0 = d0 at hW hZ0
  subst ha0
  refine o_callvA (st_run9 (rest := [.ref (a0.1 0 0)]) ⟨hx, hb, hml, hown, hu⟩ (c_X9_init l D cA s.heap.size (fun _ => 0) a0 d0 hq9 hz0 hZ0 hp0) ⟨Nat.le_of_ble_eq_true rfl, Nat.le_of_ble_eq_true rfl⟩ hV hK hW hB hS hl.1 rfl (lv_room (Nat.le_of_ble_eq_true rfl)) ⟨Nat.le_of_ble_eq_true rfl, Nat.le_of_ble_eq_true rfl⟩ dL_law_4) hS (fun u hp H locs hW hS => ?_)
  obtain ⟨a1, d1⟩ := u
  obtain ⟨hX1, hR1, hz1, hZ1, h00⟩ := hp
  have h00 : a1.1 0 0 = a0.1 0 0 := h00
  refine lv_astore_n (lv' := [(1, .ref (a0.1 0 0)), (0, .ref b)]) hx hb dL_law_7 rfl hl (by decide) rfl (fun ls hl => ?_)
  refine st_new10 hx hb hu hown hK hW hS hB (hz1 40 0 (by omega)) (by rw [hZ1.i40 (by omega)]) ⟨Nat.le_of_ble_eq_true rfl, Nat.le_of_ble_eq_true rfl⟩ dL_law_8 (fun q10 H hq10 hW hS => ?_)
  refine lv_dup hx hb dL_law_11 rfl ?_
  have ha1 : (ad1 (zA a1 40 0) 40 0 q10).1 40 0 = q10 := ad1_s _ _ _ _
  have hn1 : ∀ k i, ¬ (k = 40 ∧ i = 0) → (ad1 (zA a1 40 0) 40 0 q10).1 k i = a1.1 k i := fun k i h => ad1_n _ _ h
  have hn2 : ∀ k i, ¬ (k = 40 ∧ i = 0) → (ad1 (zA a1 40 0) 40 0 q10).2 k i = a1.2 k i := fun k i h => zA_n a1 h
  have hn3 : (ad1 (zA a1 40 0) 40 0 q10).2 40 0 = fun _ => 0 := zA_s a1 40 0
  generalize ad1 (zA a1 40 0) 40 0 q10 = a2 at hW ha1 hn1 hn2 hn3
  subst ha1
  refine o_callvA (x_runI (As := []) (rest := [.ref (a2.1 40 0)]) ⟨hx, hb, hml, hown, hu⟩ (c_X10_init l D cA s.heap.size a2 d1 hq10 (fun f => by rw [hn1 _ _ (by omega)]; exact hz1 _ _ (by omega)) hn3 (fun k hk => hZ1.i40 (by omega)) (fun k hk => hZ1.j k) hp0) uC_X10_init uN_X10_init uI_X10 uM_L_18 (n0 := 0) (by decide +kernel) rfl ⟨Nat.le_of_ble_eq_true rfl, Nat.le_of_ble_eq_true rfl⟩ hK hW hB hS hl.1 rfl (lv_room (Nat.le_of_ble_eq_true rfl)) ⟨Nat.le_of_ble_eq_true rfl, Nat.le_of_ble_eq_true rfl⟩ dL_law_12) hS (fun u hp H locs hW hS => ?_)
  obtain ⟨a3, d3⟩ := u
  obtain ⟨hal3, hMN, hd3⟩ := hp
  have hd3 : d3 = uI d1 40 0 19 (nI 399) := hd3
  subst hd3
  have hal3 : mAl a3 := hal3
  have hMN : MN 48 a2 a3 := hMN
  have h40 : a3.1 40 0 = a2.1 40 0 := hMN.1
  refine lv_astore_n (lv' := [(2, .ref (a2.1 40 0)), (1, .ref (a0.1 0 0)), (0, .ref b)]) hx hb dL_law_15 rfl hl (by decide) rfl (fun ls hl => ?_)
  refine n_iconst (v := 1) hx hb dL_law_16 (by decide) ?_
  have hdJ : (uI d1 40 0 19 (nI 399)).2.1 30 0 = fun _ => 0 := by
    show d1.2.1 30 0 = _
    rw [hZ1.j 30]
  refine o_newa (n := 1) (a0 := (1, .inr (.inl (fun _ => 0)))) hx hb hu (ty := .long) rfl uA_long 1 (fun _ => rfl) rfl hK hW hS hB.1 hp0 (k := 30) (i := 0) (by rw [hMN.2.2.2.1 30 0 (by omega), hn1 30 0 (by omega)]; exact hz1 30 0 (by omega)) (by decide) (by rw [vp_cell_l]; rfl) (fun q => by rw [kC_ad1, kX_30, hdJ]) (fun q k' i' => kC_ad1 k' i') (by decide) (Nat.le_of_ble_eq_true rfl) (Nat.le_of_ble_eq_true rfl) dL_law_17 (fun q30 H hq30 hW hS => ?_)
  have b1 : (ad1 a3 30 0 q30).1 30 0 = q30 := ad1_s _ _ _ _
  have b2 : ∀ k i, ¬ (k = 30 ∧ i = 0) → (ad1 a3 30 0 q30).1 k i = a3.1 k i := fun k i h => ad1_n _ _ h
  have b3 : (ad1 a3 30 0 q30).2 = a3.2 := rfl
  generalize ad1 a3 30 0 q30 = a4 at hW b1 b2 b3
  subst b1
  refine lv_astore_n (lv' := [(3, .ref (a4.1 30 0)), (2, .ref (a2.1 40 0)), (1, .ref (a0.1 0 0)), (0, .ref b)]) hx hb dL_law_19 rfl hl (by decide) rfl (fun ls hl => ?_)
  refine n_iconst (v := 0) hx hb dL_law_20 (by decide) ?_
  refine lv_istore (lv' := [(4, .int (nI (8 * 0))), (3, .ref (a4.1 30 0)), (2, .ref (a2.1 40 0)), (1, .ref (a0.1 0 0)), (0, .ref b)]) hx hb dL_law_21 hl (by decide) rfl (fun ls hl => ?_)
  refine W.widen (k := 300 + 4 * 0) (n := 500000 + 100 * 0) (by decide) (by decide) ?_
  have e1 : ∀ k, k < 30 → a4.1 k = a1.1 k := fun k hk => by
    funext i
    rw [b2 k i (by omega), hMN.2.2.2.1 k i (by omega), hn1 k i (by omega)]
  have e2 : ∀ k, k < 30 → a4.2 k = a1.2 k := fun k hk => by
    funext i
    rw [b3, hMN.2.2.2.2 k i (by omega), hn2 k i (by omega)]
  have hX4 : InvX cA a4 s00 d1 := hX1.chg (st_al hX1.1.1 e1 e2) hX1.1.2.1 hX1.1.2.2 (fun _ => rfl) (fun _ => rfl) (fun _ => rfl) (fun _ => rfl) (fun _ => rfl) rfl rfl (fun _ _ _ _ => rfl) (fun _ _ => ⟨rfl, rfl, rfl, rfl⟩)
  have elo : ∀ k, k < 40 → (uI d1 40 0 19 (nI 399)).1 k = d1.1 k := fun k hk => by
    funext i; exact up3_ne _ _ _ (fun q => by omega)
  have hmal : mAl a4 := ⟨by rw [b2 40 0 (by omega)]; exact hal3.1, fun f hf h9 => by rw [b2 _ _ (by omega), b3]; exact hal3.2 f hf h9⟩
  refine lw_loop hF (fun x0 m0 o0 n hn nx S sr ad d H locs ls hI hW hS hl => lc_35 hfl hF hn nx hI hW hS hl) (a0.1 0 0) (a2.1 40 0) (a4.1 30 0) (L + 1) 0 (by omega) (by omega) s00 (fun _ => 0) a4 _ H locs ls ⟨hX4.lo elo (fun _ _ => rfl), hR1.lo elo, st_M hZ1, fun i hi => absurd hi (Nat.not_lt_zero _), hmal, hZ1.2.1 31 0 0, hq30, ?_, ?_, rfl⟩ hW hS hl
  · rw [e1 0 (by omega)]; exact h00
  · rw [b2 40 0 (by omega)]; exact h40

