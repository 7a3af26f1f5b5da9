/-! the reference: its pure state, what holds of its data, rows for its fields and arrays -/
theorem mO_at (a : kA) (g : Nat → Int32) {f : Nat} (hf : f < 48) : (mO a g)[f]? = some (mV a g f) := by
  unfold mO
  rw [List.getElem?_map, List.getElem?_range hf]; rfl
theorem mO_len (a : kA) (g : Nat → Int32) : (mO a g).length = 48 := by simp [mO]
theorem mO_set (a : kA) (g : Nat → Int32) {f : Nat} {v : Int32} (ht : mTy f = 9) : mO a (va_up g f v) = (mO a g).set f (.int v) := by
  apply List.ext_getElem?
  intro j
  rw [List.getElem?_set, mO_len]
  by_cases hj : j < 48
  · rw [mO_at _ _ hj, mO_at _ _ hj]
    by_cases hfj : f = j
    · subst hfj
      rw [if_pos rfl, if_pos hj]
      simp [mV, ht, va_up]
    · rw [if_neg hfj]
      simp [mV, va_up, Ne.symm hfj]
  · rw [List.getElem?_eq_none (by rw [mO_len]; omega), List.getElem?_eq_none (by rw [mO_len]; omega)]
    by_cases hfj : f = j
    · subst hfj
      rw [if_pos rfl, if_neg hj]
    · rw [if_neg hfj]
theorem kF_M (cA : Nat → ClassId) (ad : kA) (g : Nat → Int32) (J : Nat → Int64) (N : Nat → Nat) : kF cA ad g J N 40 0 = some (.inr (ciM, mO ad g)) := rfl
theorem kC_M (cA : Nat → ClassId) (ad : kA) (d : kD) : kC cA ad d 40 0 = some (.inr (ciM, mO ad (d.1 40 0))) := rfl
theorem kF_i {cA : Nat → ClassId} {ad : kA} {J : Nat → Int64} {N : Nat → Nat} {f : Nat} (h : mTy f = 0) (g : Nat → Int32) : kF cA ad g J N (50 + f) 0 = some (.inl (cA 0, mLen f, .inl g)) := by
  have h1 : ¬ (50 + f < 40) := by omega
  have h2 : ¬ (50 + f = 40) := by omega
  have h3 : 50 + f - 50 = f := by omega
  simp [kF, mF, h1, h2, h3, h]
theorem kF_z {cA : Nat → ClassId} {ad : kA} {J : Nat → Int64} {N : Nat → Nat} {f : Nat} (h : mTy f = 2) (g : Nat → Int32) : kF cA ad g J N (50 + f) 0 = some (.inl (cA 2, mLen f, .inl g)) := by
  have h1 : ¬ (50 + f < 40) := by omega
  have h2 : ¬ (50 + f = 40) := by omega
  have h3 : 50 + f - 50 = f := by omega
  simp [kF, mF, h1, h2, h3, h]
theorem kF_l {cA : Nat → ClassId} {ad : kA} {g : Nat → Int32} {N : Nat → Nat} {f : Nat} (h : mTy f = 1) (J : Nat → Int64) : kF cA ad g J N (50 + f) 0 = some (.inl (cA 1, mLen f, .inr (.inl J))) := by
  have h1 : ¬ (50 + f < 40) := by omega
  have h2 : ¬ (50 + f = 40) := by omega
  have h3 : 50 + f - 50 = f := by omega
  simp [kF, mF, h1, h2, h3, h]
/-- the reference is there -/
def mAl (ad : kA) : Prop := ad.1 40 0 ≠ 0 ∧ ∀ f, f < 48 → mTy f ≠ 9 → ad.1 (50 + f) 0 ≠ 0 ∧ ad.2 40 0 f = ad.1 (50 + f) 0
abbrev sS : Type := Nat → Nat → Nat
/-- the data are those of the pure state -/
def dS (S : sS) (d : kD) : Prop := (∀ f i, i < sLen f → d.1 (50 + f) 0 i = nI (S f i)) ∧ ∀ f, sFld f = true → d.1 40 0 f = nI (S f 0)
section MR
variable {p : Program} {l : Launch} {e : Env} {R : Room} {s : State} {m : MethodId} {args : Array Value} {below : List Frame} {meth : Method} {c : Code} {H : Heap} {locs : List Loc} {cells slots : Nat} {Q : State → Prop}
variable {cc : ByteArray} {pc : Nat} {ls : Array Slot} {rest : List Value} {D : va_G} {cA : Nat → ClassId} {B0 : Nat} {ad : kA} {d : kD} {H0 : Heap} {S : sS} {index : Nat}
theorem mo_gv (hx : p.tables.exec = Jvm.exec) (hb : c.code = cc) (hu : ∀ w ∈ UW, w.before args s = true) (hown : s.vm.findClass RX10 = some m.cls) (hK : oK D cA s) (hal : mAl ad) (hW : oW D cA B0 ad d H) (f : Nat) (hf : f < 48) (hlink : Cond.fieldLink RX10 index (TX10 f).1 (TX10 f).2.1 (TX10 f).2.2.1 ∈ UW) (hdg : decode cc pc = .ok (.getfield index, 3))
    (kk : W p l e R s m args below meth c H locs cells slots Q (F0 m (pc + 3) ls (mV ad (d.1 40 0) f :: rest))) : W p l e R s m args below meth c H locs cells slots Q (F0 m pc ls (.ref (ad.1 40 0) :: rest)) :=
  o_get (C := RX10) (T := TX10) (N := 48) hx hb hu in_X10 hown hK hW hal.1 (kC_M cA ad d) rfl f hf (hu _ hlink) (mO_at _ _ hf) hdg kk
theorem mo_ga (hx : p.tables.exec = Jvm.exec) (hb : c.code = cc) (hu : ∀ w ∈ UW, w.before args s = true) (hown : s.vm.findClass RX10 = some m.cls) (hK : oK D cA s) (hal : mAl ad) (hW : oW D cA B0 ad d H) (f : Nat) (hf : (f < 48) ∧ mTy f ≠ 9) (hlink : Cond.fieldLink RX10 index (TX10 f).1 (TX10 f).2.1 (TX10 f).2.2.1 ∈ UW) (hdg : decode cc pc = .ok (.getfield index, 3))
    (kk : W p l e R s m args below meth c H locs cells slots Q (F0 m (pc + 3) ls (.ref (ad.1 (50 + f) 0) :: rest))) : W p l e R s m args below meth c H locs cells slots Q (F0 m pc ls (.ref (ad.1 40 0) :: rest)) :=
  mo_gv hx hb hu hown hK hal hW f hf.1 hlink hdg (by rw [show mV ad (d.1 40 0) f = .ref (ad.1 (50 + f) 0) from by unfold mV; rw [if_neg hf.2, (hal.2 f hf.1 hf.2).2, if_neg (hal.2 f hf.1 hf.2).1]]; exact kk)
theorem mo_gr (hx : p.tables.exec = Jvm.exec) (hb : c.code = cc) (hu : ∀ w ∈ UW, w.before args s = true) (hown : s.vm.findClass RX10 = some m.cls) (hK : oK D cA s) (hal : mAl ad) (hW : oW D cA B0 ad d H) (f : Nat) (hf : (f < 48) ∧ mTy f = 9) (hlink : Cond.fieldLink RX10 index (TX10 f).1 (TX10 f).2.1 (TX10 f).2.2.1 ∈ UW) (hdg : decode cc pc = .ok (.getfield index, 3))
    (kk : W p l e R s m args below meth c H locs cells slots Q (F0 m (pc + 3) ls (.int (d.1 40 0 f) :: rest))) : W p l e R s m args below meth c H locs cells slots Q (F0 m pc ls (.ref (ad.1 40 0) :: rest)) :=
  mo_gv hx hb hu hown hK hal hW f hf.1 hlink hdg (by rw [show mV ad (d.1 40 0) f = .int (d.1 40 0 f) from if_pos hf.2]; exact kk)
theorem mo_gi (hx : p.tables.exec = Jvm.exec) (hb : c.code = cc) (hu : ∀ w ∈ UW, w.before args s = true) (hown : s.vm.findClass RX10 = some m.cls) (hK : oK D cA s) (hal : mAl ad) (hW : oW D cA B0 ad d H) (hd : dS S d) (f : Nat) (hf : ((f < 48) ∧ mTy f = 9) ∧ sFld f = true) (hlink : Cond.fieldLink RX10 index (TX10 f).1 (TX10 f).2.1 (TX10 f).2.2.1 ∈ UW) (hdg : decode cc pc = .ok (.getfield index, 3))
    (kk : W p l e R s m args below meth c H locs cells slots Q (F0 m (pc + 3) ls (.int (nI (S f 0)) :: rest))) : W p l e R s m args below meth c H locs cells slots Q (F0 m pc ls (.ref (ad.1 40 0) :: rest)) :=
  mo_gr hx hb hu hown hK hal hW f hf.1 hlink hdg (by rw [hd.2 f hf.2]; exact kk)
theorem mo_pi (hx : p.tables.exec = Jvm.exec) (hb : c.code = cc) (hu : ∀ w ∈ UW, w.before args s = true) (hown : s.vm.findClass RX10 = some m.cls) (hK : oK D cA s) (hal : mAl ad) (hW : oW D cA B0 ad d H) (hS : va_S (oA B0) H0 H locs) (f : Nat) (hf : ((f < 48) ∧ mTy f = 9) ∧ (TX10 f).2.2.2 = false ∧ parseFieldDescriptor (TX10 f).2.2.1 = some .int) (hlink : Cond.fieldLink RX10 index (TX10 f).1 (TX10 f).2.1 (TX10 f).2.2.1 ∈ UW) {v : Int32} (hdg : decode cc pc = .ok (.putfield index, 3))
    (kk : ∀ (H1 : Heap) (locs1 : List Loc), oW D cA B0 ad (uI d 40 0 f v) H1 → va_S (oA B0) H0 H1 locs1 → W p l e R s m args below meth c H1 locs1 cells slots Q (F0 m (pc + 3) ls rest)) : W p l e R s m args below meth c H locs cells slots Q (F0 m pc ls (.int v :: .ref (ad.1 40 0) :: rest)) :=
  o_puti (C := RX10) (T := TX10) (N := 48) hx hb hu in_X10 tyX10 tyX10_ok nmX10 hown hK hW hS hal.1 (fun g => kF_M _ _ g _ _) rfl f hf.1.1 (hu _ hlink) hf.2.1 (ty := .int) hf.2.2 (mO_set _ _ hf.1.2) rfl rfl (by rw [mO_len]; exact hf.1.1) hdg kk
theorem mo_ld (hx : p.tables.exec = Jvm.exec) (hb : c.code = cc) (hK : oK D cA s) (hal : mAl ad) (hW : oW D cA B0 ad d H) (hd : dS S d) (f : Nat) {n j : Nat} (hf : (f < 48) ∧ (mTy f = 0) ∧ mLen f = n ∧ sLen f = n ∧ n < 2 ^ 31) (hj : j < n) (hdg : decode cc pc = .ok (.iaload, 1))
    (kk : W p l e R s m args below meth c H locs cells slots Q (F0 m (pc + 1) ls (.int (nI (S f j)) :: rest))) : W p l e R s m args below meth c H locs cells slots Q (F0 m pc ls (.int (nI j) :: .ref (ad.1 (50 + f) 0) :: rest)) := by
  obtain ⟨hf8, h0, rfl, h2, h3⟩ := hf
  refine o_ild hx hb hK hW (hal.2 f hf8 (by rw [h0]; decide)).1 (kF_i h0 _) (vp_in_nI hj h3) hdg ?_
  rw [nI_clamp (by omega), hd.1 f j (by rw [h2]; exact hj)]
  exact kk
theorem mo_lr (hx : p.tables.exec = Jvm.exec) (hb : c.code = cc) (hK : oK D cA s) (hal : mAl ad) (hW : oW D cA B0 ad d H) (f : Nat) {n j : Nat} (hf : (f < 48) ∧ (mTy f = 0) ∧ mLen f = n ∧ n < 2 ^ 31) (hj : j < n) (hdg : decode cc pc = .ok (.iaload, 1))
    (kk : W p l e R s m args below meth c H locs cells slots Q (F0 m (pc + 1) ls (.int (d.1 (50 + f) 0 j) :: rest))) : W p l e R s m args below meth c H locs cells slots Q (F0 m pc ls (.int (nI j) :: .ref (ad.1 (50 + f) 0) :: rest)) := by
  obtain ⟨hf8, h0, rfl, h3⟩ := hf
  refine o_ild hx hb hK hW (hal.2 f hf8 (by rw [h0]; decide)).1 (kF_i h0 _) (vp_in_nI hj h3) hdg ?_
  rw [nI_clamp (by omega)]
  exact kk
theorem mo_zl (hx : p.tables.exec = Jvm.exec) (hb : c.code = cc) (hK : oK D cA s) (hal : mAl ad) (hW : oW D cA B0 ad d H) (f : Nat) {n j : Nat} (hf : (f < 48) ∧ (mTy f = 2) ∧ mLen f = n ∧ n < 2 ^ 31) (hj : j < n) (hdg : decode cc pc = .ok (.baload, 1))
    (kk : W p l e R s m args below meth c H locs cells slots Q (F0 m (pc + 1) ls (.int (d.1 (50 + f) 0 j) :: rest))) : W p l e R s m args below meth c H locs cells slots Q (F0 m pc ls (.int (nI j) :: .ref (ad.1 (50 + f) 0) :: rest)) := by
  obtain ⟨hf8, h0, rfl, h3⟩ := hf
  refine o_zld hx hb hK hW (hal.2 f hf8 (by rw [h0]; decide)).1 (kF_z h0 _) (vp_in_nI hj h3) hdg ?_
  rw [nI_clamp (by omega)]
  exact kk
theorem mo_ll (hx : p.tables.exec = Jvm.exec) (hb : c.code = cc) (hK : oK D cA s) (hal : mAl ad) (hW : oW D cA B0 ad d H) (f : Nat) {n j : Nat} (hf : (f < 48) ∧ (mTy f = 1) ∧ mLen f = n ∧ n < 2 ^ 31) (hj : j < n) (hdg : decode cc pc = .ok (.laload, 1))
    (kk : W p l e R s m args below meth c H locs cells slots Q (F0 m (pc + 1) ls (.long (d.2.1 (50 + f) 0 j) :: rest))) : W p l e R s m args below meth c H locs cells slots Q (F0 m pc ls (.int (nI j) :: .ref (ad.1 (50 + f) 0) :: rest)) := by
  obtain ⟨hf8, h0, rfl, h3⟩ := hf
  refine o_lld hx hb hK hW (hal.2 f hf8 (by rw [h0]; decide)).1 (kF_l h0 _) (vp_in_nI hj h3) hdg ?_
  rw [nI_clamp (by omega)]
  exact kk
theorem mo_st (hx : p.tables.exec = Jvm.exec) (hb : c.code = cc) (hK : oK D cA s) (hal : mAl ad) (hW : oW D cA B0 ad d H) (hS : va_S (oA B0) H0 H locs) (f : Nat) {n j : Nat} {x : Int32} (hf : (f < 48) ∧ (mTy f = 0) ∧ mLen f = n ∧ n < 2 ^ 31) (hj : j < n) (hdg : decode cc pc = .ok (.iastore, 1))
    (kk : ∀ (H1 : Heap) (locs1 : List Loc), oW D cA B0 ad (uI d (50 + f) 0 j x) H1 → va_S (oA B0) H0 H1 locs1 → W p l e R s m args below meth c H1 locs1 cells slots Q (F0 m (pc + 1) ls rest)) : W p l e R s m args below meth c H locs cells slots Q (F0 m pc ls (.int x :: .int (nI j) :: .ref (ad.1 (50 + f) 0) :: rest)) := by
  obtain ⟨hf8, h0, rfl, h3⟩ := hf
  refine o_ist hx hb hK hW hS (hal.2 f hf8 (by rw [h0]; decide)).1 (fun g => kF_i h0 g) (vp_in_nI hj h3) hdg ?_
  rw [nI_clamp (by omega)]
  exact kk
theorem mo_zs (hx : p.tables.exec = Jvm.exec) (hb : c.code = cc) (hK : oK D cA s) (hal : mAl ad) (hW : oW D cA B0 ad d H) (hS : va_S (oA B0) H0 H locs) (f : Nat) {n j : Nat} {x : Int32} (hf : (f < 48) ∧ (mTy f = 2) ∧ mLen f = n ∧ n < 2 ^ 31) (hj : j < n) (hxx : vp_nar .boolean x = x) (hdg : decode cc pc = .ok (.bastore, 1))
    (kk : ∀ (H1 : Heap) (locs1 : List Loc), oW D cA B0 ad (uI d (50 + f) 0 j x) H1 → va_S (oA B0) H0 H1 locs1 → W p l e R s m args below meth c H1 locs1 cells slots Q (F0 m (pc + 1) ls rest)) : W p l e R s m args below meth c H locs cells slots Q (F0 m pc ls (.int x :: .int (nI j) :: .ref (ad.1 (50 + f) 0) :: rest)) := by
  obtain ⟨hf8, h0, rfl, h3⟩ := hf
  refine o_zst hx hb hK hW hS (hal.2 f hf8 (by rw [h0]; decide)).1 (fun g => kF_z h0 g) (vp_in_nI hj h3) hxx hdg ?_
  rw [nI_clamp (by omega)]
  exact kk
theorem mo_ls (hx : p.tables.exec = Jvm.exec) (hb : c.code = cc) (hK : oK D cA s) (hal : mAl ad) (hW : oW D cA B0 ad d H) (hS : va_S (oA B0) H0 H locs) (f : Nat) {n j : Nat} {x : Int64} (hf : (f < 48) ∧ (mTy f = 1) ∧ mLen f = n ∧ n < 2 ^ 31) (hj : j < n) (hdg : decode cc pc = .ok (.lastore, 1))
    (kk : ∀ (H1 : Heap) (locs1 : List Loc), oW D cA B0 ad (uJ d (50 + f) 0 j x) H1 → va_S (oA B0) H0 H1 locs1 → W p l e R s m args below meth c H1 locs1 cells slots Q (F0 m (pc + 1) ls rest)) : W p l e R s m args below meth c H locs cells slots Q (F0 m pc ls (.long x :: .int (nI j) :: .ref (ad.1 (50 + f) 0) :: rest)) := by
  obtain ⟨hf8, h0, rfl, h3⟩ := hf
  refine o_lst hx hb hK hW hS (hal.2 f hf8 (by rw [h0]; decide)).1 (fun J => kF_l h0 J) (vp_in_nI hj h3) hdg ?_
  rw [nI_clamp (by omega)]
  exact kk
end MR

theorem mV_set (a : kA) (g : Nat → Int32) {f q j : Nat} (ht : mTy f ≠ 9) (hq : q ≠ 0) : mV (ad2 a 40 0 f q) g j = if j = f then .ref q else mV a g j := by
  unfold mV ad2
  by_cases hj : j = f
  · subst hj
    rw [if_neg ht, if_pos rfl]
    show (if up3 a.2 40 0 j q 40 0 j = 0 then Value.null else .ref (up3 a.2 40 0 j q 40 0 j)) = _
    rw [up3_same]
    have e : va_up (a.2 40 0) j q j = q := by simp [va_up]
    rw [e, if_neg hq]
  · rw [if_neg hj]
    show (if mTy j = 9 then Value.int (g j) else if up3 a.2 40 0 f q 40 0 j = 0 then .null else .ref (up3 a.2 40 0 f q 40 0 j)) = _
    rw [up3_same]
    have e : va_up (a.2 40 0) f q j = a.2 40 0 j := by simp [va_up, hj]
    rw [e]
theorem mO_setR (a : kA) (g : Nat → Int32) {f q : Nat} (ht : mTy f ≠ 9) (hq : q ≠ 0) : mO (ad2 a 40 0 f q) g = (mO a g).set f (.ref q) := by
  apply List.ext_getElem?
  intro j
  rw [List.getElem?_set, mO_len]
  by_cases hj : j < 48
  · rw [mO_at _ _ hj, mO_at _ _ hj, mV_set a g ht hq]
    by_cases hfj : f = j
    · subst hfj
      rw [if_pos rfl, if_pos rfl, if_pos hj]
    · rw [if_neg hfj, if_neg (Ne.symm hfj)]
  · rw [List.getElem?_eq_none (by rw [mO_len]; omega), List.getElem?_eq_none (by rw [mO_len]; omega)]
    by_cases hfj : f = j
    · subst hfj
      rw [if_pos rfl, if_neg hj]
    · rw [if_neg hfj]
/-- the layout of other keys doesn't reach a cell -/
theorem kC_ad2 {cA : Nat → ClassId} {ad : kA} {d : kD} {f q : Nat} (k' i' : Nat) (h : ¬ (k' = 40 ∧ i' = 0)) : kC cA (ad2 ad 40 0 f q) d k' i' = kC cA ad d k' i' := by
  unfold kC kF
  by_cases hk : k' < 40
  · rw [if_pos hk, if_pos hk]
    show xF cA (up3 ad.2 40 0 f q k' i') _ _ _ = _
    rw [up3_ne _ _ _ h]
  · rw [if_neg hk, if_neg hk]
    unfold mF
    by_cases hi : i' = 0
    · rw [if_pos hi, if_pos hi, if_neg (fun q => h ⟨q, hi⟩), if_neg (fun q => h ⟨q, hi⟩)]
    · rw [if_neg hi, if_neg hi]
theorem kC_ad1 {cA : Nat → ClassId} {ad : kA} {d : kD} {k i q : Nat} (k' i' : Nat) : kC cA (ad1 ad k i q) d k' i' = kC cA ad d k' i' := rfl
