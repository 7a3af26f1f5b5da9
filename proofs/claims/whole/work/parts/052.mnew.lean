/-! the reference is made: fields below n have their arrays -/
def MN (n : Nat) (ad0 ad : kA) : Prop := ad.1 40 0 = ad0.1 40 0 ∧ (∀ f, f < n → f < 48 → mTy f ≠ 9 → ad.1 (50 + f) 0 ≠ 0 ∧ ad.2 40 0 f = ad.1 (50 + f) 0) ∧ (∀ f, n ≤ f → ad.1 (50 + f) 0 = 0) ∧ (∀ k i, ¬ (50 ≤ k ∧ k < 98 ∧ i = 0) → ad.1 k i = ad0.1 k i) ∧ ∀ k i, ¬ (k = 40 ∧ i = 0) → ad.2 k i = ad0.2 k i
theorem MN.start {ad : kA} (h : ∀ f, ad.1 (50 + f) 0 = 0) : MN 0 ad ad := ⟨rfl, fun f h => absurd h (Nat.not_lt_zero _), fun f _ => h f, fun _ _ _ => rfl, fun _ _ _ => rfl⟩
theorem MN.skip {n n' : Nat} {ad0 ad : kA} (h : MN n ad0 ad) (hn : n ≤ n') (ht : ∀ f, f < n' → n ≤ f → mTy f = 9) : MN n' ad0 ad :=
  ⟨h.1, fun f hf h8 h9 => h.2.1 f (by
    rcases Nat.lt_or_ge f n with q | q
    · exact q
    · exact absurd (ht f hf q) h9) h8 h9, fun f hf => h.2.2.1 f (by omega), h.2.2.2⟩
theorem MN.put {n q : Nat} {ad0 ad : kA} (h : MN n ad0 ad) (hq : q ≠ 0) (hn : n < 48) : MN (n + 1) ad0 (ad2 (ad1 ad (50 + n) 0 q) 40 0 n q) := by
  obtain ⟨h1, h2, h3, h4, h5⟩ := h
  refine ⟨?_, fun f hf h8 h9 => ?_, fun f hf => ?_, fun k i hk => ?_, fun k i hk => ?_⟩
  · show (ad1 ad (50 + n) 0 q).1 40 0 = _
    rw [ad1_n _ _ (by omega)]; exact h1
  · show (ad1 ad (50 + n) 0 q).1 (50 + f) 0 ≠ 0 ∧ up3 ad.2 40 0 n q 40 0 f = (ad1 ad (50 + n) 0 q).1 (50 + f) 0
    rw [up3_same]
    by_cases e : f = n
    · subst e
      rw [ad1_s]
      exact ⟨hq, by simp [va_up]⟩
    · rw [ad1_n _ _ (by omega)]
      have := h2 f (by omega) h8 h9
      exact ⟨this.1, by simp only [va_up, e, if_false]; exact this.2⟩
  · show (ad1 ad (50 + n) 0 q).1 (50 + f) 0 = 0
    rw [ad1_n _ _ (by omega)]; exact h3 f (by omega)
  · show (ad1 ad (50 + n) 0 q).1 k i = _
    rw [ad1_n _ _ (by omega)]; exact h4 k i hk
  · show up3 ad.2 40 0 n q k i = _
    rw [up3_ne _ _ _ hk]; exact h5 k i hk
section MMK
variable {p : Program} {l : Launch} {e : Env} {R : Room} {s : State} {m : MethodId} {args : Array Value} {below : List Frame} {meth : Method} {c : Code} {H : Heap} {locs : List Loc} {cells slots : Nat} {Q : State → Prop}
variable {cc : ByteArray} {pc : Nat} {ls : Array Slot} {rest : List Value} {D : va_G} {cA : Nat → ClassId} {B0 : Nat} {ad ad0 : kA} {d : kD}
theorem mo_mk (hx : p.tables.exec = Jvm.exec) (hb : c.code = cc) (hu : ∀ w ∈ UW, w.before args s = true) (hown : s.vm.findClass RX10 = some m.cls) (hin2 : meth.name = "<init>") (hK : oK D cA s) (f : Nat) (hN : MN f ad0 ad) (h40 : ad0.1 40 0 ≠ 0) (hW : oW D cA B0 ad d H) (hS : va_S (oA B0) s.heap H locs) (hB : B0 ≤ s.heap.size) (h0 : 0 < B0)
    {atype : ArrayType} {ty : FieldType} (t : Nat) {n index : Nat} {a0 : vp_A} (hty : newarray.typeOf atype = ty) (harr : Cond.arrayClass ty ∈ UW) (hRA : ∀ x, va_RA s x ty = (s.vm.findClass ("[" ++ ty.toString) = some x)) (hoT : (oT cA)[t]? = some (cA t, ty)) (hn : n < 2 ^ 31) (ha : vp_cell (cA t) a0 = arrV (cA t) n (fun _ => defaultValue ty)) (hc : kC cA ad d (50 + f) 0 = some (.inl (cA t, a0))) (hbytes : n * componentBytes ty ≤ 536870912) (hcells : cells + 1 ≤ R.cells) (hslots : slots + n ≤ R.slots)
    (hf : (f < 48) ∧ mTy f ≠ 9 ∧ (TX10 f).2.2.2 = true ∧ (TX10 f).1 = RX10 ∧ parseFieldDescriptor (TX10 f).2.2.1 = some (.array ty)) (hlink : Cond.fieldLink RX10 index (TX10 f).1 (TX10 f).2.1 (TX10 f).2.2.1 ∈ UW) (hdg : decode cc pc = .ok (.newarray atype, 2)) (hdg2 : decode cc (pc + 2) = .ok (.putfield index, 3))
    (kk : ∀ (ad' : kA) (H1 : Heap) (locs1 : List Loc), MN (f + 1) ad0 ad' → oW D cA B0 ad' d H1 → va_S (oA B0) s.heap H1 locs1 → W p l e R s m args below meth c H1 locs1 (cells + 1) (slots + n) Q (F0 m (pc + 5) ls rest)) : W p l e R s m args below meth c H locs cells slots Q (F0 m pc ls (.int (nI n) :: .ref (ad0.1 40 0) :: rest)) := by
  obtain ⟨hf8, ht9, hfin, hdec, hpd⟩ := hf
  refine o_newa hx hb hu hty harr t hRA hoT hK hW hS hB h0 (k := 50 + f) (i := 0) (hN.2.2.1 f (Nat.le_refl _)) hn ha (fun q => by rw [kC_ad1]; exact hc) (fun q k' i' => kC_ad1 k' i') hbytes hcells hslots hdg (fun q H1 hq hW1 hS1 => ?_)
  have e40 : ad0.1 40 0 = (ad1 ad (50 + f) 0 q).1 40 0 := by rw [ad1_n _ _ (by omega)]; exact hN.1.symm
  rw [e40]
  refine o_putrF (C := RX10) (T := TX10) (N := 48) hx hb hu in_X10 tyX10 tyX10_ok nmX10 hown hK hW1 hS1 (k := 40) (i := 0) (q := q) (by rw [← e40]; exact h40) rfl f (kC_M _ _ _) (by rw [kC_M, mO_setR _ _ ht9 hq]) (fun k' i' h => kC_ad2 k' i' h) hf8 (hu _ hlink) hfin hin2 hdec hpd rfl rfl (by rw [mO_len]; exact hf8) hdg2 (fun H2 locs2 hW2 hS2 => ?_)
  exact kk _ H2 locs2 (hN.put hq hf8) hW2 hS2
end MMK
def oQvA (D : va_G) (cA : Nat → ClassId) (B0 : Nat) (post : kA × kD → Prop) : Array Value → State → Outcome → State → Prop := va_Qv post (fun u t => oW D cA B0 u.1 u.2 t.heap) (oA B0)
theorem mAl_of {ad0 ad : kA} (h : MN 48 ad0 ad) (h40 : ad0.1 40 0 ≠ 0) : mAl ad := ⟨by rw [h.1]; exact h40, fun f hf h9 => h.2.1 f hf hf h9⟩
theorem kC_zi {cA : Nat → ClassId} {ad : kA} {d : kD} (f : Nat) {n : Nat} (h : mTy f = 0 ∧ mLen f = n) (hz : d.1 (50 + f) 0 = fun _ => 0) : kC cA ad d (50 + f) 0 = some (.inl (cA 0, (n, .inl (fun _ => 0)))) := by
  obtain ⟨h, rfl⟩ := h
  show kF cA ad (d.1 (50 + f) 0) (d.2.1 (50 + f) 0) (d.2.2 (50 + f) 0) (50 + f) 0 = _
  rw [kF_i h, hz]
theorem kC_zz {cA : Nat → ClassId} {ad : kA} {d : kD} (f : Nat) {n : Nat} (h : mTy f = 2 ∧ mLen f = n) (hz : d.1 (50 + f) 0 = fun _ => 0) : kC cA ad d (50 + f) 0 = some (.inl (cA 2, (n, .inl (fun _ => 0)))) := by
  obtain ⟨h, rfl⟩ := h
  show kF cA ad (d.1 (50 + f) 0) (d.2.1 (50 + f) 0) (d.2.2 (50 + f) 0) (50 + f) 0 = _
  rw [kF_z h, hz]
theorem kC_zl {cA : Nat → ClassId} {ad : kA} {d : kD} (f : Nat) {n : Nat} (h : mTy f = 1 ∧ mLen f = n) (hz : d.2.1 (50 + f) 0 = fun _ => 0) : kC cA ad d (50 + f) 0 = some (.inl (cA 1, (n, .inr (.inl (fun _ => 0))))) := by
  obtain ⟨h, rfl⟩ := h
  show kF cA ad (d.1 (50 + f) 0) (d.2.1 (50 + f) 0) (d.2.2 (50 + f) 0) (50 + f) 0 = _
  rw [kF_l h, hz]
