/-! calls that make a new one: rows -/
theorem kX_2 (cA : Nat → ClassId) (ad : kA) (d : kD) (i : Nat) : kC cA ad d 2 i = some (.inl (cA 4, 8, .inr (.inr (.inr (.inr (fun q => rf (ad.2 2 i q))))))) := rfl
theorem ad2_s (ad : kA) (k i f q : Nat) : (ad2 ad k i f q).2 k i = va_up (ad.2 k i) f q := up3_same _ _ _ _ _
theorem ad2_n (ad : kA) {k i k' i' f : Nat} (q : Nat) (h : ¬ (k' = k ∧ i' = i)) : (ad2 ad k i f q).2 k' i' = ad.2 k' i' := up3_ne _ _ _ h
theorem uJ_1 (d : kD) (k i f : Nat) (v : Int64) : (uJ d k i f v).1 = d.1 := rfl
theorem uI_2 (d : kD) (k i f : Nat) (v : Int32) : (uI d k i f v).2 = d.2 := rfl
theorem rx_no2 {j a b : Nat} (h : j < a) (hj : j < 2 ^ 31) : rx (nI j) a b = false := by
  unfold rx
  refine decide_eq_false (fun q => ?_)
  have h1 : nx (nI j) = j := nx_nI hj
  have h2 : (nI j).toInt.toNat = j := h1
  omega
section XA
variable {p : Program} {l : Launch} {e : Env} {R : Room} {s : State} {m : MethodId} {args : Array Value} {below : List Frame} {meth : Method} {c : Code} {H : Heap} {locs : List Loc} {cells slots : Nat} {Q : State → Prop}
variable {cc : ByteArray} {pc : Nat} {ls : Array Slot} {rest : List Value} {D : va_G} {cA : Nat → ClassId} {B0 : Nat} {ad : kA} {d : kD}
theorem o_iretA {post : Int32 → kA × kD → Prop} {v : Int32} (hexec : p.tables.exec = Jvm.exec) (hb : c.code = cc) (hr : meth.sig.returnType = some .int) (hlocks : meth.locks = false) (hW : oW D cA B0 ad d H) (hS : va_S (oA B0) s.heap H locs) (hp : post v (ad, d)) (hdg : decode cc pc = .ok (.ireturn, 1)) : W p l e R s m args below meth c H locs cells slots (MQ below (oQiA D cA B0 post) args s cells slots (oA B0)) (F0 m pc ls [.int v]) :=
  W.iret hexec hb hr (fun t ht _ => ⟨⟨v, (ad, d), rfl, hp, by show oW D cA B0 ad d t.heap; rw [ht]; exact hW⟩, hS.F ht⟩) hS.2.2 hdg hlocks
/-- a place of the array of the stories -/
theorem x_alA (hx : p.tables.exec = Jvm.exec) (hb : c.code = cc) (hK : oK D cA s) (hW : oW D cA B0 ad d H) {k i j q : Nat} (ha : ad.1 k i ≠ 0) (hc : kC cA ad d k i = some (.inl (cA 4, 8, .inr (.inr (.inr (.inr (fun q => rf (ad.2 k i q)))))))) (hj : j < 8) (hq : ad.2 k i j = q ∧ q ≠ 0) (hdg : decode cc pc = .ok (.aaload, 1))
    (kk : W p l e R s m args below meth c H locs cells slots Q (F0 m (pc + 1) ls (.ref q :: rest))) : W p l e R s m args below meth c H locs cells slots Q (F0 m pc ls (.int (nI j) :: .ref (ad.1 k i) :: rest)) := by
  have hcl : (nI j).toNatClampNeg = j := nI_clamp (by omega)
  have hv : va_rf (rf (ad.2 k i j)) = .ref q := by rw [hq.1, rf_ne hq.2]
  have h8 : (8 : Nat) < 2 ^ 31 := by decide
  have hin : vp_in (nI j) 8 := vp_in_nI hj h8
  refine W.aald (v := .ref q) (ty := .array .int) hx hb (hW.1 k i _ ha hc).1 ((hK.1.2 4 _ rfl).1 8 (fun j => va_rf (rf (ad.2 k i j)))) rfl (fun q => by cases q) (by show ¬ (nI j < 0 ∨ (arrV _ _ _).slots.size ≤ _); rw [arrV_size]; exact hin) (by show (arrV _ _ _).slots[_]? = _; rw [hcl, arrV_read _ _ hj, hv]) rfl rfl hdg kk
end XA
