/-! the start -/
def s00 : sS := fun f i => if f = 19 ∧ i = 0 then 399 else 0
theorem s00_n {f i : Nat} (h : ¬ (f = 19 ∧ i = 0)) : s00 f i = 0 := if_neg h
theorem s00_g : sG s00 := by
  refine ⟨fun f i hi => ?_, fun f hf => ?_, fun p hp => absurd hp (Nat.not_lt_zero _), fun p hp => absurd hp (Nat.not_lt_zero _), fun p hp => absurd hp (Nat.not_lt_zero _), fun p hp => absurd hp (Nat.not_lt_zero _), fun p hp => absurd hp (Nat.not_lt_zero _)⟩
  · by_cases e : f = 19
    · subst e
      have : sLen 19 = 0 := by decide
      omega
    · rw [s00_n (fun z => e z.1)]; exact Nat.zero_le _
  · by_cases e : f = 19
    · subst e; decide
    · rw [s00_n (fun z => e z.1)]; exact Nat.zero_le _
theorem xSg_hi {k : Nat} (h : 28 ≤ k) : xSg k = false := by
  unfold xSg
  rw [List.getD_eq_getElem?_getD, List.getElem?_eq_none (by simp; omega)]; rfl
def muA (ad : kA) (b : Nat) : kA := (fun k i => if k = 2 ∧ i = 0 then b else if k = 3 ∧ i < 8 then b + 1 + i else ad.1 k i, fun k i => if k = 2 ∧ i = 0 then fun j => b + 1 + j else ad.2 k i)
theorem muA_2 (ad : kA) (b : Nat) : (muA ad b).1 2 0 = b := rfl
theorem muA_3 (ad : kA) (b : Nat) {i : Nat} (h : i < 8) : (muA ad b).1 3 i = b + 1 + i := by
  show (if (3 : Nat) = 2 ∧ i = 0 then b else if 3 = 3 ∧ i < 8 then b + 1 + i else ad.1 3 i) = _
  rw [if_neg (by omega), if_pos ⟨rfl, h⟩]
theorem muA_n (ad : kA) (b : Nat) {k i : Nat} (h1 : ¬ (k = 2 ∧ i = 0)) (h2 : ¬ (k = 3 ∧ i < 8)) : (muA ad b).1 k i = ad.1 k i := by
  show (if k = 2 ∧ i = 0 then b else if k = 3 ∧ i < 8 then b + 1 + i else ad.1 k i) = _
  rw [if_neg h1, if_neg h2]
theorem muA_r (ad : kA) (b : Nat) : (muA ad b).2 2 0 = fun j => b + 1 + j := rfl
theorem muA_m (ad : kA) (b : Nat) {k i : Nat} (h : ¬ (k = 2 ∧ i = 0)) : (muA ad b).2 k i = ad.2 k i := if_neg h
theorem oW.mu {D : va_G} {cA : Nat → ClassId} {B0 : Nat} {ad : kA} {d : kD} {H H1 : Heap} (h : oW D cA B0 ad d H) (h2 : ad.1 2 0 = 0) (h3 : ∀ i, i < 8 → ad.1 3 i = 0) (hd : ∀ i, i < 8 → d.1 3 i = fun _ => 0) (h0 : 0 < H.size) (hB : B0 ≤ H.size) (hz : H1.size = H.size + 9) (ho : H1[H.size]? = some (mOut (cA 4) H.size 8)) (hk : ∀ q : Nat, q < H.size → H1[q]? = H[q]?) (hi : ∀ j, j < 8 → H1[H.size + 1 + j]? = some (mInn (cA 0))) : oW D cA B0 (muA ad H.size) d H1 := by
  have key : ∀ k i, (muA ad H.size).1 k i ≠ 0 → (k = 2 ∧ i = 0) ∨ (k = 3 ∧ i < 8) ∨ (¬ (k = 2 ∧ i = 0) ∧ ¬ (k = 3 ∧ i < 8)) := fun k i _ => by omega
  have old : ∀ k i, ¬ (k = 2 ∧ i = 0) → ¬ (k = 3 ∧ i < 8) → (muA ad H.size).1 k i ≠ 0 → (muA ad H.size).1 k i = ad.1 k i ∧ ad.1 k i < H.size := fun k i g1 g2 hne => by
    rw [muA_n ad _ g1 g2] at hne ⊢
    exact ⟨rfl, h.2.2 k i hne⟩
  refine ⟨fun k i x ha hx => ?_, fun k i k' i' ha he => ?_, fun k i ha => ?_⟩
  · rcases key k i ha with ⟨rfl, rfl⟩ | ⟨rfl, hi8⟩ | ⟨g1, g2⟩
    · rw [kX_2, muA_r] at hx
      cases hx
      rw [muA_2]
      refine ⟨?_, hB⟩
      show H1[H.size]? = some (vp_cell _ _)
      rw [ho, vp_cell_q]
      exact congrArg some (arrV_cg (f := fun j => if j < 8 then Value.ref (H.size + 1 + j) else Value.null) (fun j hj => by show (if j < 8 then Value.ref (H.size + 1 + j) else Value.null) = va_rf (rf (H.size + 1 + j)); rw [if_pos hj, rf_ne (by omega)]))
    · rw [kX_3, hd i hi8] at hx
      cases hx
      rw [muA_3 ad _ hi8]
      refine ⟨?_, by omega⟩
      show H1[H.size + 1 + i]? = some (vp_cell _ _)
      rw [hi i hi8, vp_cell_i]
      exact congrArg some (arrV_new _ _ _)
    · obtain ⟨e1, e2⟩ := old k i g1 g2 ha
      have hx2 : kC cA ad d k i = some x := by rw [← hx]; exact (kC_agree rfl rfl (muA_m ad _ g1) (muA_m ad _ (by omega))).symm
      rw [e1] at ha ⊢
      exact ⟨(h.1 k i x ha hx2).1.kept (hk _ e2), (h.1 k i x ha hx2).2⟩
  · have hb : (muA ad H.size).1 k' i' ≠ 0 := by rw [← he]; exact ha
    rcases key k i ha with ⟨rfl, rfl⟩ | ⟨rfl, hi8⟩ | ⟨g1, g2⟩
    · rw [muA_2] at he
      rcases key k' i' hb with ⟨rfl, rfl⟩ | ⟨rfl, hi8'⟩ | ⟨f1, f2⟩
      · exact ⟨rfl, rfl⟩
      · rw [muA_3 ad _ hi8'] at he; omega
      · have := old k' i' f1 f2 hb; omega
    · rw [muA_3 ad _ hi8] at he
      rcases key k' i' hb with ⟨rfl, rfl⟩ | ⟨rfl, hi8'⟩ | ⟨f1, f2⟩
      · rw [muA_2] at he; omega
      · rw [muA_3 ad _ hi8'] at he; exact ⟨rfl, by omega⟩
      · have := old k' i' f1 f2 hb; omega
    · have o1 := old k i g1 g2 ha
      rcases key k' i' hb with ⟨rfl, rfl⟩ | ⟨rfl, hi8'⟩ | ⟨f1, f2⟩
      · rw [muA_2] at he; omega
      · rw [muA_3 ad _ hi8'] at he; omega
      · have o2 := old k' i' f1 f2 hb
        rw [o1.1] at ha
        exact h.2.1 k i k' i' ha (by omega)
  · rcases key k i ha with ⟨rfl, rfl⟩ | ⟨rfl, hi8⟩ | ⟨g1, g2⟩
    · rw [muA_2]; omega
    · rw [muA_3 ad _ hi8]; omega
    · have := old k i g1 g2 ha; omega
section XRN
variable {p : Program} {l : Launch} {e : Env} {R : Room} {s : State} {m : MethodId} {args : Array Value} {below : List Frame} {meth : Method} {c : Code} {H : Heap} {locs : List Loc} {cells slots : Nat}
variable {cc : ByteArray} {pc : Nat} {ls : Array Slot} {rest : List Value} {D : va_G} {cA : Nat → ClassId} {B0 : Nat} {ad : kA} {d : kD} {index : Nat}
/-- a call of a nest mate's constructor -/
theorem x_runIN {y : MethodName} {bytes : ByteArray} {maxL nL mc ms n n0 : Nat} {own host : String} {As st0 : List Value} {a : Nat} (S : CallFix p m c cc nL s args UW own) {Qc : Array Value → State → Outcome → State → Prop} (hM : oM l y (wu y bytes maxL none) n mc ms D cA B0 ad d (.ref a :: As) Qc) (hcd : Cond.code y bytes maxL none ∈ UW) (hin : Cond.instanceMethod y ∈ UW) (hini : Cond.initialized y.cls ∈ UW) (hnl : Cond.methodLinkNest own index y host ∈ nW) (hd : y.name = "<init>" ∧ y.cls ≠ "java/lang/invoke/MethodHandle" ∧ y.cls ≠ "java/lang/invoke/VarHandle" ∧ (parseMethodDescriptor y.desc).map (fun d => d.parameters.length) = some n0) (hn0 : As.length = n0) (hR : n + 1 ≤ R.frames ∧ 8 + (maxL + 11) + 100 * n ≤ R.locals)
    (hK : oK D cA s) (hW : oW D cA B0 ad d H) (hB : oG cA B0 s) (hS : va_S (oA B0) s.heap H locs) (hsz : ls.size = nL) (hst0 : st0 = As.reverse ++ .ref a :: rest) (hrm : 2 * (F0 m pc ls st0).monitorRoom + (rest.map fun v => v.category).sum ≤ 8) (hf : cells + mc ≤ R.cells ∧ slots + ms ≤ R.slots) (hdg : decode cc pc = .ok (.invokespecial index, 3)) :
    va_Run p l e R s m args below meth c H locs cells slots mc ms (F0 m pc ls st0) rest (Qc (Value.ref a :: As).toArray) (oA B0) :=
  va_runIN S hM ⟨va_cnB n0 S.2.2.2.2 (uw_gW (fun _ h => h) hcd) rfl rfl rfl (hK.2 _ hnl) (S.2.2.2.2 _ hini) hd.2 hR, hd.1, S.2.2.2.2 _ hin⟩ ⟨oPc_blind, fun U hU hWm => ⟨rfl, hK.warm hWm, by rw [hU]; exact hW, hB.go hS hU hWm.alike⟩⟩ rfl hn0 hsz hst0 hrm hdg hf
end XRN
/-- the class of the arrays of arrays is there -/
def oV (U : State) : Prop := (Cond.arrayOver (.array .int)).before #[] U = true
theorem oV.moved {u U : State} (hal : u.vm.Alike U.vm) (h : oV u) : oV U := over_moved hal h
theorem o_ofWV {l : Launch} {y : MethodName} {ws ws' : List Cond} {n mc ms : Nat} {D : va_G} {cA : Nat → ClassId} {B0 : Nat} {ad : kA} {d : kD} {av : List Value} {Qc : Array Value → State → Outcome → State → Prop} {cc : ByteArray} {maxL : Nat} {ret : Option FieldType} (V : State → Prop) (hy : plainName y.cls = true) (hw : ws = Cond.code y cc maxL ret :: ws') (hlen : (lg_sl av).length ≤ maxL)
    (body : ∀ (p : Program) (e : Env) (s : State) (m : MethodId) (below : List Frame) (meth : Method) (c : Code), p.tables.exec = Jvm.exec → c.code = cc → meth.sig.returnType = ret → c.maxLocals = maxL → (∀ w ∈ ws, w.before av.toArray s = true) → s.vm.findClass y.cls = some m.cls → meth.locks = false → meth.name = y.name → oK D cA s → oW D cA B0 ad d s.heap → oG cA B0 s → va_S (oA B0) s.heap s.heap [] → V s → ∀ ls : Array Slot, lv_has ls maxL (lv_args 0 av) →
      W p l e (oR n mc ms) s m av.toArray below meth c s.heap [] 0 0 (MQ below Qc av.toArray s mc ms (oA B0)) (F0 m 0 ls [])) : Met l y ws (oR n mc ms) (fun a U => oPc D cA B0 ad d av a U ∧ V U) Qc mc ms (oA B0) := by
  refine Met.ofW (cc := cc) (maxL := maxL) (ret := ret) hy hw ?_
  intro p e s m args below meth c s₁ B hml hv
  obtain ⟨⟨rfl, hK, hW, hB⟩, hV⟩ := hv
  have hl := lv_entry av (n := maxL) hlen
  rw [lg_entry_eq]
  exact body p e s m below meth c B.exec B.bytes B.returns hml (atoms_spec (ws := ws) B.pre) (findClass_of_methodNamed B.named) B.notSynchronized (name_of_methodNamed B.named B.method).1 hK hW hB va_S.rf hV _ hl
set_option maxHeartbeats 4000000 in
set_option maxRecDepth 100000 in
theorem c_X9_init (l : Launch) (D : va_G) (cA : Nat → ClassId) (B0 : Nat) (sr : Nat → Int32) (ad0 : kA) (d0 : kD) (hk0 : ad0.1 0 0 ≠ 0) (hz : ∀ k i, ¬ (k = 0 ∧ i = 0) → ad0.1 k i = 0) (hZ : Zd d0) (h0 : 0 < B0) : Met l yX9_init wX9_init (oR 5 31 7576) (fun a U => oPc D cA B0 ad0 d0 ([.ref (ad0.1 0 0)] : List Value) a U ∧ oV U) (oQvA D cA B0 (fun u => InvX cA u.1 s00 u.2 ∧ RowX s00 sr u.2 ∧ (∀ k i, 30 ≤ k → u.1.1 k i = 0) ∧ Zd u.2 ∧ u.1.1 0 0 = ad0.1 0 0)) 31 7576 (oA B0) := by
  refine o_ofWV oV (cc := cX9_init) (maxL := 1) (ret := none) (by decide) rfl (Nat.le_of_ble_eq_true rfl) ?_
  intro p e s m below meth c hx hb hr hml hts hown hlocks hnm hK hW hB hS hV ls hl
  have hu : ∀ w ∈ UW, w.before _ s = true := fun w h => hts w (uw_c w h)
  have hl : lv_has ls 1 [(0, .ref (ad0.1 0 0))] := hl
  refine lv_aload_n hx hb dX9_init_0 rfl (lv_at hl 0 rfl) ?_
  refine W.objInit hx hb hown (hu _ uM_X9_3) (hu _ uN_java_lang_Object__init___V) (hu _ uC_java_lang_Object__init___V) rfl (by rw [hml]; exact hl.1) rfl dX9_init_1 (Nat.le_of_ble_eq_true rfl) (Nat.le_of_ble_eq_true rfl) ?_
  refine W.eq (g2 := F0 m 4 ls []) rfl ?_
  have h00_0 : ad0.1 0 0 = ad0.1 0 0 := rfl
  refine lv_aload_n hx hb dX9_init_4 rfl (lv_at hl 0 rfl) ?_
  refine n_sipush (v := 400) hx hb dX9_init_5 (by decide) ?_
  refine W.eq (g2 := F0 m 8 ls [.int (nI 400), .ref (ad0.1 0 0)]) (by rw [h00_0]) ?_
  refine x_mk hx hb hu in_X9 tyX9 tyX9_ok nmX9 hown hK hW hS hB.1 h0 (ko := 0) (ka := 1) (by decide) (by decide) (by decide) (by rw [h00_0]; exact hk0) (hz 1 0 (by omega)) (fun _ _ _ => rfl) rfl (ty := .int) 0 (n := 400) (a0 := (400, .inl (fun _ => 0))) rfl uA_int (fun _ => rfl) rfl (by decide) (by rw [vp_cell_i]; rfl) ((kX_1 _ _ _ _).trans (by rw [hZ.row (by decide)])) (by decide) ⟨Nat.le_of_ble_eq_true rfl, Nat.le_of_ble_eq_true rfl⟩ 0 (by decide) (Or.inr ⟨by decide +kernel, hnm, by decide +kernel⟩) (by decide +kernel) uF_X9_9 dX9_init_8 dX9_init_10 (fun q1 H locs hq1 hW hS => ?_)
  generalize had1 : ad2 (ad1 ad0 1 0 q1) 0 0 0 q1 = a1 at hW
  have A1 : ∀ k i, ¬ (k = 1 ∧ i = 0) → a1.1 k i = ad0.1 k i := fun k i h => by rw [← had1]; exact ad1_n _ _ h
  have N1 : a1.1 1 0 = q1 := by rw [← had1]; exact ad1_s ad0 1 0 q1
  have B1 : ∀ k i, ¬ (k = 0 ∧ i = 0) → a1.2 k i = ad0.2 k i := fun k i h => by rw [← had1]; exact ad2_n _ _ h
  have F1 : a1.2 0 0 = va_up (ad0.2 0 0) 0 q1 := by rw [← had1]; exact ad2_s _ _ _ _ _
  have h00_1 : a1.1 0 0 = ad0.1 0 0 := (A1 0 0 (by omega)).trans h00_0
  refine lv_aload_n hx hb dX9_init_13 rfl (lv_at hl 0 rfl) ?_
  refine n_bipush (v := 8) hx hb dX9_init_14 (by decide) ?_
  refine n_sipush (v := 704) hx hb dX9_init_16 (by decide) ?_
  refine W.eq (g2 := F0 m 19 ls [.int 704, .int 8, .ref (ad0.1 0 0)]) (by rw [show nI 704 = (704 : Int32) by decide, show nI 8 = (8 : Int32) by decide]) ?_
  obtain ⟨cI, cB, kB, hcI, hidx, hkB, hkindB, hnmB⟩ := arrayOverA_spec hV
  obtain ⟨-, kI, hkI, compI, hkindI⟩ := (hK.1.2 0 _ rfl).1 704 (fun _ => .int 0)
  have hc4 : s.vm.findClass "[[I" = some (cA 4) := (hK.1.2 4 _ rfl).2
  have hc0 : s.vm.findClass "[I" = some (cA 0) := (hK.1.2 0 _ rfl).2
  have e4 : cB = cA 4 := Option.some.inj (hnmB.symm.trans hc4)
  have e0 : cI = cA 0 := Option.some.inj (hcI.symm.trans hc0)
  subst e4; subst e0
  refine W.multi hx hb hown (hu _ uL_X9_13) (cA := cA 4) (comp := cA 0) (comp2 := compI) (kA := kB) (kc := kI) hc4 hkB hkindB hkI hkindI rfl dX9_init_19 (rest := [.ref (ad0.1 0 0)]) rfl (Nat.le_of_ble_eq_true rfl) (Nat.le_of_ble_eq_true rfl) (fun H1 hm1 hm2 hm3 hm4 => ?_)
  have hsz : s.heap.size ≤ H.size := hS.1
  have hb1 := hB.1
  have hS : va_S (oA B0) s.heap H1 (locs ++ (List.range 8).map (fun j => (⟨H.size, j⟩ : Loc))) := ⟨by rw [hm1]; omega, fun x h1 h2 => (hm3 x (by omega)).trans (hS.2.1 x h1 h2), fun x hx => (List.mem_append.mp hx).elim (fun z => hS.2.2 x z) (fun z => by obtain ⟨j, -, rfl⟩ := List.mem_map.mp z; show B0 ≤ H.size; omega)⟩
  have hW := hW.mu (by rw [A1 2 0 (by omega)]; exact hz 2 0 (by omega)) (fun i hi => by rw [A1 3 i (by omega)]; exact hz 3 i (by omega)) (fun i _ => hZ.row (by decide) i) (by omega) (by omega) hm1 hm2 hm3 hm4
  have hqM : H.size ≠ 0 := by omega
  generalize hqq : H.size = qM at hW hqM hS
  have hm00 : (muA a1 qM).1 0 0 = ad0.1 0 0 := by rw [muA_n _ _ (by omega) (by omega)]; exact h00_1
  refine W.eq (g2 := F0 m 23 ls [.ref qM, .ref ((muA a1 qM).1 0 0)]) (by rw [hm00]) ?_
  refine x_putF hx hb hu in_X9 tyX9 tyX9_ok nmX9 hown hK hW hS (ad' := ad2 (muA a1 qM) 0 0 1 qM) (d' := d0) rfl (k := 0) (i := 0) (by rw [hm00]; exact hk0) rfl 1 (kX_0 _ _ _ _) (by rw [kX_0, ad2_s, xO_setR (by decide), rf_ne hqM]) (fun k1 i1 h1 => kC_adX (by decide) k1 i1 h1) (by decide) uF_X9_15 (Or.inr ⟨by decide +kernel, hnm, by decide +kernel⟩) (ty := .array (.array .int)) (by decide +kernel) rfl rfl (by rw [xO_len]; decide) dX9_init_23 (fun H locs hW hS => ?_)
  generalize had2 : ad2 (muA a1 qM) 0 0 1 qM = a2 at hW
  have A2 : ∀ k i, ¬ ((k = 2 ∧ i = 0) ∨ (k = 3 ∧ i < 8)) → a2.1 k i = a1.1 k i := fun k i h => by rw [← had2]; exact muA_n _ _ (by omega) (by omega)
  have N2 : a2.1 2 0 = qM := by rw [← had2]; exact muA_2 a1 qM
  have N2i : ∀ i, i < 8 → a2.1 3 i = qM + 1 + i := fun i hi => by rw [← had2]; exact muA_3 a1 qM hi
  have N2r : a2.2 2 0 = fun j => qM + 1 + j := by rw [← had2, ad2_n _ _ (by omega)]; exact muA_r a1 qM
  have B2 : ∀ k i, ¬ ((k = 0 ∧ i = 0) ∨ (k = 2 ∧ i = 0)) → a2.2 k i = a1.2 k i := fun k i h => by rw [← had2, ad2_n _ _ (by omega)]; exact muA_m _ _ (by omega)
  have F2 : a2.2 0 0 = va_up (a1.2 0 0) 1 qM := by rw [← had2, ad2_s, muA_m _ _ (by omega)]
  have h00_2 : a2.1 0 0 = ad0.1 0 0 := (A2 0 0 (by omega)).trans h00_1
  refine lv_aload_n hx hb dX9_init_26 rfl (lv_at hl 0 rfl) ?_
  refine x_new hx hb hu in_Jx4a65c tyJx4a65c tyJx4a65c_ok hown uL_X9_18 uO_Jx4a65c uI_Jx4a65c hK hW hS hB (k := 29) (i := 0) (by decide) (by rw [A2 29 0 (by omega), A1 29 0 (by omega)]; exact hz 29 0 (by omega)) (fun _ _ _ => rfl) rfl (fun j hj => match j, hj with | 0, _ => rfl | 1, _ => rfl | 2, _ => rfl | (j + 3), hj => absurd hj (by omega)) ⟨Nat.le_of_ble_eq_true rfl, Nat.le_of_ble_eq_true rfl⟩ dX9_init_27 (fun q3 H hq3 hW hS => ?_)
  generalize haN : ad1 (zA a2 29 0) 29 0 q3 = aN at hW
  generalize hdN : zD d0 29 0 = dN at hW
  have hZN : Zd dN := by rw [← hdN]; exact hZ.z 29 0
  have n1 : ∀ k i, ¬ (k = 29 ∧ i = 0) → aN.1 k i = a2.1 k i := fun k i h => by rw [← haN]; exact ad1_n _ _ h
  have nq : aN.1 29 0 = q3 := by rw [← haN]; exact ad1_s _ _ _ _
  have n2 : ∀ k i, ¬ (k = 29 ∧ i = 0) → aN.2 k i = a2.2 k i := fun k i h => by rw [← haN]; exact zA_n a2 h
  refine lv_dup hx hb dX9_init_30 rfl ?_
  refine W.eq (g2 := F0 m 31 ls [.ref (aN.1 29 0), .ref (aN.1 29 0), .ref (ad0.1 0 0)]) (by rw [nq]) ?_
  refine o_callvA (x_runI (As := []) (rest := [.ref (aN.1 29 0), .ref (ad0.1 0 0)]) ⟨hx, hb, hml, hown, hu⟩ (c_Jx4a65c_init_da8c8 l D cA B0 aN dN (by rw [nq]; exact hq3) 0 (hZN.1 29 0 2 (by omega) (by omega))) uC_Jx4a65c_init_da8c8 uN_Jx4a65c_init_da8c8 uI_Jx4a65c uM_X9_20 (n0 := 0) (by decide +kernel) rfl ⟨Nat.le_of_ble_eq_true rfl, Nat.le_of_ble_eq_true rfl⟩ hK hW hB hS hl.1 rfl (lv_room (Nat.le_of_ble_eq_true rfl)) ⟨Nat.le_of_ble_eq_true rfl, Nat.le_of_ble_eq_true rfl⟩ dX9_init_31) hS (fun u hp H locs hW hS => ?_)
  have hp : u = (mvK aN 0, zD (uI dN 29 0 0 (nI 0)) 4 0) := hp
  subst hp
  have hZ : Zd (zD (uI dN 29 0 0 (nI 0)) 4 0) := (hZN.u 29 0 0 (v := nI 0) (by decide)).z 4 0
  generalize hdQ : zD (uI dN 29 0 0 (nI 0)) 4 0 = e3 at hW hZ
  have hm00 : (mvK aN 0).1 0 0 = ad0.1 0 0 := by rw [mvK_n _ _ (by omega) (by omega), n1 0 0 (by omega)]; exact h00_2
  have hmq : (mvK aN 0).1 4 0 = q3 := by rw [mvK_1]; exact nq
  refine W.eq (g2 := F0 m 34 ls [.ref q3, .ref ((mvK aN 0).1 0 0)]) (by rw [hm00, nq]) ?_
  refine x_putF hx hb hu in_X9 tyX9 tyX9_ok nmX9 hown hK hW hS (ad' := ad2 (mvK aN 0) 0 0 2 q3) (d' := e3) rfl (k := 0) (i := 0) (by rw [hm00]; exact hk0) rfl 2 (kX_0 _ _ _ _) (by rw [kX_0, ad2_s, xO_setR (by decide), rf_ne hq3]) (fun k1 i1 h1 => kC_adX (by decide) k1 i1 h1) (by decide) uF_X9_21 (Or.inr ⟨by decide +kernel, hnm, by decide +kernel⟩) (ty := .object "java/util/ArrayList") (by decide +kernel) rfl rfl (by rw [xO_len]; decide) dX9_init_34 (fun H locs hW hS => ?_)
  generalize had3 : ad2 (mvK aN 0) 0 0 2 q3 = a3 at hW
  have A3 : ∀ k i, ¬ (k = 4 ∧ i = 0) → a3.1 k i = a2.1 k i := fun k i h => by
    rw [← had3]
    by_cases z : k = 29 ∧ i = 0
    · rw [z.1, z.2]; exact (mvK_0 aN 0).trans (by rw [A2 29 0 (by omega), A1 29 0 (by omega)]; exact hz 29 0 (by omega) : a2.1 29 0 = 0).symm
    · exact (mvK_n aN 0 z h).trans (n1 k i z)
  have N3 : a3.1 4 0 = q3 := by rw [← had3]; exact hmq
  have N3r : a3.2 4 0 = fun _ => 0 := by rw [← had3, ad2_n _ _ (by omega)]; exact mvK_z aN 0
  have B3 : ∀ k i, ¬ ((k = 0 ∧ i = 0) ∨ (k = 4 ∧ i = 0) ∨ (k = 29 ∧ i = 0)) → a3.2 k i = a2.2 k i := fun k i h => by rw [← had3, ad2_n _ _ (by omega), mvK_2 _ _ (by omega)]; exact n2 k i (by omega)
  have F3 : a3.2 0 0 = va_up (a2.2 0 0) 2 q3 := by rw [← had3, ad2_s, mvK_2 _ _ (by omega), n2 0 0 (by omega)]
  have h00_3 : a3.1 0 0 = ad0.1 0 0 := (A3 0 0 (by omega)).trans h00_2
  clear haN hdN n1 n2 nq hZN
  refine lv_aload_n hx hb dX9_init_37 rfl (lv_at hl 0 rfl) ?_
  refine x_new hx hb hu in_Jx4a65c tyJx4a65c tyJx4a65c_ok hown uL_X9_18 uO_Jx4a65c uI_Jx4a65c hK hW hS hB (k := 29) (i := 0) (by decide) (by rw [A3 29 0 (by omega), A2 29 0 (by omega), A1 29 0 (by omega)]; exact hz 29 0 (by omega)) (fun _ _ _ => rfl) rfl (fun j hj => match j, hj with | 0, _ => rfl | 1, _ => rfl | 2, _ => rfl | (j + 3), hj => absurd hj (by omega)) ⟨Nat.le_of_ble_eq_true rfl, Nat.le_of_ble_eq_true rfl⟩ dX9_init_38 (fun q4 H hq4 hW hS => ?_)
  generalize haN : ad1 (zA a3 29 0) 29 0 q4 = aN at hW
  generalize hdN : zD e3 29 0 = dN at hW
  have hZN : Zd dN := by rw [← hdN]; exact hZ.z 29 0
  have n1 : ∀ k i, ¬ (k = 29 ∧ i = 0) → aN.1 k i = a3.1 k i := fun k i h => by rw [← haN]; exact ad1_n _ _ h
  have nq : aN.1 29 0 = q4 := by rw [← haN]; exact ad1_s _ _ _ _
  have n2 : ∀ k i, ¬ (k = 29 ∧ i = 0) → aN.2 k i = a3.2 k i := fun k i h => by rw [← haN]; exact zA_n a3 h
  refine lv_dup hx hb dX9_init_41 rfl ?_
  refine W.eq (g2 := F0 m 42 ls [.ref (aN.1 29 0), .ref (aN.1 29 0), .ref (ad0.1 0 0)]) (by rw [nq]) ?_
  refine o_callvA (x_runI (As := []) (rest := [.ref (aN.1 29 0), .ref (ad0.1 0 0)]) ⟨hx, hb, hml, hown, hu⟩ (c_Jx4a65c_init_da8c8 l D cA B0 aN dN (by rw [nq]; exact hq4) 1 (hZN.1 29 0 2 (by omega) (by omega))) uC_Jx4a65c_init_da8c8 uN_Jx4a65c_init_da8c8 uI_Jx4a65c uM_X9_20 (n0 := 0) (by decide +kernel) rfl ⟨Nat.le_of_ble_eq_true rfl, Nat.le_of_ble_eq_true rfl⟩ hK hW hB hS hl.1 rfl (lv_room (Nat.le_of_ble_eq_true rfl)) ⟨Nat.le_of_ble_eq_true rfl, Nat.le_of_ble_eq_true rfl⟩ dX9_init_42) hS (fun u hp H locs hW hS => ?_)
  have hp : u = (mvK aN 1, zD (uI dN 29 0 0 (nI 0)) 4 1) := hp
  subst hp
  have hZ : Zd (zD (uI dN 29 0 0 (nI 0)) 4 1) := (hZN.u 29 0 0 (v := nI 0) (by decide)).z 4 1
  generalize hdQ : zD (uI dN 29 0 0 (nI 0)) 4 1 = e4 at hW hZ
  have hm00 : (mvK aN 1).1 0 0 = ad0.1 0 0 := by rw [mvK_n _ _ (by omega) (by omega), n1 0 0 (by omega)]; exact h00_3
  have hmq : (mvK aN 1).1 4 1 = q4 := by rw [mvK_1]; exact nq
  refine W.eq (g2 := F0 m 45 ls [.ref q4, .ref ((mvK aN 1).1 0 0)]) (by rw [hm00, nq]) ?_
  refine x_putF hx hb hu in_X9 tyX9 tyX9_ok nmX9 hown hK hW hS (ad' := ad2 (mvK aN 1) 0 0 3 q4) (d' := e4) rfl (k := 0) (i := 0) (by rw [hm00]; exact hk0) rfl 3 (kX_0 _ _ _ _) (by rw [kX_0, ad2_s, xO_setR (by decide), rf_ne hq4]) (fun k1 i1 h1 => kC_adX (by decide) k1 i1 h1) (by decide) uF_X9_25 (Or.inr ⟨by decide +kernel, hnm, by decide +kernel⟩) (ty := .object "java/util/ArrayList") (by decide +kernel) rfl rfl (by rw [xO_len]; decide) dX9_init_45 (fun H locs hW hS => ?_)
  generalize had4 : ad2 (mvK aN 1) 0 0 3 q4 = a4 at hW
  have A4 : ∀ k i, ¬ (k = 4 ∧ i = 1) → a4.1 k i = a3.1 k i := fun k i h => by
    rw [← had4]
    by_cases z : k = 29 ∧ i = 0
    · rw [z.1, z.2]; exact (mvK_0 aN 1).trans (by rw [A3 29 0 (by omega), A2 29 0 (by omega), A1 29 0 (by omega)]; exact hz 29 0 (by omega) : a3.1 29 0 = 0).symm
    · exact (mvK_n aN 1 z h).trans (n1 k i z)
  have N4 : a4.1 4 1 = q4 := by rw [← had4]; exact hmq
  have N4r : a4.2 4 1 = fun _ => 0 := by rw [← had4, ad2_n _ _ (by omega)]; exact mvK_z aN 1
  have B4 : ∀ k i, ¬ ((k = 0 ∧ i = 0) ∨ (k = 4 ∧ i = 1) ∨ (k = 29 ∧ i = 0)) → a4.2 k i = a3.2 k i := fun k i h => by rw [← had4, ad2_n _ _ (by omega), mvK_2 _ _ (by omega)]; exact n2 k i (by omega)
  have F4 : a4.2 0 0 = va_up (a3.2 0 0) 3 q4 := by rw [← had4, ad2_s, mvK_2 _ _ (by omega), n2 0 0 (by omega)]
  have h00_4 : a4.1 0 0 = ad0.1 0 0 := (A4 0 0 (by omega)).trans h00_3
  clear haN hdN n1 n2 nq hZN
  refine lv_aload_n hx hb dX9_init_48 rfl (lv_at hl 0 rfl) ?_
  refine x_new hx hb hu in_Jx4a65c tyJx4a65c tyJx4a65c_ok hown uL_X9_18 uO_Jx4a65c uI_Jx4a65c hK hW hS hB (k := 29) (i := 0) (by decide) (by rw [A4 29 0 (by omega), A3 29 0 (by omega), A2 29 0 (by omega), A1 29 0 (by omega)]; exact hz 29 0 (by omega)) (fun _ _ _ => rfl) rfl (fun j hj => match j, hj with | 0, _ => rfl | 1, _ => rfl | 2, _ => rfl | (j + 3), hj => absurd hj (by omega)) ⟨Nat.le_of_ble_eq_true rfl, Nat.le_of_ble_eq_true rfl⟩ dX9_init_49 (fun q5 H hq5 hW hS => ?_)
  generalize haN : ad1 (zA a4 29 0) 29 0 q5 = aN at hW
  generalize hdN : zD e4 29 0 = dN at hW
  have hZN : Zd dN := by rw [← hdN]; exact hZ.z 29 0
  have n1 : ∀ k i, ¬ (k = 29 ∧ i = 0) → aN.1 k i = a4.1 k i := fun k i h => by rw [← haN]; exact ad1_n _ _ h
  have nq : aN.1 29 0 = q5 := by rw [← haN]; exact ad1_s _ _ _ _
  have n2 : ∀ k i, ¬ (k = 29 ∧ i = 0) → aN.2 k i = a4.2 k i := fun k i h => by rw [← haN]; exact zA_n a4 h
  refine lv_dup hx hb dX9_init_52 rfl ?_
  refine W.eq (g2 := F0 m 53 ls [.ref (aN.1 29 0), .ref (aN.1 29 0), .ref (ad0.1 0 0)]) (by rw [nq]) ?_
  refine o_callvA (x_runI (As := []) (rest := [.ref (aN.1 29 0), .ref (ad0.1 0 0)]) ⟨hx, hb, hml, hown, hu⟩ (c_Jx4a65c_init_da8c8 l D cA B0 aN dN (by rw [nq]; exact hq5) 2 (hZN.1 29 0 2 (by omega) (by omega))) uC_Jx4a65c_init_da8c8 uN_Jx4a65c_init_da8c8 uI_Jx4a65c uM_X9_20 (n0 := 0) (by decide +kernel) rfl ⟨Nat.le_of_ble_eq_true rfl, Nat.le_of_ble_eq_true rfl⟩ hK hW hB hS hl.1 rfl (lv_room (Nat.le_of_ble_eq_true rfl)) ⟨Nat.le_of_ble_eq_true rfl, Nat.le_of_ble_eq_true rfl⟩ dX9_init_53) hS (fun u hp H locs hW hS => ?_)
  have hp : u = (mvK aN 2, zD (uI dN 29 0 0 (nI 0)) 4 2) := hp
  subst hp
  have hZ : Zd (zD (uI dN 29 0 0 (nI 0)) 4 2) := (hZN.u 29 0 0 (v := nI 0) (by decide)).z 4 2
  generalize hdQ : zD (uI dN 29 0 0 (nI 0)) 4 2 = e5 at hW hZ
  have hm00 : (mvK aN 2).1 0 0 = ad0.1 0 0 := by rw [mvK_n _ _ (by omega) (by omega), n1 0 0 (by omega)]; exact h00_4
  have hmq : (mvK aN 2).1 4 2 = q5 := by rw [mvK_1]; exact nq
  refine W.eq (g2 := F0 m 56 ls [.ref q5, .ref ((mvK aN 2).1 0 0)]) (by rw [hm00, nq]) ?_
  refine x_putF hx hb hu in_X9 tyX9 tyX9_ok nmX9 hown hK hW hS (ad' := ad2 (mvK aN 2) 0 0 4 q5) (d' := e5) rfl (k := 0) (i := 0) (by rw [hm00]; exact hk0) rfl 4 (kX_0 _ _ _ _) (by rw [kX_0, ad2_s, xO_setR (by decide), rf_ne hq5]) (fun k1 i1 h1 => kC_adX (by decide) k1 i1 h1) (by decide) uF_X9_28 (Or.inr ⟨by decide +kernel, hnm, by decide +kernel⟩) (ty := .object "java/util/ArrayList") (by decide +kernel) rfl rfl (by rw [xO_len]; decide) dX9_init_56 (fun H locs hW hS => ?_)
  generalize had5 : ad2 (mvK aN 2) 0 0 4 q5 = a5 at hW
  have A5 : ∀ k i, ¬ (k = 4 ∧ i = 2) → a5.1 k i = a4.1 k i := fun k i h => by
    rw [← had5]
    by_cases z : k = 29 ∧ i = 0
    · rw [z.1, z.2]; exact (mvK_0 aN 2).trans (by rw [A4 29 0 (by omega), A3 29 0 (by omega), A2 29 0 (by omega), A1 29 0 (by omega)]; exact hz 29 0 (by omega) : a4.1 29 0 = 0).symm
    · exact (mvK_n aN 2 z h).trans (n1 k i z)
  have N5 : a5.1 4 2 = q5 := by rw [← had5]; exact hmq
  have N5r : a5.2 4 2 = fun _ => 0 := by rw [← had5, ad2_n _ _ (by omega)]; exact mvK_z aN 2
  have B5 : ∀ k i, ¬ ((k = 0 ∧ i = 0) ∨ (k = 4 ∧ i = 2) ∨ (k = 29 ∧ i = 0)) → a5.2 k i = a4.2 k i := fun k i h => by rw [← had5, ad2_n _ _ (by omega), mvK_2 _ _ (by omega)]; exact n2 k i (by omega)
  have F5 : a5.2 0 0 = va_up (a4.2 0 0) 4 q5 := by rw [← had5, ad2_s, mvK_2 _ _ (by omega), n2 0 0 (by omega)]
  have h00_5 : a5.1 0 0 = ad0.1 0 0 := (A5 0 0 (by omega)).trans h00_4
  clear haN hdN n1 n2 nq hZN
  refine lv_aload_n hx hb dX9_init_59 rfl (lv_at hl 0 rfl) ?_
  refine x_new hx hb hu in_Jx4a65c tyJx4a65c tyJx4a65c_ok hown uL_X9_18 uO_Jx4a65c uI_Jx4a65c hK hW hS hB (k := 29) (i := 0) (by decide) (by rw [A5 29 0 (by omega), A4 29 0 (by omega), A3 29 0 (by omega), A2 29 0 (by omega), A1 29 0 (by omega)]; exact hz 29 0 (by omega)) (fun _ _ _ => rfl) rfl (fun j hj => match j, hj with | 0, _ => rfl | 1, _ => rfl | 2, _ => rfl | (j + 3), hj => absurd hj (by omega)) ⟨Nat.le_of_ble_eq_true rfl, Nat.le_of_ble_eq_true rfl⟩ dX9_init_60 (fun q6 H hq6 hW hS => ?_)
  generalize haN : ad1 (zA a5 29 0) 29 0 q6 = aN at hW
  generalize hdN : zD e5 29 0 = dN at hW
  have hZN : Zd dN := by rw [← hdN]; exact hZ.z 29 0
  have n1 : ∀ k i, ¬ (k = 29 ∧ i = 0) → aN.1 k i = a5.1 k i := fun k i h => by rw [← haN]; exact ad1_n _ _ h
  have nq : aN.1 29 0 = q6 := by rw [← haN]; exact ad1_s _ _ _ _
  have n2 : ∀ k i, ¬ (k = 29 ∧ i = 0) → aN.2 k i = a5.2 k i := fun k i h => by rw [← haN]; exact zA_n a5 h
  refine lv_dup hx hb dX9_init_63 rfl ?_
  refine W.eq (g2 := F0 m 64 ls [.ref (aN.1 29 0), .ref (aN.1 29 0), .ref (ad0.1 0 0)]) (by rw [nq]) ?_
  refine o_callvA (x_runI (As := []) (rest := [.ref (aN.1 29 0), .ref (ad0.1 0 0)]) ⟨hx, hb, hml, hown, hu⟩ (c_Jx4a65c_init_da8c8 l D cA B0 aN dN (by rw [nq]; exact hq6) 3 (hZN.1 29 0 2 (by omega) (by omega))) uC_Jx4a65c_init_da8c8 uN_Jx4a65c_init_da8c8 uI_Jx4a65c uM_X9_20 (n0 := 0) (by decide +kernel) rfl ⟨Nat.le_of_ble_eq_true rfl, Nat.le_of_ble_eq_true rfl⟩ hK hW hB hS hl.1 rfl (lv_room (Nat.le_of_ble_eq_true rfl)) ⟨Nat.le_of_ble_eq_true rfl, Nat.le_of_ble_eq_true rfl⟩ dX9_init_64) hS (fun u hp H locs hW hS => ?_)
  have hp : u = (mvK aN 3, zD (uI dN 29 0 0 (nI 0)) 4 3) := hp
  subst hp
  have hZ : Zd (zD (uI dN 29 0 0 (nI 0)) 4 3) := (hZN.u 29 0 0 (v := nI 0) (by decide)).z 4 3
  generalize hdQ : zD (uI dN 29 0 0 (nI 0)) 4 3 = e6 at hW hZ
  have hm00 : (mvK aN 3).1 0 0 = ad0.1 0 0 := by rw [mvK_n _ _ (by omega) (by omega), n1 0 0 (by omega)]; exact h00_5
  have hmq : (mvK aN 3).1 4 3 = q6 := by rw [mvK_1]; exact nq
  refine W.eq (g2 := F0 m 67 ls [.ref q6, .ref ((mvK aN 3).1 0 0)]) (by rw [hm00, nq]) ?_
  refine x_putF hx hb hu in_X9 tyX9 tyX9_ok nmX9 hown hK hW hS (ad' := ad2 (mvK aN 3) 0 0 5 q6) (d' := e6) rfl (k := 0) (i := 0) (by rw [hm00]; exact hk0) rfl 5 (kX_0 _ _ _ _) (by rw [kX_0, ad2_s, xO_setR (by decide), rf_ne hq6]) (fun k1 i1 h1 => kC_adX (by decide) k1 i1 h1) (by decide) uF_X9_31 (Or.inr ⟨by decide +kernel, hnm, by decide +kernel⟩) (ty := .object "java/util/ArrayList") (by decide +kernel) rfl rfl (by rw [xO_len]; decide) dX9_init_67 (fun H locs hW hS => ?_)
  generalize had6 : ad2 (mvK aN 3) 0 0 5 q6 = a6 at hW
  have A6 : ∀ k i, ¬ (k = 4 ∧ i = 3) → a6.1 k i = a5.1 k i := fun k i h => by
    rw [← had6]
    by_cases z : k = 29 ∧ i = 0
    · rw [z.1, z.2]; exact (mvK_0 aN 3).trans (by rw [A5 29 0 (by omega), A4 29 0 (by omega), A3 29 0 (by omega), A2 29 0 (by omega), A1 29 0 (by omega)]; exact hz 29 0 (by omega) : a5.1 29 0 = 0).symm
    · exact (mvK_n aN 3 z h).trans (n1 k i z)
  have N6 : a6.1 4 3 = q6 := by rw [← had6]; exact hmq
  have N6r : a6.2 4 3 = fun _ => 0 := by rw [← had6, ad2_n _ _ (by omega)]; exact mvK_z aN 3
  have B6 : ∀ k i, ¬ ((k = 0 ∧ i = 0) ∨ (k = 4 ∧ i = 3) ∨ (k = 29 ∧ i = 0)) → a6.2 k i = a5.2 k i := fun k i h => by rw [← had6, ad2_n _ _ (by omega), mvK_2 _ _ (by omega)]; exact n2 k i (by omega)
  have F6 : a6.2 0 0 = va_up (a5.2 0 0) 5 q6 := by rw [← had6, ad2_s, mvK_2 _ _ (by omega), n2 0 0 (by omega)]
  have h00_6 : a6.1 0 0 = ad0.1 0 0 := (A6 0 0 (by omega)).trans h00_5
  clear haN hdN n1 n2 nq hZN
  refine lv_aload_n hx hb dX9_init_70 rfl (lv_at hl 0 rfl) ?_
  refine x_new hx hb hu in_X3 tyX3 tyX3_ok hown uL_X9_34 uO_X3 uI_X3 hK hW hS hB (k := 11) (i := 0) (by decide) (by rw [A6 11 0 (by omega), A5 11 0 (by omega), A4 11 0 (by omega), A3 11 0 (by omega), A2 11 0 (by omega), A1 11 0 (by omega)]; exact hz 11 0 (by omega)) (fun _ _ _ => rfl) rfl (fun j hj => match j, hj with | 0, _ => rfl | 1, _ => rfl | (j + 2), hj => absurd hj (by omega)) ⟨Nat.le_of_ble_eq_true rfl, Nat.le_of_ble_eq_true rfl⟩ dX9_init_71 (fun q7 H hq7 hW hS => ?_)
  generalize haN : ad1 (zA a6 11 0) 11 0 q7 = aN at hW
  generalize hdN : zD e6 11 0 = dN at hW
  have hZN : Zd dN := by rw [← hdN]; exact hZ.z 11 0
  have n1 : ∀ k i, ¬ (k = 11 ∧ i = 0) → aN.1 k i = a6.1 k i := fun k i h => by rw [← haN]; exact ad1_n _ _ h
  have nq : aN.1 11 0 = q7 := by rw [← haN]; exact ad1_s _ _ _ _
  have n2 : ∀ k i, ¬ (k = 11 ∧ i = 0) → aN.2 k i = a6.2 k i := fun k i h => by rw [← haN]; exact zA_n a6 h
  refine lv_dup hx hb dX9_init_74 rfl ?_
  refine W.eq (g2 := F0 m 75 ls [.ref (aN.1 11 0), .ref (aN.1 11 0), .ref (ad0.1 0 0)]) (by rw [nq]) ?_
  refine o_callvA (x_runIN (As := []) (rest := [.ref (aN.1 11 0), .ref (ad0.1 0 0)]) ⟨hx, hb, hml, hown, hu⟩ (c_X3_init l D cA B0 aN dN (by rw [nq]; exact hq7) (fun f hf => by rw [n1 (12 + f) 0 (by omega), A6 (12 + f) 0 (by omega), A5 (12 + f) 0 (by omega), A4 (12 + f) 0 (by omega), A3 (12 + f) 0 (by omega), A2 (12 + f) 0 (by omega), A1 (12 + f) 0 (by omega)]; exact hz (12 + f) 0 (by omega)) hZN h0) uC_X3_init uN_X3_init uI_X3 uMN_X9_36 (n0 := 0) (by decide +kernel) rfl ⟨Nat.le_of_ble_eq_true rfl, Nat.le_of_ble_eq_true rfl⟩ hK hW hB hS hl.1 rfl (lv_room (Nat.le_of_ble_eq_true rfl)) ⟨Nat.le_of_ble_eq_true rfl, Nat.le_of_ble_eq_true rfl⟩ dX9_init_75) hS (fun u hp H locs hW hS => ?_)
  obtain ⟨aM, e7⟩ := u
  obtain ⟨hNw, hZ⟩ := hp
  have hNw : Nw 11 12 1 aN aM := hNw
  have hZ : Zd e7 := hZ
  have hm00 : aM.1 0 0 = ad0.1 0 0 := by rw [hNw.2.1 0 0 (by omega), n1 0 0 (by omega)]; exact h00_6
  have hmq : aM.1 11 0 = q7 := by rw [hNw.2.1 11 0 (by omega)]; exact nq
  refine W.eq (g2 := F0 m 78 ls [.ref q7, .ref (aM.1 0 0)]) (by rw [hm00, nq]) ?_
  refine x_putF hx hb hu in_X9 tyX9 tyX9_ok nmX9 hown hK hW hS (ad' := ad2 aM 0 0 6 q7) (d' := e7) rfl (k := 0) (i := 0) (by rw [hm00]; exact hk0) rfl 6 (kX_0 _ _ _ _) (by rw [kX_0, ad2_s, xO_setR (by decide), rf_ne hq7]) (fun k1 i1 h1 => kC_adX (by decide) k1 i1 h1) (by decide) uF_X9_37 (Or.inr ⟨by decide +kernel, hnm, by decide +kernel⟩) (ty := .object "RiverFeet$Numbers") (by decide +kernel) rfl rfl (by rw [xO_len]; decide) dX9_init_78 (fun H locs hW hS => ?_)
  generalize had7 : ad2 aM 0 0 6 q7 = a7 at hW
  have A7 : ∀ k i, ¬ (11 ≤ k ∧ k < 12 + 1 ∧ i = 0) → a7.1 k i = a6.1 k i := fun k i h => by rw [← had7]; exact (hNw.2.1 k i (by omega)).trans (n1 k i (by omega))
  have N7 : a7.1 11 0 = q7 := by rw [← had7]; exact hmq
  have N7r : ∀ f, f < 1 → a7.1 (12 + f) 0 ≠ 0 ∧ a7.2 11 0 f = a7.1 (12 + f) 0 := fun f hf => by
    have z := hNw.1 f hf
    rw [← had7]
    refine ⟨z.1, ?_⟩
    rw [ad2_n _ _ (by omega)]; exact z.2
  have B7 : ∀ k i, ¬ ((k = 0 ∧ i = 0) ∨ (k = 11 ∧ i = 0)) → a7.2 k i = a6.2 k i := fun k i h => by rw [← had7, ad2_n _ _ (by omega), hNw.2.2 k i (by omega)]; exact n2 k i (by omega)
  have F7 : a7.2 0 0 = va_up (a6.2 0 0) 6 q7 := by rw [← had7, ad2_s, hNw.2.2 0 0 (by omega), n2 0 0 (by omega)]
  have h00_7 : a7.1 0 0 = ad0.1 0 0 := (A7 0 0 (by omega)).trans h00_6
  clear haN hdN n1 n2 nq hZN hNw
  refine lv_aload_n hx hb dX9_init_81 rfl (lv_at hl 0 rfl) ?_
  refine x_new hx hb hu in_X6 tyX6 tyX6_ok hown uL_X9_41 uO_X6 uI_X6 hK hW hS hB (k := 13) (i := 0) (by decide) (by rw [A7 13 0 (by omega), A6 13 0 (by omega), A5 13 0 (by omega), A4 13 0 (by omega), A3 13 0 (by omega), A2 13 0 (by omega), A1 13 0 (by omega)]; exact hz 13 0 (by omega)) (fun _ _ _ => rfl) rfl (fun j hj => match j, hj with | 0, _ => rfl | 1, _ => rfl | 2, _ => rfl | (j + 3), hj => absurd hj (by omega)) ⟨Nat.le_of_ble_eq_true rfl, Nat.le_of_ble_eq_true rfl⟩ dX9_init_82 (fun q8 H hq8 hW hS => ?_)
  generalize haN : ad1 (zA a7 13 0) 13 0 q8 = aN at hW
  generalize hdN : zD e7 13 0 = dN at hW
  have hZN : Zd dN := by rw [← hdN]; exact hZ.z 13 0
  have n1 : ∀ k i, ¬ (k = 13 ∧ i = 0) → aN.1 k i = a7.1 k i := fun k i h => by rw [← haN]; exact ad1_n _ _ h
  have nq : aN.1 13 0 = q8 := by rw [← haN]; exact ad1_s _ _ _ _
  have n2 : ∀ k i, ¬ (k = 13 ∧ i = 0) → aN.2 k i = a7.2 k i := fun k i h => by rw [← haN]; exact zA_n a7 h
  refine lv_dup hx hb dX9_init_85 rfl ?_
  refine W.eq (g2 := F0 m 86 ls [.ref (aN.1 13 0), .ref (aN.1 13 0), .ref (ad0.1 0 0)]) (by rw [nq]) ?_
  refine o_callvA (x_runIN (As := []) (rest := [.ref (aN.1 13 0), .ref (ad0.1 0 0)]) ⟨hx, hb, hml, hown, hu⟩ (c_X6_init l D cA B0 aN dN (by rw [nq]; exact hq8) (fun f hf => by rw [n1 (14 + f) 0 (by omega), A7 (14 + f) 0 (by omega), A6 (14 + f) 0 (by omega), A5 (14 + f) 0 (by omega), A4 (14 + f) 0 (by omega), A3 (14 + f) 0 (by omega), A2 (14 + f) 0 (by omega), A1 (14 + f) 0 (by omega)]; exact hz (14 + f) 0 (by omega)) hZN h0) uC_X6_init uN_X6_init uI_X6 uMN_X9_43 (n0 := 0) (by decide +kernel) rfl ⟨Nat.le_of_ble_eq_true rfl, Nat.le_of_ble_eq_true rfl⟩ hK hW hB hS hl.1 rfl (lv_room (Nat.le_of_ble_eq_true rfl)) ⟨Nat.le_of_ble_eq_true rfl, Nat.le_of_ble_eq_true rfl⟩ dX9_init_86) hS (fun u hp H locs hW hS => ?_)
  obtain ⟨aM, e8⟩ := u
  obtain ⟨hNw, hZ⟩ := hp
  have hNw : Nw 13 14 2 aN aM := hNw
  have hZ : Zd e8 := hZ
  have hm00 : aM.1 0 0 = ad0.1 0 0 := by rw [hNw.2.1 0 0 (by omega), n1 0 0 (by omega)]; exact h00_7
  have hmq : aM.1 13 0 = q8 := by rw [hNw.2.1 13 0 (by omega)]; exact nq
  refine W.eq (g2 := F0 m 89 ls [.ref q8, .ref (aM.1 0 0)]) (by rw [hm00, nq]) ?_
  refine x_putF hx hb hu in_X9 tyX9 tyX9_ok nmX9 hown hK hW hS (ad' := ad2 aM 0 0 7 q8) (d' := e8) rfl (k := 0) (i := 0) (by rw [hm00]; exact hk0) rfl 7 (kX_0 _ _ _ _) (by rw [kX_0, ad2_s, xO_setR (by decide), rf_ne hq8]) (fun k1 i1 h1 => kC_adX (by decide) k1 i1 h1) (by decide) uF_X9_44 (Or.inr ⟨by decide +kernel, hnm, by decide +kernel⟩) (ty := .object "RiverFeet$Steps") (by decide +kernel) rfl rfl (by rw [xO_len]; decide) dX9_init_89 (fun H locs hW hS => ?_)
  generalize had8 : ad2 aM 0 0 7 q8 = a8 at hW
  have A8 : ∀ k i, ¬ (13 ≤ k ∧ k < 14 + 2 ∧ i = 0) → a8.1 k i = a7.1 k i := fun k i h => by rw [← had8]; exact (hNw.2.1 k i (by omega)).trans (n1 k i (by omega))
  have N8 : a8.1 13 0 = q8 := by rw [← had8]; exact hmq
  have N8r : ∀ f, f < 2 → a8.1 (14 + f) 0 ≠ 0 ∧ a8.2 13 0 f = a8.1 (14 + f) 0 := fun f hf => by
    have z := hNw.1 f hf
    rw [← had8]
    refine ⟨z.1, ?_⟩
    rw [ad2_n _ _ (by omega)]; exact z.2
  have B8 : ∀ k i, ¬ ((k = 0 ∧ i = 0) ∨ (k = 13 ∧ i = 0)) → a8.2 k i = a7.2 k i := fun k i h => by rw [← had8, ad2_n _ _ (by omega), hNw.2.2 k i (by omega)]; exact n2 k i (by omega)
  have F8 : a8.2 0 0 = va_up (a7.2 0 0) 7 q8 := by rw [← had8, ad2_s, hNw.2.2 0 0 (by omega), n2 0 0 (by omega)]
  have h00_8 : a8.1 0 0 = ad0.1 0 0 := (A8 0 0 (by omega)).trans h00_7
  clear haN hdN n1 n2 nq hZN hNw
  refine lv_aload_n hx hb dX9_init_92 rfl (lv_at hl 0 rfl) ?_
  refine x_new hx hb hu in_X0 tyX0 tyX0_ok hown uL_X9_48 uO_X0 uI_X0 hK hW hS hB (k := 16) (i := 0) (by decide) (by rw [A8 16 0 (by omega), A7 16 0 (by omega), A6 16 0 (by omega), A5 16 0 (by omega), A4 16 0 (by omega), A3 16 0 (by omega), A2 16 0 (by omega), A1 16 0 (by omega)]; exact hz 16 0 (by omega)) (fun _ _ _ => rfl) rfl (fun j hj => match j, hj with | 0, _ => rfl | 1, _ => rfl | 2, _ => rfl | 3, _ => rfl | 4, _ => rfl | 5, _ => rfl | 6, _ => rfl | (j + 7), hj => absurd hj (by omega)) ⟨Nat.le_of_ble_eq_true rfl, Nat.le_of_ble_eq_true rfl⟩ dX9_init_93 (fun q9 H hq9 hW hS => ?_)
  generalize haN : ad1 (zA a8 16 0) 16 0 q9 = aN at hW
  generalize hdN : zD e8 16 0 = dN at hW
  have hZN : Zd dN := by rw [← hdN]; exact hZ.z 16 0
  have n1 : ∀ k i, ¬ (k = 16 ∧ i = 0) → aN.1 k i = a8.1 k i := fun k i h => by rw [← haN]; exact ad1_n _ _ h
  have nq : aN.1 16 0 = q9 := by rw [← haN]; exact ad1_s _ _ _ _
  have n2 : ∀ k i, ¬ (k = 16 ∧ i = 0) → aN.2 k i = a8.2 k i := fun k i h => by rw [← haN]; exact zA_n a8 h
  refine lv_dup hx hb dX9_init_96 rfl ?_
  refine W.eq (g2 := F0 m 97 ls [.ref (aN.1 16 0), .ref (aN.1 16 0), .ref (ad0.1 0 0)]) (by rw [nq]) ?_
  refine o_callvA (x_runIN (As := []) (rest := [.ref (aN.1 16 0), .ref (ad0.1 0 0)]) ⟨hx, hb, hml, hown, hu⟩ (c_X0_init l D cA B0 aN dN (by rw [nq]; exact hq9) (fun f hf => by rw [n1 (17 + f) 0 (by omega), A8 (17 + f) 0 (by omega), A7 (17 + f) 0 (by omega), A6 (17 + f) 0 (by omega), A5 (17 + f) 0 (by omega), A4 (17 + f) 0 (by omega), A3 (17 + f) 0 (by omega), A2 (17 + f) 0 (by omega), A1 (17 + f) 0 (by omega)]; exact hz (17 + f) 0 (by omega)) hZN h0) uC_X0_init uN_X0_init uI_X0 uMN_X9_50 (n0 := 0) (by decide +kernel) rfl ⟨Nat.le_of_ble_eq_true rfl, Nat.le_of_ble_eq_true rfl⟩ hK hW hB hS hl.1 rfl (lv_room (Nat.le_of_ble_eq_true rfl)) ⟨Nat.le_of_ble_eq_true rfl, Nat.le_of_ble_eq_true rfl⟩ dX9_init_97) hS (fun u hp H locs hW hS => ?_)
  obtain ⟨aM, e9⟩ := u
  obtain ⟨hNw, hZ⟩ := hp
  have hNw : Nw 16 17 5 aN aM := hNw
  have hZ : Zd e9 := hZ
  have hm00 : aM.1 0 0 = ad0.1 0 0 := by rw [hNw.2.1 0 0 (by omega), n1 0 0 (by omega)]; exact h00_8
  have hmq : aM.1 16 0 = q9 := by rw [hNw.2.1 16 0 (by omega)]; exact nq
  refine W.eq (g2 := F0 m 100 ls [.ref q9, .ref (aM.1 0 0)]) (by rw [hm00, nq]) ?_
  refine x_putF hx hb hu in_X9 tyX9 tyX9_ok nmX9 hown hK hW hS (ad' := ad2 aM 0 0 8 q9) (d' := e9) rfl (k := 0) (i := 0) (by rw [hm00]; exact hk0) rfl 8 (kX_0 _ _ _ _) (by rw [kX_0, ad2_s, xO_setR (by decide), rf_ne hq9]) (fun k1 i1 h1 => kC_adX (by decide) k1 i1 h1) (by decide) uF_X9_51 (Or.inr ⟨by decide +kernel, hnm, by decide +kernel⟩) (ty := .object "RiverFeet$Ahead") (by decide +kernel) rfl rfl (by rw [xO_len]; decide) dX9_init_100 (fun H locs hW hS => ?_)
  generalize had9 : ad2 aM 0 0 8 q9 = a9 at hW
  have A9 : ∀ k i, ¬ (16 ≤ k ∧ k < 17 + 5 ∧ i = 0) → a9.1 k i = a8.1 k i := fun k i h => by rw [← had9]; exact (hNw.2.1 k i (by omega)).trans (n1 k i (by omega))
  have N9 : a9.1 16 0 = q9 := by rw [← had9]; exact hmq
  have N9r : ∀ f, f < 5 → a9.1 (17 + f) 0 ≠ 0 ∧ a9.2 16 0 f = a9.1 (17 + f) 0 := fun f hf => by
    have z := hNw.1 f hf
    rw [← had9]
    refine ⟨z.1, ?_⟩
    rw [ad2_n _ _ (by omega)]; exact z.2
  have B9 : ∀ k i, ¬ ((k = 0 ∧ i = 0) ∨ (k = 16 ∧ i = 0)) → a9.2 k i = a8.2 k i := fun k i h => by rw [← had9, ad2_n _ _ (by omega), hNw.2.2 k i (by omega)]; exact n2 k i (by omega)
  have F9 : a9.2 0 0 = va_up (a8.2 0 0) 8 q9 := by rw [← had9, ad2_s, hNw.2.2 0 0 (by omega), n2 0 0 (by omega)]
  have h00_9 : a9.1 0 0 = ad0.1 0 0 := (A9 0 0 (by omega)).trans h00_8
  clear haN hdN n1 n2 nq hZN hNw
  refine lv_aload_n hx hb dX9_init_103 rfl (lv_at hl 0 rfl) ?_
  refine x_new hx hb hu in_X8 tyX8 tyX8_ok hown uL_X9_55 uO_X8 uI_X8 hK hW hS hB (k := 22) (i := 0) (by decide) (by rw [A9 22 0 (by omega), A8 22 0 (by omega), A7 22 0 (by omega), A6 22 0 (by omega), A5 22 0 (by omega), A4 22 0 (by omega), A3 22 0 (by omega), A2 22 0 (by omega), A1 22 0 (by omega)]; exact hz 22 0 (by omega)) (fun _ _ _ => rfl) rfl (fun j hj => match j, hj with | 0, _ => rfl | 1, _ => rfl | 2, _ => rfl | (j + 3), hj => absurd hj (by omega)) ⟨Nat.le_of_ble_eq_true rfl, Nat.le_of_ble_eq_true rfl⟩ dX9_init_104 (fun q10 H hq10 hW hS => ?_)
  generalize haN : ad1 (zA a9 22 0) 22 0 q10 = aN at hW
  generalize hdN : zD e9 22 0 = dN at hW
  have hZN : Zd dN := by rw [← hdN]; exact hZ.z 22 0
  have n1 : ∀ k i, ¬ (k = 22 ∧ i = 0) → aN.1 k i = a9.1 k i := fun k i h => by rw [← haN]; exact ad1_n _ _ h
  have nq : aN.1 22 0 = q10 := by rw [← haN]; exact ad1_s _ _ _ _
  have n2 : ∀ k i, ¬ (k = 22 ∧ i = 0) → aN.2 k i = a9.2 k i := fun k i h => by rw [← haN]; exact zA_n a9 h
  refine lv_dup hx hb dX9_init_107 rfl ?_
  refine W.eq (g2 := F0 m 108 ls [.ref (aN.1 22 0), .ref (aN.1 22 0), .ref (ad0.1 0 0)]) (by rw [nq]) ?_
  refine o_callvA (x_runIN (As := []) (rest := [.ref (aN.1 22 0), .ref (ad0.1 0 0)]) ⟨hx, hb, hml, hown, hu⟩ (c_X8_init l D cA B0 aN dN (by rw [nq]; exact hq10) (fun f hf => by rw [n1 (23 + f) 0 (by omega), A9 (23 + f) 0 (by omega), A8 (23 + f) 0 (by omega), A7 (23 + f) 0 (by omega), A6 (23 + f) 0 (by omega), A5 (23 + f) 0 (by omega), A4 (23 + f) 0 (by omega), A3 (23 + f) 0 (by omega), A2 (23 + f) 0 (by omega), A1 (23 + f) 0 (by omega)]; exact hz (23 + f) 0 (by omega)) hZN h0) uC_X8_init uN_X8_init uI_X8 uMN_X9_57 (n0 := 0) (by decide +kernel) rfl ⟨Nat.le_of_ble_eq_true rfl, Nat.le_of_ble_eq_true rfl⟩ hK hW hB hS hl.1 rfl (lv_room (Nat.le_of_ble_eq_true rfl)) ⟨Nat.le_of_ble_eq_true rfl, Nat.le_of_ble_eq_true rfl⟩ dX9_init_108) hS (fun u hp H locs hW hS => ?_)
  obtain ⟨aM, e10⟩ := u
  obtain ⟨hNw, hZ⟩ := hp
  have hNw : Nw 22 23 2 aN aM := hNw
  have hZ : Zd e10 := hZ
  have hm00 : aM.1 0 0 = ad0.1 0 0 := by rw [hNw.2.1 0 0 (by omega), n1 0 0 (by omega)]; exact h00_9
  have hmq : aM.1 22 0 = q10 := by rw [hNw.2.1 22 0 (by omega)]; exact nq
  refine W.eq (g2 := F0 m 111 ls [.ref q10, .ref (aM.1 0 0)]) (by rw [hm00, nq]) ?_
  refine x_putF hx hb hu in_X9 tyX9 tyX9_ok nmX9 hown hK hW hS (ad' := ad2 aM 0 0 9 q10) (d' := e10) rfl (k := 0) (i := 0) (by rw [hm00]; exact hk0) rfl 9 (kX_0 _ _ _ _) (by rw [kX_0, ad2_s, xO_setR (by decide), rf_ne hq10]) (fun k1 i1 h1 => kC_adX (by decide) k1 i1 h1) (by decide) uF_X9_58 (Or.inr ⟨by decide +kernel, hnm, by decide +kernel⟩) (ty := .object "RiverFeet$Watch") (by decide +kernel) rfl rfl (by rw [xO_len]; decide) dX9_init_111 (fun H locs hW hS => ?_)
  generalize had10 : ad2 aM 0 0 9 q10 = a10 at hW
  have A10 : ∀ k i, ¬ (22 ≤ k ∧ k < 23 + 2 ∧ i = 0) → a10.1 k i = a9.1 k i := fun k i h => by rw [← had10]; exact (hNw.2.1 k i (by omega)).trans (n1 k i (by omega))
  have N10 : a10.1 22 0 = q10 := by rw [← had10]; exact hmq
  have N10r : ∀ f, f < 2 → a10.1 (23 + f) 0 ≠ 0 ∧ a10.2 22 0 f = a10.1 (23 + f) 0 := fun f hf => by
    have z := hNw.1 f hf
    rw [← had10]
    refine ⟨z.1, ?_⟩
    rw [ad2_n _ _ (by omega)]; exact z.2
  have B10 : ∀ k i, ¬ ((k = 0 ∧ i = 0) ∨ (k = 22 ∧ i = 0)) → a10.2 k i = a9.2 k i := fun k i h => by rw [← had10, ad2_n _ _ (by omega), hNw.2.2 k i (by omega)]; exact n2 k i (by omega)
  have F10 : a10.2 0 0 = va_up (a9.2 0 0) 9 q10 := by rw [← had10, ad2_s, hNw.2.2 0 0 (by omega), n2 0 0 (by omega)]
  have h00_10 : a10.1 0 0 = ad0.1 0 0 := (A10 0 0 (by omega)).trans h00_9
  clear haN hdN n1 n2 nq hZN hNw
  refine lv_aload_n hx hb dX9_init_114 rfl (lv_at hl 0 rfl) ?_
  refine n_iconst (v := 4) hx hb dX9_init_115 (by decide) ?_
  refine W.eq (g2 := F0 m 116 ls [.int (nI 4), .ref (a10.1 0 0)]) (by rw [h00_10]) ?_
  refine x_mk hx hb hu in_X9 tyX9 tyX9_ok nmX9 hown hK hW hS hB.1 h0 (ko := 0) (ka := 25) (by decide) (by decide) (by decide) (by rw [h00_10]; exact hk0) (by rw [A10 25 0 (by omega), A9 25 0 (by omega), A8 25 0 (by omega), A7 25 0 (by omega), A6 25 0 (by omega), A5 25 0 (by omega), A4 25 0 (by omega), A3 25 0 (by omega), A2 25 0 (by omega), A1 25 0 (by omega)]; exact hz 25 0 (by omega)) (fun _ _ _ => rfl) rfl (ty := .int) 0 (n := 4) (a0 := (4, .inl (fun _ => 0))) rfl uA_int (fun _ => rfl) rfl (by decide) (by rw [vp_cell_i]; rfl) ((kX_25 _ _ _ _).trans (by rw [hZ.row (by decide)])) (by decide) ⟨Nat.le_of_ble_eq_true rfl, Nat.le_of_ble_eq_true rfl⟩ 10 (by decide) (Or.inr ⟨by decide +kernel, hnm, by decide +kernel⟩) (by decide +kernel) uF_X9_62 dX9_init_116 dX9_init_118 (fun q11 H locs hq11 hW hS => ?_)
  generalize had11 : ad2 (ad1 a10 25 0 q11) 0 0 10 q11 = a11 at hW
  have A11 : ∀ k i, ¬ (k = 25 ∧ i = 0) → a11.1 k i = a10.1 k i := fun k i h => by rw [← had11]; exact ad1_n _ _ h
  have N11 : a11.1 25 0 = q11 := by rw [← had11]; exact ad1_s a10 25 0 q11
  have B11 : ∀ k i, ¬ (k = 0 ∧ i = 0) → a11.2 k i = a10.2 k i := fun k i h => by rw [← had11]; exact ad2_n _ _ h
  have F11 : a11.2 0 0 = va_up (a10.2 0 0) 10 q11 := by rw [← had11]; exact ad2_s _ _ _ _ _
  have h00_11 : a11.1 0 0 = ad0.1 0 0 := (A11 0 0 (by omega)).trans h00_10
  refine lv_aload_n hx hb dX9_init_121 rfl (lv_at hl 0 rfl) ?_
  refine n_bipush (v := 8) hx hb dX9_init_122 (by decide) ?_
  refine W.eq (g2 := F0 m 124 ls [.int (nI 8), .ref (a11.1 0 0)]) (by rw [h00_11]) ?_
  refine x_mk hx hb hu in_X9 tyX9 tyX9_ok nmX9 hown hK hW hS hB.1 h0 (ko := 0) (ka := 26) (by decide) (by decide) (by decide) (by rw [h00_11]; exact hk0) (by rw [A11 26 0 (by omega), A10 26 0 (by omega), A9 26 0 (by omega), A8 26 0 (by omega), A7 26 0 (by omega), A6 26 0 (by omega), A5 26 0 (by omega), A4 26 0 (by omega), A3 26 0 (by omega), A2 26 0 (by omega), A1 26 0 (by omega)]; exact hz 26 0 (by omega)) (fun _ _ _ => rfl) rfl (ty := .int) 0 (n := 8) (a0 := (8, .inl (fun _ => 0))) rfl uA_int (fun _ => rfl) rfl (by decide) (by rw [vp_cell_i]; rfl) ((kX_26 _ _ _ _).trans (by rw [hZ.row (by decide)])) (by decide) ⟨Nat.le_of_ble_eq_true rfl, Nat.le_of_ble_eq_true rfl⟩ 11 (by decide) (Or.inr ⟨by decide +kernel, hnm, by decide +kernel⟩) (by decide +kernel) uF_X9_65 dX9_init_124 dX9_init_126 (fun q12 H locs hq12 hW hS => ?_)
  generalize had12 : ad2 (ad1 a11 26 0 q12) 0 0 11 q12 = a12 at hW
  have A12 : ∀ k i, ¬ (k = 26 ∧ i = 0) → a12.1 k i = a11.1 k i := fun k i h => by rw [← had12]; exact ad1_n _ _ h
  have N12 : a12.1 26 0 = q12 := by rw [← had12]; exact ad1_s a11 26 0 q12
  have B12 : ∀ k i, ¬ (k = 0 ∧ i = 0) → a12.2 k i = a11.2 k i := fun k i h => by rw [← had12]; exact ad2_n _ _ h
  have F12 : a12.2 0 0 = va_up (a11.2 0 0) 11 q12 := by rw [← had12]; exact ad2_s _ _ _ _ _
  have h00_12 : a12.1 0 0 = ad0.1 0 0 := (A12 0 0 (by omega)).trans h00_11
  refine lv_aload_n hx hb dX9_init_129 rfl (lv_at hl 0 rfl) ?_
  refine n_bipush (v := 8) hx hb dX9_init_130 (by decide) ?_
  refine W.eq (g2 := F0 m 132 ls [.int (nI 8), .ref (a12.1 0 0)]) (by rw [h00_12]) ?_
  refine x_mk hx hb hu in_X9 tyX9 tyX9_ok nmX9 hown hK hW hS hB.1 h0 (ko := 0) (ka := 27) (by decide) (by decide) (by decide) (by rw [h00_12]; exact hk0) (by rw [A12 27 0 (by omega), A11 27 0 (by omega), A10 27 0 (by omega), A9 27 0 (by omega), A8 27 0 (by omega), A7 27 0 (by omega), A6 27 0 (by omega), A5 27 0 (by omega), A4 27 0 (by omega), A3 27 0 (by omega), A2 27 0 (by omega), A1 27 0 (by omega)]; exact hz 27 0 (by omega)) (fun _ _ _ => rfl) rfl (ty := .int) 0 (n := 8) (a0 := (8, .inl (fun _ => 0))) rfl uA_int (fun _ => rfl) rfl (by decide) (by rw [vp_cell_i]; rfl) ((kX_27 _ _ _ _).trans (by rw [hZ.row (by decide)])) (by decide) ⟨Nat.le_of_ble_eq_true rfl, Nat.le_of_ble_eq_true rfl⟩ 12 (by decide) (Or.inr ⟨by decide +kernel, hnm, by decide +kernel⟩) (by decide +kernel) uF_X9_68 dX9_init_132 dX9_init_134 (fun q13 H locs hq13 hW hS => ?_)
  generalize had13 : ad2 (ad1 a12 27 0 q13) 0 0 12 q13 = a13 at hW
  have A13 : ∀ k i, ¬ (k = 27 ∧ i = 0) → a13.1 k i = a12.1 k i := fun k i h => by rw [← had13]; exact ad1_n _ _ h
  have N13 : a13.1 27 0 = q13 := by rw [← had13]; exact ad1_s a12 27 0 q13
  have B13 : ∀ k i, ¬ (k = 0 ∧ i = 0) → a13.2 k i = a12.2 k i := fun k i h => by rw [← had13]; exact ad2_n _ _ h
  have F13 : a13.2 0 0 = va_up (a12.2 0 0) 12 q13 := by rw [← had13]; exact ad2_s _ _ _ _ _
  have h00_13 : a13.1 0 0 = ad0.1 0 0 := (A13 0 0 (by omega)).trans h00_12
  refine lv_aload_n hx hb dX9_init_137 rfl (lv_at hl 0 rfl) ?_
  refine n_iconst (v := 0) hx hb dX9_init_138 (by decide) ?_
  refine W.eq (g2 := F0 m 139 ls [.int (nI 0), .ref (a13.1 0 0)]) (by rw [h00_13]) ?_
  refine x_pi hx hb hu in_X9 tyX9 tyX9_ok nmX9 hown hK hW hS (k := 0) (i := 0) (by rw [h00_13]; exact hk0) (kI_0 _ _ _ _) rfl 13 (ty := .int) (by decide +kernel) uF_X9_71 ⟨rfl, rfl⟩ dX9_init_139 (fun H locs hW hS => ?_)
  have hZ := hZ.u 0 0 13 (v := nI 0) (by decide)
  refine lv_aload_n hx hb dX9_init_142 rfl (lv_at hl 0 rfl) ?_
  refine n_iconst (v := 0) hx hb dX9_init_143 (by decide) ?_
  refine W.eq (g2 := F0 m 144 ls [.int (nI 0), .ref (a13.1 0 0)]) (by rw [h00_13]) ?_
  refine x_pi hx hb hu in_X9 tyX9 tyX9_ok nmX9 hown hK hW hS (k := 0) (i := 0) (by rw [h00_13]; exact hk0) (kI_0 _ _ _ _) rfl 14 (ty := .int) (by decide +kernel) uF_X9_75 ⟨rfl, rfl⟩ dX9_init_144 (fun H locs hW hS => ?_)
  have hZ := hZ.u 0 0 14 (v := nI 0) (by decide)
  refine lv_aload_n hx hb dX9_init_147 rfl (lv_at hl 0 rfl) ?_
  refine n_sipush (v := 399) hx hb dX9_init_148 (by decide) ?_
  refine W.eq (g2 := F0 m 151 ls [.int (nI 399), .ref (a13.1 0 0)]) (by rw [h00_13]) ?_
  refine x_pi hx hb hu in_X9 tyX9 tyX9_ok nmX9 hown hK hW hS (k := 0) (i := 0) (by rw [h00_13]; exact hk0) (kI_0 _ _ _ _) rfl 15 (ty := .int) (by decide +kernel) uF_X9_78 ⟨rfl, rfl⟩ dX9_init_151 (fun H locs hW hS => ?_)
  have hAl : xAl cA a13 s00 := by
    refine ⟨fun k hk => ?_, fun f hf => ?_, fun j hj => ?_, fun i hi => ?_, fun j hj => ?_, fun p hp => absurd hp (Nat.not_lt_zero _), fun p hp => absurd hp (Nat.not_lt_zero _), fun p hp => absurd hp (Nat.not_lt_zero _), ⟨?_, ?_, ?_⟩, fun f hf => ?_, fun f hf => ?_, fun j hj q _ => ?_, fun t _ => ?_, ?_⟩
    · match k, hk with
      | 0, _ => show a13.1 0 0 ≠ 0; rw [h00_13]; exact hk0
      | 1, _ => exact (by rw [A13 1 0 (by omega), A12 1 0 (by omega), A11 1 0 (by omega), A10 1 0 (by omega), A9 1 0 (by omega), A8 1 0 (by omega), A7 1 0 (by omega), A6 1 0 (by omega), A5 1 0 (by omega), A4 1 0 (by omega), A3 1 0 (by omega), A2 1 0 (by omega), N1]; exact hq1)
      | 2, _ => exact (by rw [A13 2 0 (by omega), A12 2 0 (by omega), A11 2 0 (by omega), A10 2 0 (by omega), A9 2 0 (by omega), A8 2 0 (by omega), A7 2 0 (by omega), A6 2 0 (by omega), A5 2 0 (by omega), A4 2 0 (by omega), A3 2 0 (by omega), N2]; exact hqM)
      | 3, hk => exact absurd hk (by decide)
      | 4, hk => exact absurd hk (by decide)
      | 5, hk => exact absurd hk (by decide)
      | 6, hk => exact absurd hk (by decide)
      | 7, hk => exact absurd hk (by decide)
      | 8, hk => exact absurd hk (by decide)
      | 9, hk => exact absurd hk (by decide)
      | 10, hk => exact absurd hk (by decide)
      | 11, _ => exact (by rw [A13 11 0 (by omega), A12 11 0 (by omega), A11 11 0 (by omega), A10 11 0 (by omega), A9 11 0 (by omega), A8 11 0 (by omega), N7]; exact hq7)
      | 12, _ => exact (by rw [A13 12 0 (by omega), A12 12 0 (by omega), A11 12 0 (by omega), A10 12 0 (by omega), A9 12 0 (by omega), A8 12 0 (by omega)]; exact (N7r 0 (by decide)).1)
      | 13, _ => exact (by rw [A13 13 0 (by omega), A12 13 0 (by omega), A11 13 0 (by omega), A10 13 0 (by omega), A9 13 0 (by omega), N8]; exact hq8)
      | 14, _ => exact (by rw [A13 14 0 (by omega), A12 14 0 (by omega), A11 14 0 (by omega), A10 14 0 (by omega), A9 14 0 (by omega)]; exact (N8r 0 (by decide)).1)
      | 15, _ => exact (by rw [A13 15 0 (by omega), A12 15 0 (by omega), A11 15 0 (by omega), A10 15 0 (by omega), A9 15 0 (by omega)]; exact (N8r 1 (by decide)).1)
      | 16, _ => exact (by rw [A13 16 0 (by omega), A12 16 0 (by omega), A11 16 0 (by omega), A10 16 0 (by omega), N9]; exact hq9)
      | 17, _ => exact (by rw [A13 17 0 (by omega), A12 17 0 (by omega), A11 17 0 (by omega), A10 17 0 (by omega)]; exact (N9r 0 (by decide)).1)
      | 18, _ => exact (by rw [A13 18 0 (by omega), A12 18 0 (by omega), A11 18 0 (by omega), A10 18 0 (by omega)]; exact (N9r 1 (by decide)).1)
      | 19, _ => exact (by rw [A13 19 0 (by omega), A12 19 0 (by omega), A11 19 0 (by omega), A10 19 0 (by omega)]; exact (N9r 2 (by decide)).1)
      | 20, _ => exact (by rw [A13 20 0 (by omega), A12 20 0 (by omega), A11 20 0 (by omega), A10 20 0 (by omega)]; exact (N9r 3 (by decide)).1)
      | 21, _ => exact (by rw [A13 21 0 (by omega), A12 21 0 (by omega), A11 21 0 (by omega), A10 21 0 (by omega)]; exact (N9r 4 (by decide)).1)
      | 22, _ => exact (by rw [A13 22 0 (by omega), A12 22 0 (by omega), A11 22 0 (by omega), N10]; exact hq10)
      | 23, _ => exact (by rw [A13 23 0 (by omega), A12 23 0 (by omega), A11 23 0 (by omega)]; exact (N10r 0 (by decide)).1)
      | 24, _ => exact (by rw [A13 24 0 (by omega), A12 24 0 (by omega), A11 24 0 (by omega)]; exact (N10r 1 (by decide)).1)
      | 25, _ => exact (by rw [A13 25 0 (by omega), A12 25 0 (by omega), N11]; exact hq11)
      | 26, _ => exact (by rw [A13 26 0 (by omega), N12]; exact hq12)
      | 27, _ => exact (by rw [N13]; exact hq13)
      | k + 28, hk => exact absurd hk (by rw [xSg_hi (by omega)]; decide)
    · match f, hf with
      | 0, _ =>
        show a13.2 0 0 0 = a13.1 1 0
        rw [A13 1 0 (by omega), A12 1 0 (by omega), A11 1 0 (by omega), A10 1 0 (by omega), A9 1 0 (by omega), A8 1 0 (by omega), A7 1 0 (by omega), A6 1 0 (by omega), A5 1 0 (by omega), A4 1 0 (by omega), A3 1 0 (by omega), A2 1 0 (by omega), N1, F13, F12, F11, F10, F9, F8, F7, F6, F5, F4, F3, F2, F1]; rfl
      | 1, _ =>
        show a13.2 0 0 1 = a13.1 2 0
        rw [A13 2 0 (by omega), A12 2 0 (by omega), A11 2 0 (by omega), A10 2 0 (by omega), A9 2 0 (by omega), A8 2 0 (by omega), A7 2 0 (by omega), A6 2 0 (by omega), A5 2 0 (by omega), A4 2 0 (by omega), A3 2 0 (by omega), N2, F13, F12, F11, F10, F9, F8, F7, F6, F5, F4, F3, F2, F1]; rfl
      | 2, _ =>
        show a13.2 0 0 2 = a13.1 4 0
        rw [A13 4 0 (by omega), A12 4 0 (by omega), A11 4 0 (by omega), A10 4 0 (by omega), A9 4 0 (by omega), A8 4 0 (by omega), A7 4 0 (by omega), A6 4 0 (by omega), A5 4 0 (by omega), A4 4 0 (by omega), N3, F13, F12, F11, F10, F9, F8, F7, F6, F5, F4, F3, F2, F1]; rfl
      | 3, _ =>
        show a13.2 0 0 3 = a13.1 4 1
        rw [A13 4 1 (by omega), A12 4 1 (by omega), A11 4 1 (by omega), A10 4 1 (by omega), A9 4 1 (by omega), A8 4 1 (by omega), A7 4 1 (by omega), A6 4 1 (by omega), A5 4 1 (by omega), N4, F13, F12, F11, F10, F9, F8, F7, F6, F5, F4, F3, F2, F1]; rfl
      | 4, _ =>
        show a13.2 0 0 4 = a13.1 4 2
        rw [A13 4 2 (by omega), A12 4 2 (by omega), A11 4 2 (by omega), A10 4 2 (by omega), A9 4 2 (by omega), A8 4 2 (by omega), A7 4 2 (by omega), A6 4 2 (by omega), N5, F13, F12, F11, F10, F9, F8, F7, F6, F5, F4, F3, F2, F1]; rfl
      | 5, _ =>
        show a13.2 0 0 5 = a13.1 4 3
        rw [A13 4 3 (by omega), A12 4 3 (by omega), A11 4 3 (by omega), A10 4 3 (by omega), A9 4 3 (by omega), A8 4 3 (by omega), A7 4 3 (by omega), N6, F13, F12, F11, F10, F9, F8, F7, F6, F5, F4, F3, F2, F1]; rfl
      | 6, _ =>
        show a13.2 0 0 6 = a13.1 11 0
        rw [A13 11 0 (by omega), A12 11 0 (by omega), A11 11 0 (by omega), A10 11 0 (by omega), A9 11 0 (by omega), A8 11 0 (by omega), N7, F13, F12, F11, F10, F9, F8, F7, F6, F5, F4, F3, F2, F1]; rfl
      | 7, _ =>
        show a13.2 0 0 7 = a13.1 13 0
        rw [A13 13 0 (by omega), A12 13 0 (by omega), A11 13 0 (by omega), A10 13 0 (by omega), A9 13 0 (by omega), N8, F13, F12, F11, F10, F9, F8, F7, F6, F5, F4, F3, F2, F1]; rfl
      | 8, _ =>
        show a13.2 0 0 8 = a13.1 16 0
        rw [A13 16 0 (by omega), A12 16 0 (by omega), A11 16 0 (by omega), A10 16 0 (by omega), N9, F13, F12, F11, F10, F9, F8, F7, F6, F5, F4, F3, F2, F1]; rfl
      | 9, _ =>
        show a13.2 0 0 9 = a13.1 22 0
        rw [A13 22 0 (by omega), A12 22 0 (by omega), A11 22 0 (by omega), N10, F13, F12, F11, F10, F9, F8, F7, F6, F5, F4, F3, F2, F1]; rfl
      | 10, _ =>
        show a13.2 0 0 10 = a13.1 25 0
        rw [A13 25 0 (by omega), A12 25 0 (by omega), N11, F13, F12, F11, F10, F9, F8, F7, F6, F5, F4, F3, F2, F1]; rfl
      | 11, _ =>
        show a13.2 0 0 11 = a13.1 26 0
        rw [A13 26 0 (by omega), N12, F13, F12, F11, F10, F9, F8, F7, F6, F5, F4, F3, F2, F1]; rfl
      | 12, _ =>
        show a13.2 0 0 12 = a13.1 27 0
        rw [N13, F13, F12, F11, F10, F9, F8, F7, F6, F5, F4, F3, F2, F1]; rfl
      | f + 13, hf => exact absurd hf (by omega)
    · match j, hj with
      | 0, _ => exact (by rw [A13 4 0 (by omega), A12 4 0 (by omega), A11 4 0 (by omega), A10 4 0 (by omega), A9 4 0 (by omega), A8 4 0 (by omega), A7 4 0 (by omega), A6 4 0 (by omega), A5 4 0 (by omega), A4 4 0 (by omega), N3]; exact hq3)
      | 1, _ => exact (by rw [A13 4 1 (by omega), A12 4 1 (by omega), A11 4 1 (by omega), A10 4 1 (by omega), A9 4 1 (by omega), A8 4 1 (by omega), A7 4 1 (by omega), A6 4 1 (by omega), A5 4 1 (by omega), N4]; exact hq4)
      | 2, _ => exact (by rw [A13 4 2 (by omega), A12 4 2 (by omega), A11 4 2 (by omega), A10 4 2 (by omega), A9 4 2 (by omega), A8 4 2 (by omega), A7 4 2 (by omega), A6 4 2 (by omega), N5]; exact hq5)
      | 3, _ => exact (by rw [A13 4 3 (by omega), A12 4 3 (by omega), A11 4 3 (by omega), A10 4 3 (by omega), A9 4 3 (by omega), A8 4 3 (by omega), A7 4 3 (by omega), N6]; exact hq6)
      | j + 4, hj => exact absurd hj (by omega)
    · have e1 : a13.1 3 i = qM + 1 + i := by rw [A13 3 i (by omega), A12 3 i (by omega), A11 3 i (by omega), A10 3 i (by omega), A9 3 i (by omega), A8 3 i (by omega), A7 3 i (by omega), A6 3 i (by omega), A5 3 i (by omega), A4 3 i (by omega), A3 3 i (by omega)]; exact N2i i hi
      have e2 : a13.2 2 0 i = qM + 1 + i := by rw [B13 2 0 (by omega), B12 2 0 (by omega), B11 2 0 (by omega), B10 2 0 (by omega), B9 2 0 (by omega), B8 2 0 (by omega), B7 2 0 (by omega), B6 2 0 (by omega), B5 2 0 (by omega), B4 2 0 (by omega), B3 2 0 (by omega), N2r]
      exact ⟨by rw [e1]; omega, by rw [e1, e2]⟩
    · match j, hj with
      | 0, _ => exact ⟨Or.inl ⟨rfl, by rw [B13 4 0 (by omega), B12 4 0 (by omega), B11 4 0 (by omega), B10 4 0 (by omega), B9 4 0 (by omega), B8 4 0 (by omega), B7 4 0 (by omega), B6 4 0 (by omega), B5 4 0 (by omega), B4 4 0 (by omega), N3r]⟩, fun q hq => absurd hq (Nat.not_lt_zero _)⟩
      | 1, _ => exact ⟨Or.inl ⟨rfl, by rw [B13 4 1 (by omega), B12 4 1 (by omega), B11 4 1 (by omega), B10 4 1 (by omega), B9 4 1 (by omega), B8 4 1 (by omega), B7 4 1 (by omega), B6 4 1 (by omega), B5 4 1 (by omega), N4r]⟩, fun q hq => absurd hq (Nat.not_lt_zero _)⟩
      | 2, _ => exact ⟨Or.inl ⟨rfl, by rw [B13 4 2 (by omega), B12 4 2 (by omega), B11 4 2 (by omega), B10 4 2 (by omega), B9 4 2 (by omega), B8 4 2 (by omega), B7 4 2 (by omega), B6 4 2 (by omega), N5r]⟩, fun q hq => absurd hq (Nat.not_lt_zero _)⟩
      | 3, _ => exact ⟨Or.inl ⟨rfl, by rw [B13 4 3 (by omega), B12 4 3 (by omega), B11 4 3 (by omega), B10 4 3 (by omega), B9 4 3 (by omega), B8 4 3 (by omega), B7 4 3 (by omega), N6r]⟩, fun q hq => absurd hq (Nat.not_lt_zero _)⟩
      | j + 4, hj => exact absurd hj (by omega)
    · rw [B13 11 0 (by omega), B12 11 0 (by omega), B11 11 0 (by omega), B10 11 0 (by omega), B9 11 0 (by omega), B8 11 0 (by omega), A13 12 0 (by omega), A12 12 0 (by omega), A11 12 0 (by omega), A10 12 0 (by omega), A9 12 0 (by omega), A8 12 0 (by omega)]; exact (N7r 0 (by decide)).2
    · rw [B13 13 0 (by omega), B12 13 0 (by omega), B11 13 0 (by omega), B10 13 0 (by omega), B9 13 0 (by omega), A13 14 0 (by omega), A12 14 0 (by omega), A11 14 0 (by omega), A10 14 0 (by omega), A9 14 0 (by omega)]; exact (N8r 0 (by decide)).2
    · rw [B13 13 0 (by omega), B12 13 0 (by omega), B11 13 0 (by omega), B10 13 0 (by omega), B9 13 0 (by omega), A13 15 0 (by omega), A12 15 0 (by omega), A11 15 0 (by omega), A10 15 0 (by omega), A9 15 0 (by omega)]; exact (N8r 1 (by decide)).2
    · rw [B13 16 0 (by omega), B12 16 0 (by omega), B11 16 0 (by omega), B10 16 0 (by omega), A13 (17 + f) 0 (by omega), A12 (17 + f) 0 (by omega), A11 (17 + f) 0 (by omega), A10 (17 + f) 0 (by omega)]; exact (N9r f (by omega)).2
    · rw [B13 22 0 (by omega), B12 22 0 (by omega), B11 22 0 (by omega), A13 (23 + f) 0 (by omega), A12 (23 + f) 0 (by omega), A11 (23 + f) 0 (by omega)]; exact (N10r f (by omega)).2
    · match j, hj with
      | 0, _ => show a13.1 6 q = 0; rw [A13 6 q (by omega), A12 6 q (by omega), A11 6 q (by omega), A10 6 q (by omega), A9 6 q (by omega), A8 6 q (by omega), A7 6 q (by omega), A6 6 q (by omega), A5 6 q (by omega), A4 6 q (by omega), A3 6 q (by omega), A2 6 q (by omega), A1 6 q (by omega)]; exact hz 6 q (by omega)
      | 1, _ => show a13.1 8 q = 0; rw [A13 8 q (by omega), A12 8 q (by omega), A11 8 q (by omega), A10 8 q (by omega), A9 8 q (by omega), A8 8 q (by omega), A7 8 q (by omega), A6 8 q (by omega), A5 8 q (by omega), A4 8 q (by omega), A3 8 q (by omega), A2 8 q (by omega), A1 8 q (by omega)]; exact hz 8 q (by omega)
      | 2, _ => show a13.1 9 q = 0; rw [A13 9 q (by omega), A12 9 q (by omega), A11 9 q (by omega), A10 9 q (by omega), A9 9 q (by omega), A8 9 q (by omega), A7 9 q (by omega), A6 9 q (by omega), A5 9 q (by omega), A4 9 q (by omega), A3 9 q (by omega), A2 9 q (by omega), A1 9 q (by omega)]; exact hz 9 q (by omega)
      | 3, _ => show a13.1 10 q = 0; rw [A13 10 q (by omega), A12 10 q (by omega), A11 10 q (by omega), A10 10 q (by omega), A9 10 q (by omega), A8 10 q (by omega), A7 10 q (by omega), A6 10 q (by omega), A5 10 q (by omega), A4 10 q (by omega), A3 10 q (by omega), A2 10 q (by omega), A1 10 q (by omega)]; exact hz 10 q (by omega)
      | j + 4, hj => exact absurd hj (by omega)
    · rw [A13 7 t (by omega), A12 7 t (by omega), A11 7 t (by omega), A10 7 t (by omega), A9 7 t (by omega), A8 7 t (by omega), A7 7 t (by omega), A6 7 t (by omega), A5 7 t (by omega), A4 7 t (by omega), A3 7 t (by omega), A2 7 t (by omega), A1 7 t (by omega)]; exact hz 7 t (by omega)
    · rw [A13 28 0 (by omega), A12 28 0 (by omega), A11 28 0 (by omega), A10 28 0 (by omega), A9 28 0 (by omega), A8 28 0 (by omega), A7 28 0 (by omega), A6 28 0 (by omega), A5 28 0 (by omega), A4 28 0 (by omega), A3 28 0 (by omega), A2 28 0 (by omega), A1 28 0 (by omega)]; exact hz 28 0 (by omega)
  generalize hdE : (uI (uI (uI e10 0 0 13 (nI 0)) 0 0 14 (nI 0)) 0 0 15 (nI 399)) = dE at hW
  have hZE : Zd dE := by rw [← hdE]; exact hZ.u 0 0 15 (v := nI 399) (Or.inr (Or.inr ⟨rfl, rfl⟩))
  have h15 : dE.1 0 0 15 = nI 399 := by rw [← hdE]; exact uI_s _ _ _ _ _
  have hz0 : ∀ k i f, ¬ (k = 16 ∧ f = 6) → ¬ (k = 0 ∧ f = 15) → dE.1 k i f = nI 0 := fun k i f h1 h2 => (hZE.1 k i f h1 h2).trans (by decide)
  have hDd : xD s00 dE := ⟨⟨hz0 0 0 13 (by omega) (by omega), fun _ => hz0 0 0 14 (by omega) (by omega), h15⟩, fun i hi => by rw [s00_n (by omega)]; exact hz0 1 0 i (by omega) (by omega), fun j hj => ?_, fun p hp => absurd hp (Nat.not_lt_zero _), fun p hp => absurd hp (Nat.not_lt_zero _), fun p hp => absurd hp (Nat.not_lt_zero _), fun p hp => absurd hp (Nat.not_lt_zero _), fun p hp => absurd hp (Nat.not_lt_zero _), fun p _ _ => s00_n (by omega), hZE.2.1 21 0 0⟩
  rotate_left
  · match j, hj with
    | 0, _ => exact hz0 4 0 2 (by omega) (by omega)
    | 1, _ => exact hz0 4 1 2 (by omega) (by omega)
    | 2, _ => exact hz0 4 2 2 (by omega) (by omega)
    | 3, _ => exact hz0 4 3 2 (by omega) (by omega)
    | j + 4, hj => exact absurd hj (by omega)
  have hInv : InvX cA a13 s00 dE := ⟨⟨hAl, hDd, s00_g⟩, fun p hp => absurd hp (Nat.not_lt_zero _), fun p hp => absurd hp (Nat.not_lt_zero _), fun p _ _ m _ => hZE.1 3 p m (by omega) (by omega)⟩
  have hRow : RowX s00 sr dE := ⟨⟨hz0 11 0 1 (by omega) (by omega), fun i hi => absurd hi (Nat.not_lt_zero _)⟩, hz0 13 0 2 (by omega) (by omega), fun i _ => ⟨by rw [s00_n (by omega)]; exact hz0 14 0 i (by omega) (by omega), by rw [s00_n (by omega)]; exact hz0 15 0 i (by omega) (by omega)⟩⟩
  have hHi : ∀ k i, 30 ≤ k → a13.1 k i = 0 := fun k i hk => by rw [A13 k i (by omega), A12 k i (by omega), A11 k i (by omega), A10 k i (by omega), A9 k i (by omega), A8 k i (by omega), A7 k i (by omega), A6 k i (by omega), A5 k i (by omega), A4 k i (by omega), A3 k i (by omega), A2 k i (by omega), A1 k i (by omega)]; exact hz k i (by omega)
  have h00 : a13.1 0 0 = ad0.1 0 0 := by rw [A13 0 0 (by omega), A12 0 0 (by omega), A11 0 0 (by omega), A10 0 0 (by omega), A9 0 0 (by omega), A8 0 0 (by omega), A7 0 0 (by omega), A6 0 0 (by omega), A5 0 0 (by omega), A4 0 0 (by omega), A3 0 0 (by omega), A2 0 0 (by omega), A1 0 0 (by omega)]
  refine W.widen (k := 31) (n := 7576) (by decide) (by decide) ?_
  exact W.vret hx hb hr (fun t ht _ => ⟨⟨(a13, dE), rfl, ⟨hInv, hRow, hHi, hZE, h00⟩, by show oW D cA B0 a13 dE t.heap; rw [ht]; exact hW⟩, hS.F ht⟩) hS.2.2 dX9_init_154
