noncomputable section
/-- a contract of a method that reads the script, too -/
def FMS (l : Launch) (D : va_G) (ca : Nat → Nat) (y : MethodName) (w0 : Cond) (rm : Room) (av : List Value) (h : fH) (b L : Nat) (xs : Nat → Int32) (post : Option Value → fH → Prop) (px : String → fH → Prop) : Prop :=
  l.stackTraces = false → ∀ sz : Nat, vx_Met l y (w0 :: GW) rm (va_Pc av (fun U => fPre D ca h sz U ∧ va_X b L xs U U.heap ∧ b < U.heap.size ∧ ¬ fA h sz b)) (fQ D (fA h sz) post) (fX D (fA h sz) px) rm.cells rm.slots (fA h sz)
theorem FMS.of {l : Launch} {D : va_G} {ca : Nat → Nat} {y : MethodName} {cc : ByteArray} {n : Nat} {ret : Option FieldType} {rm : Room} {av : List Value} {h : fH} {b L : Nat} {xs : Nat → Int32} {post : Option Value → fH → Prop} {px : String → fH → Prop} (lv0 : LV) (hy : plainName y.cls = true) (hn : (lg_sl av).length ≤ n) (hlv : lvA 0 lv0 = lv_args 0 av)
    (body : ∀ K : KT, JX K y.name y.cls cc n ret [] (Cond.code y cc n ret) rm h post px → kl K = l → kD K = D → kca K = ca → va_X b L xs (ks K) (ks K).heap → b < (ks K).heap.size → ¬ kA K b → J K h lv0 [] 0 0 0) : FMS l D ca y (.code y cc n ret) rm av h b L xs post px := by
  intro hl sz
  refine vx_ofW (cc := cc) (maxL := n) (ret := ret) hy rfl ?_
  intro p e s m args below meth c s₁ B hml htab hv
  obtain ⟨rfl, ⟨hsz, hP, hW, hE⟩, hXs, hbl, hbA⟩ := hv
  subst hsz
  have htb : c.exceptionTable.toList = [] := List.eq_nil_iff_forall_not_mem.mpr htab
  have key := body (p, l, e, rm, s, m, av.toArray, below, meth, c, D, ca, fA h s.heap.size, vx_MQ below (fQ D (fA h s.heap.size) post) (fX D (fA h s.heap.size) px) av.toArray s rm.cells rm.slots (fA h s.heap.size))
    ⟨B.exec, B.bytes, hml, findClass_of_methodNamed B.named, atoms_spec (ws := Cond.code y cc n ret :: GW) B.pre, hW, fun q hq => Or.inr hq, hE, B.returns, B.notSynchronized, rfl, hl, (name_of_methodNamed B.named B.method).1, htb, rfl, rfl⟩ rfl rfl rfl hXs hbl hbA
  rw [lg_entry_eq]
  exact key s.heap [] _ hP (fun q hq => Or.inl hq) va_S.rf (by show lv_has _ c.maxLocals _; rw [hml, hlv]; exact lv_entry av hn)
theorem fPreS_blind {D : va_G} {ca : Nat → Nat} {h : fH} {sz b L : Nat} {xs : Nat → Int32} {av : List Value} : FrameBlind (va_Pc av (fun U => fPre D ca h sz U ∧ va_X b L xs U U.heap ∧ b < U.heap.size ∧ ¬ fA h sz b)) := fun a U g mk q => by
  obtain ⟨q0, ⟨q1, q2, q3, q4⟩, q5, q6, q7⟩ := q
  exact ⟨q0, ⟨q1, q2, fW.same (u := U) (U := U.calling g mk a) rfl q3, fE.moved (u := U) (U := U.calling g mk a) (Vm.Alike.refl U.vm) q4⟩, va_X.moved (u := U) (U := U.calling g mk a) (Vm.Alike.refl U.vm) q5, q6, q7⟩
theorem J_callSX {K : KT} {mn own : String} {cc : ByteArray} {n : Nat} {ret : Option FieldType} {tb : List ExceptionTableEntry} {w0 : Cond} {rm : Room} {h0 : fH} {post : Option Value → fH → Prop} {px : String → fH → Prop} (X : JX K mn own cc n ret tb w0 rm h0 post px) {h : fH} {lv : LV} {st rest : List Value} {pc cells slots : Nat} {y : MethodName} {bytes : ByteArray} {maxL : Nat} {rt : Option FieldType} {rmy : Room} {postc : Option Value → fH → Prop} {pxc : String → fH → Prop} {ix b L : Nat} {xs : Nat → Int32} {As : List Value} (hM : FMS (kl K) (kD K) (kca K) y (.code y bytes maxL rt) rmy As h b L xs postc pxc) (hXs : va_X b L xs (ks K) (ks K).heap) (hbl : b < (ks K).heap.size) (hbA : ¬ kA K b) (cw : CWS own ix y bytes maxL rt As.length) (hR : (Nat.ble (rmy.frames + 1) rm.frames && Nat.ble (8 + (maxL + 11) + rmy.locals) rm.locals) = true) (hroom : (Nat.ble (cells + rmy.cells) rm.cells && Nat.ble (slots + rmy.slots) rm.slots) = true) (hcat : (rest.map fun v => v.category).sum ≤ 8)
    (d : decode cc pc = .ok (.invokestatic ix, 3)) (hst : st = As.reverse ++ rest) (k : ∀ (v : Option Value) (h' : fH), postc v h' → J K h' lv (v.toList ++ rest) (pc + 3) (cells + rmy.cells) (slots + rmy.slots)) (kx : ∀ (E : String) (h' : fH), pxc E h' → JE K h' lv rest pc (cells + rmy.cells) (slots + rmy.slots) E) : J K h lv st pc cells slots := by
  refine J_call X (mc := rmy.cells) (ms := rmy.slots) (postc := postc) (pxc := pxc) (fun H locs ls hP hD hS hl => ⟨_, vx_runS (bytes := bytes) (maxL := maxL) (ret := rt) (As := As) (rest := rest) (n := As.length) ⟨X.1, X.2.1, X.2.2.1, X.2.2.2.1, X.2.2.2.2.1⟩ (hM X.2.2.2.2.2.2.2.2.2.2.2.1 H.size) ⟨?_, J.w X cw.2.1⟩ ⟨fPreS_blind, fun U hU hW => ⟨rfl, J.pre X hP hD hS U hU hW, by rw [hU]; exact (hXs.kept (hS.2.1 b hbl hbA)).moved hW.alike, by rw [hU]; exact Nat.lt_of_lt_of_le hbl hS.1, fun z => hbA (J.sub' X hD hS b z)⟩⟩ rfl rfl (by rw [← X.2.2.1]; exact hl.1) hst (lv_room hcat) d ?_⟩) k kx
  · rw [X.2.2.2.2.2.2.2.2.2.2.1]
    refine callB_of (Ts := w0 :: GW) As.length X.2.2.2.2.1 (gw_in fun w hw => ?_) rfl rfl rfl (J.w X cw.2.2.1) (J.w X cw.1) ⟨cw.2.2.2.2.1.1, cw.2.2.2.2.1.2, cw.2.2.2.2.2⟩ (J.hR2 hR)
    rcases List.mem_cons.mp hw with rfl | hw
    · exact cw.2.2.2.1
    · exact hw
  · rw [X.2.2.2.2.2.2.2.2.2.2.1]
    exact J.hR2 hroom
theorem and_pos (x : Int32) : ∃ a : Nat, a < 2147483648 ∧ x &&& 2147483647 = nI a := by
  refine ⟨x.toBitVec.toNat % 2147483648, Nat.mod_lt _ (by decide), ?_⟩
  apply Int32.toBitVec_inj.mp
  apply BitVec.eq_of_toNat_eq
  have h1 : (x &&& 2147483647).toBitVec = x.toBitVec &&& 2147483647#32 := rfl
  have h2 : (nI (x.toBitVec.toNat % 2147483648)).toBitVec = BitVec.ofNat 32 (x.toBitVec.toNat % 2147483648) := rfl
  rw [h1, h2, BitVec.toNat_and, show (2147483647#32).toNat = 2 ^ 31 - 1 from rfl, Nat.and_two_pow_sub_one_eq_mod, BitVec.toNat_ofNat]
  omega
theorem part_in (x : Int32) {c : Nat} (h0 : 0 < c) (hc : c < 2147483648) : vp_in ((x &&& 2147483647) - (x &&& 2147483647) / nI c * nI c) c := by
  obtain ⟨a, ha, e⟩ := and_pos x
  rw [e, pk_rem ha h0 hc]
  exact vp_in_nI (Nat.mod_lt _ h0) hc
theorem cw_L_part : Cond.static yL_part ∈ GW ∧ Cond.initialized yL_part.cls ∈ GW ∧ Cond.code yL_part cL_part 4 (some .int) ∈ GW ∧ (yL_part.cls ≠ "java/lang/invoke/MethodHandle" ∧ yL_part.cls ≠ "java/lang/invoke/VarHandle") ∧ (parseMethodDescriptor yL_part.desc).map (fun d => d.parameters.length) = some 3 := ⟨gw_2_174, gw_1_0, gw_2_175, ⟨by decide, by decide⟩, by decide +kernel⟩
theorem c_part {l : Launch} {D : va_G} {ca : Nat → Nat} {h : fH} {b L : Nat} {xs : Nat → Int32} (hL : L ≤ 260) {k : Int32} (hk : vp_in k 1000) {n : Nat} (h0 : 0 < n) (hn : n < 1000000) : FMS l D ca yL_part (.code yL_part cL_part 4 (some .int)) { frames := 1, cells := 0, slots := 0, locals := 20 } [.ref b, .int k, .int (nI n)] h b L xs (fun v h' => (∃ x, v = some (.int x) ∧ vp_in x n) ∧ h' = h) noX := by
  refine FMS.of [some (.ref b), some (.int k), some (.int (nI n)), none] (by decide) (Nat.le_of_ble_eq_true rfl) rfl ?_
  rintro K X rfl rfl rfl hXs hbl hbA
  have nz : ¬ nI n = 0 := fun z => absurd ((nI_eq (a := n) (b := 0) (by omega) (by decide)).mp z) (by omega)
  have KE : ∀ x : Int32, J K h [some (.ref b), some (.int k), some (.int (nI n)), none] [.int x] 25 0 0 := by
    intro x
    refine J_istore_3 X dL_part_25 rfl (by decide) ?_
    refine J_iload_3 X dL_part_26 ?_
    refine J_ldc (v := (2147483647 : Int32)) X dL_part_27 gw_2_176 ?_
    refine J_iand X dL_part_29 ?_
    refine J_iload_2 X dL_part_30 ?_
    refine J_irem X dL_part_31 nz ?_
    exact J_iret X rfl rfl ⟨⟨_, rfl, part_in x h0 (by omega)⟩, rfl⟩ dL_part_32
  refine J_iload_1 X dL_part_0 ?_
  refine J_aload_0 X dL_part_1 ?_
  refine J_slen X hXs hbl hbA dL_part_2 ?_
  refine J_icmp_ge (tgt := 12) X dL_part_3 (by decide) (fun c => ?_) (fun c => ?_)
  · refine J_sipush (v := (1069 : Int32)) X dL_part_12 (by decide) ?_
    refine J_iload_1 X dL_part_15 ?_
    refine J_imul X dL_part_16 ?_
    refine J_sipush (v := (967 : Int32)) X dL_part_17 (by decide) ?_
    refine J_iload_1 X dL_part_20 ?_
    refine J_imul X dL_part_21 ?_
    refine J_iload_1 X dL_part_22 ?_
    refine J_imul X dL_part_23 ?_
    refine J_iadd X dL_part_24 ?_
    exact KE _
  · refine J_aload_0 X dL_part_6 ?_
    refine J_iload_1 X dL_part_7 ?_
    refine J_sld X hXs hbl hbA (lt_up (N := L) hk (by decide) (by omega) rfl c) rfl dL_part_8 ?_
    refine J_goto (tgt := 25) X dL_part_9 (by decide) ?_
    exact KE _
end
