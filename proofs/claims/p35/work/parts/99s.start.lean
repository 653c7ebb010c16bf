noncomputable section
/-! THE CLAIM OUT OF ONE WALK OF THE LAW'S BODY. Your part is whole_start (and what it stands on); all else here is the same for every law, but numbers. -/
def R_law : String := "NightValleyLaw"
def lw_P (b : Addr) (xs : List Int32) (args : Array Value) (s : State) : Prop := args = #[.ref b] ∧ s.IntsAt b xs ∧ xs.length ≤ 260 ∧ (Jvm.Cond.and given_1 narrow_1).before args s = true
def lw_Q (_ : Array Value) (s : State) (o : Outcome) (t : State) : Prop := o = .returned (some (.int 1)) ∧ Framed s o t [] 600086 7301442
def lw_Z (below : List Frame) (a : Array Value) (s : State) : State → Prop := fun t => ∃ o, t.status = .running ∧ Ended t below o ∧ lw_Q a s o t
/-- the law's own end, with 1 on the stack, nothing written that was there before, its room as the claim has it -/
theorem lw_ret {p : Program} {l : Launch} {e : Env} {s : State} {m : MethodId} {below : List Frame} {meth : Method} {c : Code} {b : Nat} (hx : p.tables.exec = Jvm.exec) (hb : c.code = code) (hr : meth.sig.returnType = ret) (hlocks : meth.locks = false) {pc : Nat} {H : Heap} {ls : Array Slot} (hdg : decode code pc = .ok (.ireturn, 1)) : W p l e room_1 s m #[Value.ref b] below meth c H [] 600086 7301442 (lw_Z below #[Value.ref b] s) (F0 m pc ls [.int 1]) := by
  intro T hT X
  obtain ⟨fs, hret, hrun, hended, hW, hframe⟩ := X.leave (v := some (.int 1)) (hlocks := hlocks) (fun h => by rw [hr] at h; cases h)
  have hmeth' : T.vm.method? m = some meth := X.method'
  refine ⟨T.setFrames fs, ?_, .returned (some (.int 1)), hrun, hended, rfl, ⟨_, rfl⟩, hW, hframe⟩
  jvm_step X.here [X.here.top, hx, hb, hdg, hmeth', hr, ret, narrow_b1]
  (try refine ⟨rfl, ?_⟩); (try refine ⟨rfl, ?_⟩)
  first | (intro acts; rw [hret _ acts rfl rfl rfl]) | rw [hret _ _ rfl rfl rfl]
  exact Steps.refl _
/-- what holds at the law's entry: the machine, the code, the tables' words (any of lw_tbl by 'hts w (by decide +kernel)'), the script of L ints xs at the cell b, what the Statement gives of the start (any of its parts by flat_of_before) -/
def lw_At (p : Program) (s : State) (m : MethodId) (meth : Method) (c : Code) (b L : Nat) (xs : Nat → Int32) : Prop :=
  p.tables.exec = Jvm.exec ∧ c.code = code ∧ meth.sig.returnType = ret ∧ c.maxLocals = 15 ∧ s.vm.findClass R_law = some m.cls ∧ (∀ w ∈ lw_tbl, w.before #[Value.ref b] s = true) ∧ va_X b L xs s s.heap ∧ b < s.heap.size ∧ meth.locks = false ∧ (Jvm.Cond.and given_1 narrow_1).before #[Value.ref b] s = true
theorem whole_start {p : Program} {e : Env} {s : State} {m : MethodId} {below : List Frame} {meth : Method} {c : Code} (l : Launch) (hflags : l.flags = flags0) {b L : Nat} {xs : Nat → Int32} (hL : L ≤ 260) (C0 : lw_At p s m meth c b L xs) : W p l e room_1 s m #[Value.ref b] below meth c s.heap [] 0 0 (lw_Z below #[Value.ref b] s) (entryFrame m ([Value.ref b] : List Value).toArray 15) := by
  obtain ⟨hx, hb, hr, hml, hown, hts, hX, hbl, hlocks, hgv⟩ := C0
  have hGW : ∀ w ∈ GW, w.before #[Value.ref b] s = true := fun w hw => hts w (List.mem_filter.mp hw).1
  have hg := flat_of_before _ hgv
  have hst : l.stackTraces = false := by
    unfold Launch.stackTraces
    rw [hflags]
    decide +kernel
  have hA : ∀ a : Nat, a < s.heap.size → ¬ fA (fun _ => none) s.heap.size a := fun a ha z => z.elim (fun w => w rfl) (fun w => absurd ha (Nat.not_lt.mpr w))
  have hcl : ∀ (k : Nat) (q : vw_C), vwCl[k]? = some q → ∃ (cC : ClassId) (iS : Nat → Nat), u_Kn s q.1 q.2.1 q.2.2 cC iS := by
    intro k q hq
    match k, hq with
    | 0, hq => cases hq; exact u_known hGW in_Jx4a65c (hGW _ gw_1_35)
    | 1, hq => cases hq; exact u_known hGW in_X0 (hGW _ gw_1_98)
    | 2, hq => cases hq; exact u_known hGW in_X1 (hGW _ gw_1_61)
    | 3, hq => cases hq; exact u_known hGW in_X2 (hGW _ gw_3_51)
    | 4, hq => cases hq; exact u_known hGW in_X3 (hGW _ gw_3_154)
    | 5, hq => cases hq; exact u_known hGW in_X4 (hGW _ gw_1_207)
    | 6, hq => cases hq; exact u_known hGW in_X5 (hGW _ gw_3_202)
    | 7, hq => cases hq; exact u_known hGW in_X5 (hGW _ gw_3_202)
    | 8, hq => cases hq; exact u_known hGW in_X7 (hGW _ gw_3_19)
    | 9, hq => cases hq; exact u_known hGW in_X8 (hGW _ gw_1_78)
    | 10, hq => cases hq; exact u_known hGW in_X9 (hGW _ gw_1_114)
    | 11, hq => cases hq; exact u_known hGW in_X10 (hGW _ gw_1_27)
    | k + 12, hq => exact absurd (show k + 12 < 12 from (List.getElem?_eq_some_iff.mp hq).1) (by omega)
  have hcl2 : ∀ k : Nat, ∃ p : ClassId × (Nat → Nat), ∀ q : vw_C, vwCl[k]? = some q → u_Kn s q.1 q.2.1 q.2.2 p.1 p.2 := by
    intro k
    cases h : vwCl[k]? with
    | none => exact ⟨(0, fun _ => 0), fun q hq => by cases hq⟩
    | some q =>
      obtain ⟨cC, iS, hK⟩ := hcl k q h
      exact ⟨(cC, iS), fun q' hq => by cases hq; exact hK⟩
  obtain ⟨fD, hfD⟩ := Classical.axiomOfChoice hcl2
  obtain ⟨a0, k0, o0, f01, f02, f03⟩ := Cond.arrayClass_spec (type := .int) (hGW _ gw_1_96)
  obtain ⟨a1, k1, o1, f11, f12, f13⟩ := Cond.arrayClass_spec (type := .boolean) (hGW _ gw_1_144)
  have hAO : (Cond.arrayOver (FieldType.object "java/lang/Object")).before #[Value.ref b] s = true := hts _ (List.mem_append_right _ (List.mem_append_left _ (List.mem_of_getElem? (i := 196) rfl : _ ∈ tables_1_1)))
  obtain ⟨o2, a2, k2, f21, f22, f23, f24, f25⟩ := Cond.arrayOver_spec hAO
  obtain ⟨a5, hMi⟩ := va_Mi.of (hg (Cond.isRef (.mirror "[Ljava/lang/Object;")) (by decide +kernel))
  obtain ⟨a4, h4, hT4⟩ := va_Tof (tm := Term.static "java/util/ArrayList" "DEFAULTCAPACITY_EMPTY_ELEMENTDATA" "[Ljava/lang/Object;") (ty := .object "java/lang/Object") (N := 0) (f := fun _ => .null) (A := fA (fun _ => none) s.heap.size) (by decide) (hg (Cond.arrayOf (Term.static "java/util/ArrayList" "DEFAULTCAPACITY_EMPTY_ELEMENTDATA" "[Ljava/lang/Object;") (.object "java/lang/Object")) (by decide +kernel)) (va_eqt (hg (Cond.eq (.length (Term.static "java/util/ArrayList" "DEFAULTCAPACITY_EMPTY_ELEMENTDATA" "[Ljava/lang/Object;")) (.int 0)) (by decide +kernel))) (fun j hj => absurd hj (Nat.not_lt_zero j)) hA
  obtain ⟨ca, c0, c1, c2, c4, c5⟩ : ∃ ca : Nat → Nat, ca 0 = a0 ∧ ca 1 = a1 ∧ ca 2 = a2 ∧ ca 4 = a4 ∧ ca 5 = a5 := ⟨fun i => match i with
    | 0 => a0
    | 1 => a1
    | 2 => a2
    | 4 => a4
    | _ => a5, rfl, rfl, rfl, rfl, rfl⟩
  have hty : ∀ (k : Nat) (q : ClassId × FieldType), (fT ca)[k]? = some q → ArrOfT s q.1 q.2 ∧ va_RA s q.1 q.2 := by
    intro k q hq
    match k, hq with
    | 0, hq => cases hq; exact ⟨fun N z => ⟨(fun k h => by cases h), k0, by rw [c0]; exact f02, o0, f03⟩, by rw [c0]; exact f01⟩
    | 1, hq => cases hq; exact ⟨fun N z => ⟨(fun k h => by cases h), k1, by rw [c1]; exact f12, o1, f13⟩, by rw [c1]; exact f11⟩
    | 2, hq => cases hq; exact ⟨fun N z => ⟨(fun k h => by cases h), k2, by rw [c2]; exact f23, o2, f24⟩, by rw [c2]; exact ⟨k2, o2, f23, f24, f21, f25⟩⟩
    | k + 3, hq => exact absurd (show k + 3 < 3 from (List.getElem?_eq_some_iff.mp hq).1) (by omega)
  have hW : fW (fun k => (fD k).1, fun k => (fD k).2) ca s := by
    refine ⟨⟨fun k q hq => hfD k q hq, hty⟩, fun w hw => va_Nw.of (NWL_tab hw) (hts w (NWL_in w hw)), ?_, va_AO.of hAO, by rw [c5]; exact hMi⟩
    unfold NCL
    exact List.forall_mem_cons.mpr ⟨va_Nc.of (hg (Cond.not (.castable xIA xIO)) (by decide +kernel)), List.forall_mem_cons.mpr ⟨va_Nc.of (hg (Cond.not (.castable xIS xIO)) (by decide +kernel)), List.forall_mem_cons.mpr ⟨va_Nc.of (hg (Cond.not (.castable xIS xIA)) (by decide +kernel)), List.forall_mem_nil _⟩⟩⟩
  have hE : fE (fun k => (fD k).1, fun k => (fD k).2) ca (fA (fun _ => none) s.heap.size) s s.heap := by
    refine ⟨vx_Zqof (hts (Cond.laysStatic "java/lang/Throwable" "UNASSIGNED_STACK" "[Ljava/lang/StackTraceElement;") (List.mem_append_right _ (List.mem_append_right _ (List.mem_append_left _ (List.mem_of_getElem? (i := 68) rfl : _ ∈ tables_1_2))))) (hGW _ gw_1_14) (hg (Cond.isRef (Term.static "java/lang/Throwable" "UNASSIGNED_STACK" "[Ljava/lang/StackTraceElement;")) (by decide +kernel)) hA, vx_Zqof (hts (Cond.laysStatic "java/lang/Throwable" "SUPPRESSED_SENTINEL" "Ljava/util/List;") (List.mem_append_right _ (List.mem_append_right _ (List.mem_append_left _ (List.mem_of_getElem? (i := 70) rfl : _ ∈ tables_1_2))))) (hGW _ gw_1_14) (hg (Cond.isRef (Term.static "java/lang/Throwable" "SUPPRESSED_SENTINEL" "Ljava/util/List;")) (by decide +kernel)) hA, va_Zof (hts (Cond.laysStatic "java/util/ArrayList" "DEFAULTCAPACITY_EMPTY_ELEMENTDATA" "[Ljava/lang/Object;") (List.mem_append_right _ (List.mem_append_left _ (List.mem_of_getElem? (i := 47) rfl : _ ∈ tables_1_1)))) (hGW _ gw_1_4) (by rw [c4]; exact h4) hA, by rw [c4]; exact hT4⟩
  have X : JX (p, l, e, room_1, s, m, #[Value.ref b], below, meth, c, (fun k => (fD k).1, fun k => (fD k).2), ca, fA (fun _ => none) s.heap.size, vx_MQ below (fQ (fun k => (fD k).1, fun k => (fD k).2) (fA (fun _ => none) s.heap.size) (fun v _ => v = some (.int 1))) (fX (fun k => (fD k).1, fun k => (fD k).2) (fA (fun _ => none) s.heap.size) noX) #[Value.ref b] s 600086 7301442 (fA (fun _ => none) s.heap.size)) meth.name "NightValleyLaw" cL_law 15 (some .boolean) c.exceptionTable.toList (Cond.initialized "NightValleyLaw") room_1 (fun _ => none) (fun v _ => v = some (.int 1)) noX :=
    ⟨hx, hb, hml, hown, fun w hw => (List.mem_cons.mp hw).elim (fun e => by rw [e]; exact hGW _ gw_1_0) (hGW w), hW, fun q h => Or.inr h, hE, hr, hlocks, rfl, hst, rfl, rfl, rfl, rfl⟩
  have J0 := law_begin X (b := b) (fun r α hx' h' hLH hRA => law_loop X hX hbl (hA b hbl) hL 60 0 hx' h' σI τI rfl hLH hRA InvX_σI InvO_σI LQ_I AG_I T_I)
  have hl : lv_has ((lg_sl [Value.ref b] ++ List.replicate (15 - (lg_sl [Value.ref b]).length) Slot.unset).toArray) c.maxLocals (lvA 0 [some (.ref b), none, none, none, none, none, none, none, none, none, none, none, none, none, none]) := by
    rw [hml]
    exact lv_entry [.ref b] (n := 15) (Nat.le_of_ble_eq_true rfl)
  have W0 := J0 s.heap [] _ (fun a e q => by cases q) (fun q h => absurd rfl h) va_S.rf hl
  rw [lg_entry_eq]
  intro T hT XS
  obtain ⟨t, a1, o, b1, b2, b3⟩ := W0 T hT XS
  refine ⟨t, a1, o, b1, b2, ?_⟩
  rcases b3 with ⟨⟨⟨v, h', ho, hp, _, _⟩, _⟩, L', hF, hbase⟩ | ⟨q, _, E, ce, L', ⟨⟨h', hp, _, _⟩, _⟩, _⟩
  · subst hp
    refine ⟨ho, ⟨_, ho⟩, hF.2.1, ?_⟩
    obtain ⟨s1, s2, s3, s4, s5, s6⟩ := hF.2.2
    refine ⟨s1, s2, s3, s4, s5, fun a cc hcc => ?_⟩
    obtain ⟨c', d1, d2, d3, d4⟩ := s6 a cc hcc
    exact ⟨c', d1, d2, d3, fun i _ => d4 i (fun hin => absurd (hbase _ hin) (hA a (Array.getElem?_eq_some_iff.mp hcc).1))⟩
  · exact hp.elim
set_option maxHeartbeats 4000000 in
theorem lw_walk (l : Launch) (hflags : l.flags = flags0) (b : Addr) (xs : List Int32) : MetFree l x (headSpec (Jvm.Cond.code x code maxLocals ret :: tables_1) room_1) (lw_P b xs) (fun _ _ _ _ _ => True) lw_Q := by
  refine MetFree.of_bodyS (code := code) (maxLocals := maxLocals) (ret := ret) (by decide) ?_ ?_
  · intro args s m h hn
    obtain ⟨meth, c, h1, h2, h3, h4, h5, h6, -, -⟩ := Cond.code_spec hn (atoms_spec (ws := Jvm.Cond.code x code maxLocals ret :: tables_1) h _ List.mem_cons_self)
    exact ⟨meth, c, h1, h2, h3, h4, h5, h6⟩
  · intro p e s m args below meth c s₁ B hml0 hP _
    obtain ⟨rfl, hx, hbd, hgv⟩ := hP
    obtain ⟨scr, harrAt, hlist, hof, hsmall⟩ := hx
    obtain ⟨hcb, hkn, -, -⟩ := State.arrayAt?_spec harrAt
    have hown : s.vm.findClass R_law = some m.cls := findClass_of_methodNamed B.named
    have hts0 : ∀ c ∈ (Jvm.Cond.code x code maxLocals ret :: tables_1), c.before #[Value.ref b] s = true := atoms_spec (ws := Jvm.Cond.code x code maxLocals ret :: tables_1) B.pre
    have hts : ∀ w ∈ lw_tbl, w.before #[Value.ref b] s = true := k2_hts_sels lw_privs (fun w hw => hts0 w (List.mem_cons_of_mem _ hw)) lw_privs_ok
    have hml : c.maxLocals = 15 := B.maxLocals_eq (hts0 _ List.mem_cons_self)
    have X₀ : Stand p l e room_1 s m #[Value.ref b] below meth c s₁ [] 0 0 := Stand.of_body B
    have hh0 : s₁.heap = s.heap := by rw [B.state]; rfl
    have hsz : scr.slots.size = xs.length := by rw [← Array.length_toList, hlist, List.length_map]
    have hval : ∀ j : Nat, j < xs.length → scr.slots[j]? = some (.int (xs.getD j 0)) := fun j hj => by
      rw [← Array.getElem?_toList, hlist]
      simp [hj]
    have hbl : b < s.heap.size := (Array.getElem?_eq_some_iff.mp hcb).1
    have hX : va_X b xs.length (fun j => xs.getD j 0) s s.heap := ⟨scr, hcb, hof, hkn, hsz, hval⟩
    have K : W p l e room_1 s m #[Value.ref b] below meth c s₁.heap [] 0 0 (lw_Z below #[Value.ref b] s) (entryFrame m ([Value.ref b] : List Value).toArray 15) := by
      rw [hh0]
      exact whole_start l hflags hbd ⟨B.exec, B.bytes, B.returns, hml, hown, hts, hX, hbl, B.notSynchronized, hgv⟩
    obtain ⟨t, a1, o, b1, b2, b3⟩ := K s₁ rfl X₀
    exact ⟨t, o, a1, b1, b2, b3⟩
theorem lw_pre_spec {args : Array Value} {s : State} (h : (Jvm.Cond.and given_1 narrow_1).before args s = true) (hr : rest_1_c.before args s = true) : ∃ (b : Addr) (xs : List Int32), lw_P b xs args s := by
  have hs := flat_of_before _ h
  have hq := flat_of_before _ hr
  have hc : (Cond.count 1).before args s = true := hs _ (by decide +kernel)
  have harr : (Cond.arrayOf (.arg 0) .int).before args s = true := hs _ (by decide +kernel)
  have hle : (Cond.le (.length (.arg 0)) (.int 260)).before args s = true := hs _ (by decide +kernel)
  have hlen : (Cond.isInt (.length (.arg 0))).before args s = true := hq _ (by decide +kernel)
  have hall : (Cond.all (.arg 0) (.isInt (.elem (.arg 0) (.index 0)))).before args s = true := hq _ (by decide +kernel)
  obtain ⟨b, xs, hb, hx⟩ := State.ints_of_pre rfl harr hlen hall
  have hsm : xs.length < 2 ^ 31 := hx.choose_spec.2.2.2
  have hev : (Term.length (.arg 0)).eval args s none [] s = some (.int xs.length.toInt32) := hx.length_eval hb
  have hv := Cond.le_ints hev (show (Term.int 260).eval args s none [] s = some (.int 260) from rfl)
  have hd : xs.length.toInt32 ≤ 260 := by
    simpa [Cond.before, Cond.holds, hv] using hle
  have hN : xs.length ≤ 260 := (Int32.ofNat_le_ofNat hsm (by decide)).mp (show Int32.ofNat xs.length ≤ Int32.ofNat 260 from hd)
  exact ⟨b, xs, Cond.one_arg hc (show args[0]? = some (.ref b) from hb), hx, hN, h⟩
theorem lw_comes (l : Launch) (hflags : l.flags = flags0) : Comes l x (Jvm.Cond.code x code maxLocals ret :: tables_1) room_1 (fun tb e args s => Calls_1 tb e args s ∧ rest_1 tb e args s ∧ Pre_1 tb e args s)
    (fun _ _ args s o t => lw_Q args s o t) := by
  intro p e ha hc hk s m args below hf hfit hheap happ hpre
  obtain ⟨b, xs, hP⟩ := lw_pre_spec hpre.2.2 hpre.2.1
  obtain ⟨k, o, h1, h2, h3, hQ⟩ := lw_walk l hflags b xs p e ha hc hk s m args below hf ((Spec.applies_iff_loose hf).mp happ).1 hP trivial
  exact ⟨k, o, h1, h2, h3, hQ⟩
theorem lw_frame {s t : State} {o : Outcome} {args : Array Value} (h : Framed s o t [] 600086 7301442) :
    Framed s o t (fieldLocs frame_1_writes args s ++ arrayLocs frame_1_arrays args s ++ staticLocs frame_1_statics s) 600086 7301442 := h
theorem lw_limb (L : Cond) (hL : ∀ (args : Array Value) (s t : State), L.after args s (.returned (some (.int 1))) t = true) :
    ArmFor flags0 classFile x code maxLocals ret World_1 tables_1 room_1 Calls_1 rest_1 Pre_1
      (fun tb e a s o t => postC L tb e a s o t ∧ Framed s o t (fieldLocs frame_1_writes a s ++ arrayLocs frame_1_arrays a s ++ staticLocs frame_1_statics s) 600086 7301442) := by
  intro l hflags _ _ p e ha hc hk s m args below hf hfit hheap happ hpre
  obtain ⟨k, o, h1, h2, h3, rfl, hF⟩ := lw_comes l hflags p e ha hc hk s m args below hf hfit hheap happ hpre
  exact ⟨k, _, h1, h2, h3, hL args s _, lw_frame hF⟩
theorem i_vc : Claimed_1_1 ∧ Claimed_1_2 := ⟨lw_limb limb_1_1 (fun args s t => by simp [limb_1_1, Cond.after, Cond.holds, Cond.value]), lw_limb limb_1_2 (fun args s t => Cond.after_iff.mpr (by
  first | (rw [show limb_1_2 = Cond.eq .result (.int 1) from rfl, Cond.eq_ints (x := 1) (y := 1) rfl rfl]; simp; done) | (simp [limb_1_2, Cond.value, Term.eval]; done)))⟩
end
