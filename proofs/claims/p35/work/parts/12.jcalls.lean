theorem gw_good {w : Cond} (h : w ∈ GW) : goodWord w = true := (List.mem_filter.mp h).2
theorem gw_in {w0 : Cond} {ws : List Cond} (h : ∀ w ∈ ws, w ∈ GW) : GoodIn (w0 :: GW) ws := fun w hw => ⟨List.mem_cons_of_mem _ (h w hw), good_of_word (gw_good (h w hw))⟩
/-- what a call's row wants of the tables -/
abbrev CWV (own : String) (ix : Nat) (C : String) (y : MethodName) (bytes : ByteArray) (maxL : Nat) (rt : Option FieldType) (k : Nat) : Prop :=
  Cond.methodLink own ix y ∈ GW ∧ Cond.instanceMethod y ∈ GW ∧ Cond.selects C y y ∈ GW ∧ Cond.initialized C ∈ GW ∧ Cond.code y bytes maxL rt ∈ GW ∧ y.cls = C ∧ (y.cls ≠ "java/lang/invoke/MethodHandle" ∧ y.cls ≠ "java/lang/invoke/VarHandle") ∧ (parseMethodDescriptor y.desc).map (fun d => d.parameters.length) = some k
abbrev CWS (own : String) (ix : Nat) (y : MethodName) (bytes : ByteArray) (maxL : Nat) (rt : Option FieldType) (k : Nat) : Prop :=
  Cond.methodLink own ix y ∈ GW ∧ Cond.static y ∈ GW ∧ Cond.initialized y.cls ∈ GW ∧ Cond.code y bytes maxL rt ∈ GW ∧ (y.cls ≠ "java/lang/invoke/MethodHandle" ∧ y.cls ≠ "java/lang/invoke/VarHandle") ∧ (parseMethodDescriptor y.desc).map (fun d => d.parameters.length) = some k
abbrev CWSN (own : String) (ix : Nat) (y : MethodName) (host : String) (bytes : ByteArray) (maxL : Nat) (rt : Option FieldType) (k : Nat) : Prop :=
  Cond.methodLinkNest own ix y host ∈ NWL ∧ Cond.static y ∈ GW ∧ Cond.initialized y.cls ∈ GW ∧ Cond.code y bytes maxL rt ∈ GW ∧ (y.cls ≠ "java/lang/invoke/MethodHandle" ∧ y.cls ≠ "java/lang/invoke/VarHandle") ∧ (parseMethodDescriptor y.desc).map (fun d => d.parameters.length) = some k
abbrev CWI (own : String) (ix : Nat) (y : MethodName) (bytes : ByteArray) (maxL : Nat) (k : Nat) : Prop :=
  Cond.methodLink own ix y ∈ GW ∧ Cond.instanceMethod y ∈ GW ∧ Cond.initialized y.cls ∈ GW ∧ Cond.code y bytes maxL none ∈ GW ∧ y.name = "<init>" ∧ (y.cls ≠ "java/lang/invoke/MethodHandle" ∧ y.cls ≠ "java/lang/invoke/VarHandle") ∧ (parseMethodDescriptor y.desc).map (fun d => d.parameters.length) = some k
abbrev CWIN (own : String) (ix : Nat) (y : MethodName) (host : String) (bytes : ByteArray) (maxL : Nat) (k : Nat) : Prop :=
  Cond.methodLinkNest own ix y host ∈ NWL ∧ Cond.instanceMethod y ∈ GW ∧ Cond.initialized y.cls ∈ GW ∧ Cond.code y bytes maxL none ∈ GW ∧ y.name = "<init>" ∧ (y.cls ≠ "java/lang/invoke/MethodHandle" ∧ y.cls ≠ "java/lang/invoke/VarHandle") ∧ (parseMethodDescriptor y.desc).map (fun d => d.parameters.length) = some k
abbrev CWSW (own : String) (ix : Nat) (y : MethodName) (bytes : ByteArray) (maxL : Nat) (rt : Option FieldType) (hh : List (Nat × Nat × Nat × Nat)) (k : Nat) : Prop :=
  Cond.methodLink own ix y ∈ GW ∧ Cond.static y ∈ GW ∧ Cond.initialized y.cls ∈ GW ∧ Cond.codeWith y bytes maxL rt hh ∈ GW ∧ (y.cls ≠ "java/lang/invoke/MethodHandle" ∧ y.cls ≠ "java/lang/invoke/VarHandle") ∧ (parseMethodDescriptor y.desc).map (fun d => d.parameters.length) = some k
theorem fPre_blind {D : va_G} {ca : Nat → Nat} {h : fH} {sz : Nat} {av : List Value} : FrameBlind (va_Pc av (fPre D ca h sz)) := fun a U g mk q => by
  obtain ⟨q0, q1, q2, q3, q4⟩ := q
  exact ⟨q0, q1, q2, fW.same (u := U) (U := U.calling g mk a) rfl q3, fE.moved (u := U) (U := U.calling g mk a) (Vm.Alike.refl U.vm) q4⟩
section JCALLS
variable {K : KT} {mn own : String} {cc : ByteArray} {n : Nat} {ret : Option FieldType} {tb : List ExceptionTableEntry} {w0 : Cond} {rm : Room} {h0 : fH} {post : Option Value → fH → Prop} {px : String → fH → Prop}
variable {h : fH} {lv lv' : LV} {st rest : List Value} {pc cells slots : Nat}
theorem J.sub' (X : JX K mn own cc n ret tb w0 rm h0 post px) {H : Heap} {locs : List Loc} (hD : ∀ q, h q ≠ none → kA K q) (hS : va_S (kA K) (ks K).heap H locs) : ∀ q, fA h H.size q → kA K q := fun q hq => hq.elim (hD q) (fun z => X.2.2.2.2.2.2.1 q (Nat.le_trans hS.1 z))
theorem J.pre (X : JX K mn own cc n ret tb w0 rm h0 post px) {H : Heap} {locs : List Loc} (hP : fP (kD K) h H) (hD : ∀ q, h q ≠ none → kA K q) (hS : va_S (kA K) (ks K).heap H locs) (U : State) (hU : U.heap = H) (hW : (ks K).WarmedH U.vm) : fPre (kD K) (kca K) h H.size U := by
  refine ⟨by rw [hU], by rw [hU]; exact hP, X.2.2.2.2.2.1.warm hW, ?_⟩
  rw [hU]
  exact ((X.2.2.2.2.2.2.2.1.kept (fun a h1 h2 => hS.2.1 a h1 h2)).moved hW.alike).narrow (J.sub' X hD hS)
theorem J_call (X : JX K mn own cc n ret tb w0 rm h0 post px) {mc ms : Nat} {postc : Option Value → fH → Prop} {pxc : String → fH → Prop}
    (hr : ∀ (H : Heap) (locs : List Loc) (ls : Array Slot), fP (kD K) h H → (∀ q, h q ≠ none → kA K q) → va_S (kA K) (ks K).heap H locs → lv_has ls (kc K).maxLocals (lvA 0 lv) → ∃ a, vx_Run (kp K) (kl K) (ke K) (kR K) (ks K) (km K) (ka K) (kb K) (kmt K) (kc K) H locs cells slots mc ms (F0 (km K) pc ls st) rest (fQ (kD K) (fA h H.size) postc a) (fX (kD K) (fA h H.size) pxc) (fA h H.size))
    (k : ∀ (v : Option Value) (h' : fH), postc v h' → J K h' lv (v.toList ++ rest) (pc + 3) (cells + mc) (slots + ms)) (kx : ∀ (E : String) (h' : fH), pxc E h' → JE K h' lv rest pc (cells + mc) (slots + ms) E) : J K h lv st pc cells slots := by
  intro H locs ls hP hD hS hl
  obtain ⟨a, hr⟩ := hr H locs ls hP hD hS hl
  have hsub := J.sub' X hD hS
  intro T hT Xs
  rcases hr T hT Xs with ⟨v, st₀, t, T', L, e0, X', hL, e1, e2, ⟨⟨v', h', hv, hp, hP', hD'⟩, hF⟩, stp⟩ | ⟨q, st₀, t, T', L, E, ce, e0, X', hL, e1, e2, ⟨⟨h', hp, hP', hD'⟩, hF⟩, hce, hcv, hcl, stp⟩
  · cases hv
    obtain ⟨k1, k2, k3⟩ := vx_keep e0 e1 hS (fun q _ => hsub q) hsub hL hF
    obtain ⟨t2, a1, b1⟩ := k v h' hp T'.heap (locs ++ L) ls (by rw [e1]; exact hP') (fun q hq => hsub q (hD' q hq)) k3 hl T' rfl X'
    exact ⟨t2, stp t2 a1, b1⟩
  · obtain ⟨k1, k2, k3⟩ := vx_keep e0 e1 hS (fun q _ => hsub q) hsub hL hF
    obtain ⟨t2, a1, b1⟩ := kx E h' hp T'.heap (locs ++ L) ls q ce (by rw [e1]; exact hP') (fun q hq => hsub q (hD' q hq)) k3 hl (by rw [e1]; exact hce) hcv hcl T' rfl X'
    exact ⟨t2, stp.trans a1, b1⟩
theorem J.room9 {ls : Array Slot} (h : (rest.map fun v => v.category).sum ≤ 8) : 2 * (F0 (km K) pc ls st).monitorRoom + (rest.map fun v => v.category).sum ≤ 8 := lv_room h
theorem J.hR2 {a b c d : Nat} (h : (Nat.ble a b && Nat.ble c d) = true) : a ≤ b ∧ c ≤ d := by
  rw [Bool.and_eq_true] at h
  exact ⟨Nat.le_of_ble_eq_true h.1, Nat.le_of_ble_eq_true h.2⟩
theorem J_callV (X : JX K mn own cc n ret tb w0 rm h0 post px) {y : MethodName} {bytes : ByteArray} {maxL : Nat} {rt : Option FieldType} {rmy : Room} {postc : Option Value → fH → Prop} {pxc : String → fH → Prop} {ix : Nat} {C : String} {Tq : u_T} {Nq b ci : Nat} {fs As : List Value} (hM : FM (kl K) (kD K) (kca K) y (.code y bytes maxL rt) rmy (.ref b :: As) h postc pxc) (cw : CWV own ix C y bytes maxL rt As.length) (hb : h b = some (.inr (ci, fs))) (hc : vwCl[ci]? = some (C, Tq, Nq)) (hR : (Nat.ble (rmy.frames + 1) rm.frames && Nat.ble (8 + (maxL + 11) + rmy.locals) rm.locals) = true) (hroom : (Nat.ble (cells + rmy.cells) rm.cells && Nat.ble (slots + rmy.slots) rm.slots) = true) (hcat : (rest.map fun v => v.category).sum ≤ 8)
    (d : decode cc pc = .ok (.invokevirtual ix, 3)) (hst : st = As.reverse ++ .ref b :: rest) (k : ∀ (v : Option Value) (h' : fH), postc v h' → J K h' lv (v.toList ++ rest) (pc + 3) (cells + rmy.cells) (slots + rmy.slots)) (kx : ∀ (E : String) (h' : fH), pxc E h' → JE K h' lv rest pc (cells + rmy.cells) (slots + rmy.slots) E) : J K h lv st pc cells slots := by
  refine J_call X (mc := rmy.cells) (ms := rmy.slots) (postc := postc) (pxc := pxc) (fun H locs ls hP hD hS hl => ⟨_, vx_runV (C := C) (bytes := bytes) (maxL := maxL) (ret := rt) (As := As) (rest := rest) (n := As.length) ⟨X.1, X.2.1, X.2.2.1, X.2.2.2.1, X.2.2.2.2.1⟩ (hM X.2.2.2.2.2.2.2.2.2.2.2.1 H.size) ?_ ⟨fPre_blind, ?_, fun U hU hW => ⟨rfl, J.pre X hP hD hS U hU hW⟩⟩ rfl rfl (by rw [← X.2.2.1]; exact hl.1) hst (lv_room hcat) d ?_⟩) k kx
  · rw [X.2.2.2.2.2.2.2.2.2.2.1]
    refine cwV (Ts := w0 :: GW) As.length X.2.2.2.2.1 (gw_in fun w hw => ?_) rfl rfl rfl ⟨cw.2.2.2.2.2.1, cw.2.2.2.2.2.2.1.1, cw.2.2.2.2.2.2.1.2, cw.2.2.2.2.2.2.2⟩ (J.hR2 hR)
    unfold wsV at hw
    simp only [List.cons_append, List.nil_append, List.mem_cons] at hw
    rcases hw with rfl | rfl | rfl | rfl | rfl | hw
    · exact cw.1
    · exact cw.2.1
    · exact cw.2.2.1
    · exact cw.2.2.2.1
    · exact cw.2.2.2.2.1
    · exact hw
  · have hPc := hP.one hb
    exact va_recv X.2.2.2.2.2.1.1 hPc (q0 := 0) hc rfl
  · rw [X.2.2.2.2.2.2.2.2.2.2.1]
    exact J.hR2 hroom
theorem J_callS (X : JX K mn own cc n ret tb w0 rm h0 post px) {y : MethodName} {bytes : ByteArray} {maxL : Nat} {rt : Option FieldType} {rmy : Room} {postc : Option Value → fH → Prop} {pxc : String → fH → Prop} {ix : Nat} {As : List Value} (hM : FM (kl K) (kD K) (kca K) y (.code y bytes maxL rt) rmy As h postc pxc) (cw : CWS own ix y bytes maxL rt As.length) (hR : (Nat.ble (rmy.frames + 1) rm.frames && Nat.ble (8 + (maxL + 11) + rmy.locals) rm.locals) = true) (hroom : (Nat.ble (cells + rmy.cells) rm.cells && Nat.ble (slots + rmy.slots) rm.slots) = true) (hcat : (rest.map fun v => v.category).sum ≤ 8)
    (d : decode cc pc = .ok (.invokestatic ix, 3)) (hst : st = As.reverse ++ rest) (k : ∀ (v : Option Value) (h' : fH), postc v h' → J K h' lv (v.toList ++ rest) (pc + 3) (cells + rmy.cells) (slots + rmy.slots)) (kx : ∀ (E : String) (h' : fH), pxc E h' → JE K h' lv rest pc (cells + rmy.cells) (slots + rmy.slots) E) : J K h lv st pc cells slots := by
  refine J_call X (mc := rmy.cells) (ms := rmy.slots) (postc := postc) (pxc := pxc) (fun H locs ls hP hD hS hl => ⟨_, vx_runS (bytes := bytes) (maxL := maxL) (ret := rt) (As := As) (rest := rest) (n := As.length) ⟨X.1, X.2.1, X.2.2.1, X.2.2.2.1, X.2.2.2.2.1⟩ (hM X.2.2.2.2.2.2.2.2.2.2.2.1 H.size) ⟨?_, J.w X cw.2.1⟩ ⟨fPre_blind, fun U hU hW => ⟨rfl, J.pre X hP hD hS U hU hW⟩⟩ rfl rfl (by rw [← X.2.2.1]; exact hl.1) hst (lv_room hcat) d ?_⟩) k kx
  · rw [X.2.2.2.2.2.2.2.2.2.2.1]
    refine callB_of (Ts := w0 :: GW) As.length X.2.2.2.2.1 (gw_in fun w hw => ?_) rfl rfl rfl (J.w X cw.2.2.1) (J.w X cw.1) ⟨cw.2.2.2.2.1.1, cw.2.2.2.2.1.2, cw.2.2.2.2.2⟩ (J.hR2 hR)
    rcases List.mem_cons.mp hw with rfl | hw
    · exact cw.2.2.2.1
    · exact hw
  · rw [X.2.2.2.2.2.2.2.2.2.2.1]
    exact J.hR2 hroom
theorem J_callSN (X : JX K mn own cc n ret tb w0 rm h0 post px) {y : MethodName} {bytes : ByteArray} {maxL : Nat} {rt : Option FieldType} {rmy : Room} {postc : Option Value → fH → Prop} {pxc : String → fH → Prop} {ix : Nat} {host : String} {As : List Value} (hM : FM (kl K) (kD K) (kca K) y (.code y bytes maxL rt) rmy As h postc pxc) (cw : CWSN own ix y host bytes maxL rt As.length) (hR : (Nat.ble (rmy.frames + 1) rm.frames && Nat.ble (8 + (maxL + 11) + rmy.locals) rm.locals) = true) (hroom : (Nat.ble (cells + rmy.cells) rm.cells && Nat.ble (slots + rmy.slots) rm.slots) = true) (hcat : (rest.map fun v => v.category).sum ≤ 8)
    (d : decode cc pc = .ok (.invokestatic ix, 3)) (hst : st = As.reverse ++ rest) (k : ∀ (v : Option Value) (h' : fH), postc v h' → J K h' lv (v.toList ++ rest) (pc + 3) (cells + rmy.cells) (slots + rmy.slots)) (kx : ∀ (E : String) (h' : fH), pxc E h' → JE K h' lv rest pc (cells + rmy.cells) (slots + rmy.slots) E) : J K h lv st pc cells slots := by
  refine J_call X (mc := rmy.cells) (ms := rmy.slots) (postc := postc) (pxc := pxc) (fun H locs ls hP hD hS hl => ⟨_, vx_runSN (host := host) (bytes := bytes) (maxL := maxL) (ret := rt) (As := As) (rest := rest) (n := As.length) ⟨X.1, X.2.1, X.2.2.1, X.2.2.2.1, X.2.2.2.2.1⟩ (hM X.2.2.2.2.2.2.2.2.2.2.2.1 H.size) ⟨?_, J.w X cw.2.1, trivial⟩ ⟨fPre_blind, fun U hU hW => ⟨rfl, J.pre X hP hD hS U hU hW⟩⟩ rfl rfl (by rw [← X.2.2.1]; exact hl.1) hst (lv_room hcat) d ?_⟩) k kx
  · rw [X.2.2.2.2.2.2.2.2.2.2.1]
    refine va_cnB (Ts := w0 :: GW) As.length X.2.2.2.2.1 (gw_in fun w hw => ?_) rfl rfl rfl (X.2.2.2.2.2.1.2.1 _ cw.1) (J.w X cw.2.2.1) ⟨cw.2.2.2.2.1.1, cw.2.2.2.2.1.2, cw.2.2.2.2.2⟩ (J.hR2 hR)
    rcases List.mem_cons.mp hw with rfl | hw
    · exact cw.2.2.2.1
    · exact hw
  · rw [X.2.2.2.2.2.2.2.2.2.2.1]
    exact J.hR2 hroom
theorem J_callSW (X : JX K mn own cc n ret tb w0 rm h0 post px) {y : MethodName} {bytes : ByteArray} {maxL : Nat} {rt : Option FieldType} {rmy : Room} {postc : Option Value → fH → Prop} {pxc : String → fH → Prop} {ix : Nat} {hh : List (Nat × Nat × Nat × Nat)} {As : List Value} (hM : FM (kl K) (kD K) (kca K) y (.codeWith y bytes maxL rt hh) rmy As h postc pxc) (cw : CWSW own ix y bytes maxL rt hh As.length) (hR : (Nat.ble (rmy.frames + 1) rm.frames && Nat.ble (8 + (maxL + 11) + rmy.locals) rm.locals) = true) (hroom : (Nat.ble (cells + rmy.cells) rm.cells && Nat.ble (slots + rmy.slots) rm.slots) = true) (hcat : (rest.map fun v => v.category).sum ≤ 8)
    (d : decode cc pc = .ok (.invokestatic ix, 3)) (hst : st = As.reverse ++ rest) (k : ∀ (v : Option Value) (h' : fH), postc v h' → J K h' lv (v.toList ++ rest) (pc + 3) (cells + rmy.cells) (slots + rmy.slots)) (kx : ∀ (E : String) (h' : fH), pxc E h' → JE K h' lv rest pc (cells + rmy.cells) (slots + rmy.slots) E) : J K h lv st pc cells slots := by
  refine J_call X (mc := rmy.cells) (ms := rmy.slots) (postc := postc) (pxc := pxc) (fun H locs ls hP hD hS hl => ⟨_, vx_runSX (hh := hh) (bytes := bytes) (maxL := maxL) (ret := rt) (As := As) (rest := rest) (n := As.length) ⟨X.1, X.2.1, X.2.2.1, X.2.2.2.1, X.2.2.2.2.1⟩ (hM X.2.2.2.2.2.2.2.2.2.2.2.1 H.size) ?_ ⟨fPre_blind, fun U hU hW => ⟨rfl, J.pre X hP hD hS U hU hW⟩⟩ rfl rfl (by rw [← X.2.2.1]; exact hl.1) hst (lv_room hcat) d ?_⟩) k kx
  · rw [X.2.2.2.2.2.2.2.2.2.2.1]
    refine vx_cwSW (Ts := w0 :: GW) As.length X.2.2.2.2.1 (gw_in fun w hw => ?_) rfl rfl rfl ⟨cw.2.2.2.2.1.1, cw.2.2.2.2.1.2, cw.2.2.2.2.2⟩ (J.hR2 hR)
    unfold va_wsS at hw
    simp only [List.cons_append, List.nil_append, List.mem_cons] at hw
    rcases hw with rfl | rfl | rfl | rfl | hw
    · exact cw.1
    · exact cw.2.1
    · exact cw.2.2.1
    · exact cw.2.2.2.1
    · exact hw
  · rw [X.2.2.2.2.2.2.2.2.2.2.1]
    exact J.hR2 hroom
theorem J_callI (X : JX K mn own cc n ret tb w0 rm h0 post px) {y : MethodName} {bytes : ByteArray} {maxL : Nat} {rmy : Room} {postc : Option Value → fH → Prop} {pxc : String → fH → Prop} {ix : Nat} {b : Nat} {As : List Value} (hM : FM (kl K) (kD K) (kca K) y (.code y bytes maxL none) rmy (.ref b :: As) h postc pxc) (cw : CWI own ix y bytes maxL As.length) (hR : (Nat.ble (rmy.frames + 1) rm.frames && Nat.ble (8 + (maxL + 11) + rmy.locals) rm.locals) = true) (hroom : (Nat.ble (cells + rmy.cells) rm.cells && Nat.ble (slots + rmy.slots) rm.slots) = true) (hcat : (rest.map fun v => v.category).sum ≤ 8)
    (d : decode cc pc = .ok (.invokespecial ix, 3)) (hst : st = As.reverse ++ .ref b :: rest) (k : ∀ (v : Option Value) (h' : fH), postc v h' → J K h' lv (v.toList ++ rest) (pc + 3) (cells + rmy.cells) (slots + rmy.slots)) (kx : ∀ (E : String) (h' : fH), pxc E h' → JE K h' lv rest pc (cells + rmy.cells) (slots + rmy.slots) E) : J K h lv st pc cells slots := by
  refine J_call X (mc := rmy.cells) (ms := rmy.slots) (postc := postc) (pxc := pxc) (fun H locs ls hP hD hS hl => ⟨_, vx_runI (bytes := bytes) (maxL := maxL) (As := As) (rest := rest) (n := As.length) ⟨X.1, X.2.1, X.2.2.1, X.2.2.2.1, X.2.2.2.2.1⟩ (hM X.2.2.2.2.2.2.2.2.2.2.2.1 H.size) ⟨?_, cw.2.2.2.2.1, J.w X cw.2.1⟩ ⟨fPre_blind, fun U hU hW => ⟨rfl, J.pre X hP hD hS U hU hW⟩⟩ rfl rfl (by rw [← X.2.2.1]; exact hl.1) hst (lv_room hcat) d ?_⟩) k kx
  · rw [X.2.2.2.2.2.2.2.2.2.2.1]
    refine callB_of (Ts := w0 :: GW) As.length X.2.2.2.2.1 (gw_in fun w hw => ?_) rfl rfl rfl (J.w X cw.2.2.1) (J.w X cw.1) ⟨cw.2.2.2.2.2.1.1, cw.2.2.2.2.2.1.2, cw.2.2.2.2.2.2⟩ (J.hR2 hR)
    rcases List.mem_cons.mp hw with rfl | hw
    · exact cw.2.2.2.1
    · exact hw
  · rw [X.2.2.2.2.2.2.2.2.2.2.1]
    exact J.hR2 hroom
theorem J_callIN (X : JX K mn own cc n ret tb w0 rm h0 post px) {y : MethodName} {bytes : ByteArray} {maxL : Nat} {rmy : Room} {postc : Option Value → fH → Prop} {pxc : String → fH → Prop} {ix : Nat} {host : String} {b : Nat} {As : List Value} (hM : FM (kl K) (kD K) (kca K) y (.code y bytes maxL none) rmy (.ref b :: As) h postc pxc) (cw : CWIN own ix y host bytes maxL As.length) (hR : (Nat.ble (rmy.frames + 1) rm.frames && Nat.ble (8 + (maxL + 11) + rmy.locals) rm.locals) = true) (hroom : (Nat.ble (cells + rmy.cells) rm.cells && Nat.ble (slots + rmy.slots) rm.slots) = true) (hcat : (rest.map fun v => v.category).sum ≤ 8)
    (d : decode cc pc = .ok (.invokespecial ix, 3)) (hst : st = As.reverse ++ .ref b :: rest) (k : ∀ (v : Option Value) (h' : fH), postc v h' → J K h' lv (v.toList ++ rest) (pc + 3) (cells + rmy.cells) (slots + rmy.slots)) (kx : ∀ (E : String) (h' : fH), pxc E h' → JE K h' lv rest pc (cells + rmy.cells) (slots + rmy.slots) E) : J K h lv st pc cells slots := by
  refine J_call X (mc := rmy.cells) (ms := rmy.slots) (postc := postc) (pxc := pxc) (fun H locs ls hP hD hS hl => ⟨_, vx_runIN (host := host) (bytes := bytes) (maxL := maxL) (As := As) (rest := rest) (n := As.length) ⟨X.1, X.2.1, X.2.2.1, X.2.2.2.1, X.2.2.2.2.1⟩ (hM X.2.2.2.2.2.2.2.2.2.2.2.1 H.size) ⟨?_, cw.2.2.2.2.1, J.w X cw.2.1⟩ ⟨fPre_blind, fun U hU hW => ⟨rfl, J.pre X hP hD hS U hU hW⟩⟩ rfl rfl (by rw [← X.2.2.1]; exact hl.1) hst (lv_room hcat) d ?_⟩) k kx
  · rw [X.2.2.2.2.2.2.2.2.2.2.1]
    refine va_cnB (Ts := w0 :: GW) As.length X.2.2.2.2.1 (gw_in fun w hw => ?_) rfl rfl rfl (X.2.2.2.2.2.1.2.1 _ cw.1) (J.w X cw.2.2.1) ⟨cw.2.2.2.2.2.1.1, cw.2.2.2.2.2.1.2, cw.2.2.2.2.2.2⟩ (J.hR2 hR)
    rcases List.mem_cons.mp hw with rfl | hw
    · exact cw.2.2.2.1
    · exact hw
  · rw [X.2.2.2.2.2.2.2.2.2.2.1]
    exact J.hR2 hroom
/-! returns -/
theorem J.end' (X : JX K mn own cc n ret tb w0 rm h0 post px) {H : Heap} {locs : List Loc} {v : Option Value} (hp : post v h) (hP : fP (kD K) h H) (hD : ∀ q, h q ≠ none → kA K q) (hS : va_S (kA K) (ks K).heap H locs) (t : State) (ht : t.heap = H) : fQ (kD K) (kA K) post (ka K) (ks K) (.returned v) t :=
  ⟨⟨v, h, rfl, hp, by rw [ht]; exact hP, hD⟩, hS.F ht⟩
theorem J_iret (X : JX K mn own cc n ret tb w0 rm h0 post px) {v : Int32} (hr : ret = some .int) (hc : (Nat.ble cells rm.cells && Nat.ble slots rm.slots) = true) (hp : post (some (.int v)) h) (d : decode cc pc = .ok (.ireturn, 1)) : J K h lv [.int v] pc cells slots := fun H locs ls hP hD hS hl => by
  refine W.widen (J.hR2 hc).1 (J.hR2 hc).2 ?_
  rw [X.2.2.2.2.2.2.2.2.2.2.2.2.2.2.2]
  exact vx_ret (W.iret X.1 X.2.1 (X.2.2.2.2.2.2.2.2.1.trans hr) (fun t ht _ => J.end' X hp hP hD hS t ht) hS.2.2 d X.2.2.2.2.2.2.2.2.2.1)
theorem J_zret (X : JX K mn own cc n ret tb w0 rm h0 post px) {v : Int32} (hr : ret = some .boolean) (hz : v = 0 ∨ v = 1) (hc : (Nat.ble cells rm.cells && Nat.ble slots rm.slots) = true) (hp : post (some (.int v)) h) (d : decode cc pc = .ok (.ireturn, 1)) : J K h lv [.int v] pc cells slots := fun H locs ls hP hD hS hl => by
  refine W.widen (J.hR2 hc).1 (J.hR2 hc).2 ?_
  rw [X.2.2.2.2.2.2.2.2.2.2.2.2.2.2.2]
  exact vx_ret (W.zret X.1 X.2.1 (X.2.2.2.2.2.2.2.2.1.trans hr) (by rcases hz with rfl | rfl <;> rfl) (fun t ht _ => J.end' X hp hP hD hS t ht) hS.2.2 d X.2.2.2.2.2.2.2.2.2.1)
theorem J_lret (X : JX K mn own cc n ret tb w0 rm h0 post px) {v : Int64} (hr : ret = some .long) (hc : (Nat.ble cells rm.cells && Nat.ble slots rm.slots) = true) (hp : post (some (.long v)) h) (d : decode cc pc = .ok (.lreturn, 1)) : J K h lv [.long v] pc cells slots := fun H locs ls hP hD hS hl => by
  refine W.widen (J.hR2 hc).1 (J.hR2 hc).2 ?_
  rw [X.2.2.2.2.2.2.2.2.2.2.2.2.2.2.2]
  exact vx_ret (W.lret X.1 X.2.1 (X.2.2.2.2.2.2.2.2.1.trans hr) (fun t ht _ => J.end' X hp hP hD hS t ht) hS.2.2 d X.2.2.2.2.2.2.2.2.2.1)
theorem J_aret (X : JX K mn own cc n ret tb w0 rm h0 post px) {v : Nat} {rt : FieldType} (hr : ret = some rt) (hrt : (∃ n, rt = .object n) ∨ ∃ t, rt = .array t) (hc : (Nat.ble cells rm.cells && Nat.ble slots rm.slots) = true) (hp : post (some (.ref v)) h) (d : decode cc pc = .ok (.areturn, 1)) : J K h lv [.ref v] pc cells slots := fun H locs ls hP hD hS hl => by
  refine W.widen (J.hR2 hc).1 (J.hR2 hc).2 ?_
  rw [X.2.2.2.2.2.2.2.2.2.2.2.2.2.2.2]
  exact vx_ret (W.aret X.1 X.2.1 (X.2.2.2.2.2.2.2.2.1.trans hr) hrt (Or.inr ⟨v, rfl⟩) (fun t ht _ => J.end' X hp hP hD hS t ht) hS.2.2 d X.2.2.2.2.2.2.2.2.2.1)
theorem J_vret (X : JX K mn own cc n ret tb w0 rm h0 post px) (hr : ret = none) (hc : (Nat.ble cells rm.cells && Nat.ble slots rm.slots) = true) (hp : post none h) (d : decode cc pc = .ok (.return_, 1)) : J K h lv [] pc cells slots := fun H locs ls hP hD hS hl => by
  refine W.widen (J.hR2 hc).1 (J.hR2 hc).2 ?_
  rw [X.2.2.2.2.2.2.2.2.2.2.2.2.2.2.2]
  exact vx_ret (W.vret X.1 X.2.1 (X.2.2.2.2.2.2.2.2.1.trans hr) (fun t ht _ => J.end' X hp hP hD hS t ht) hS.2.2 d X.2.2.2.2.2.2.2.2.2.1)
def iMin (x y : Int32) : Int32 := if y < x then y else x
def iMax (x y : Int32) : Int32 := if x < y then y else x
def iAbs (x : Int32) : Int32 := if 0 ≤ x then x else 0 - x
/-! exceptions -/
theorem JE_out (X : JX K mn own cc n ret tb w0 rm h0 post px) {E : String} (htb : tb = []) (hc : (Nat.ble cells rm.cells && Nat.ble slots rm.slots) = true) (hp : px E h) : JE K h lv st pc cells slots E := fun H locs ls q ce hP hD hS hl h1 h2 h3 => by
  rw [X.2.2.2.2.2.2.2.2.2.2.2.2.2.2.2]
  refine vx_out (by rw [X.2.2.2.2.2.2.2.2.2.2.2.2.2.1, htb]; intro x hx; cases hx) X.2.2.2.2.2.2.2.2.2.1 h1 h2 h3 (fun t ht _ => ⟨⟨h, hp, by rw [ht]; exact hP, hD⟩, hS.F ht⟩) hS.2.2 (J.hR2 hc).1 (J.hR2 hc).2
/-- throw new E() -/
theorem J_throw0 (X : JX K mn own cc n ret tb w0 rm h0 post px) {cls : String} {names : List String} {ik ic : Nat} (htb : tb = []) (hcls : Bundle.fit cls = true) (hnames : ∀ n ∈ names, Bundle.fit n = true) (hk : Cond.classLink own ik cls ∈ GW) (hini : Cond.initialized cls ∈ GW)
    (hat : ∀ w ∈ vx_at0 own ic cls names, w ∈ GW ∨ w ∈ NWL)
    (d0 : decode cc pc = .ok (.new ik, 3)) (d3 : decode cc (pc + 3) = .ok (.dup, 1)) (d4 : decode cc (pc + 4) = .ok (.invokespecial ic, 3)) (d7 : decode cc (pc + 7) = .ok (.athrow, 1))
    (hRf : names.length + 3 < rm.frames) (hRl : (st.map fun v => v.category).sum + (13 * (names.length + 1) + 42) ≤ rm.locals) (hRc : cells + 1 ≤ rm.cells) (hRs : slots + 6 ≤ rm.slots) (hp : px cls h) : J K h lv st pc cells slots := fun H locs ls hP hD hS hl => by
  have hw : ∀ w ∈ vx_at0 own ic cls names, w.before (ka K) (ks K) = true := fun w hw => (hat w hw).elim (fun z => J.w X z) (fun z => va_Nw.use (NWL_tab z) (X.2.2.2.2.2.1.2.1 w z))
  have hg : ∀ w, w ∈ GW ∨ w ∈ NWL → vx_ot w = true := fun w hw => by
    unfold vx_ot
    rcases hw with z | z
    · rw [gw_good z, Bool.or_true]
    · rw [NWL_tab z, Bool.true_or]
  rw [X.2.2.2.2.2.2.2.2.2.2.2.2.2.2.2]
  refine vx_throw0 X.1 X.2.1 X.2.2.2.2.2.2.2.2.2.2.2.1 X.2.2.2.1 hcls hnames (J.w X hk) (J.w X hini) hw ?_ X.2.2.2.2.2.2.2.1.1 X.2.2.2.2.2.2.2.1.2.1 hS hl.1 d0 d3 d4 d7 (by rw [X.2.2.2.2.2.2.2.2.2.2.2.2.2.1, htb]; intro x hx; cases hx) (by rw [X.2.2.2.2.2.2.2.2.2.2.1]; exact hRf) (by rw [X.2.2.2.2.2.2.2.2.2.2.1]; exact hRl) (by rw [X.2.2.2.2.2.2.2.2.2.2.1]; exact hRc) (by rw [X.2.2.2.2.2.2.2.2.2.2.1]; exact hRs) X.2.2.2.2.2.2.2.2.2.1 ?_ hS.2.2 hRc hRs
  · intro w hw
    rcases List.mem_cons.mp hw with rfl | hw
    · exact hg _ (Or.inl hk)
    · rcases List.mem_cons.mp hw with rfl | hw
      · exact hg _ (Or.inl hini)
      · exact hg _ (hat w hw)
  · intro t _ hz ho
    exact ⟨⟨h, hp, hP.kept (fun a ha => ho a (hP.dom ha)), hD⟩, Nat.le_trans hS.1 hz, fun q h1 h2 => (ho q (Nat.lt_of_lt_of_le h1 hS.1)).trans (hS.2.1 q h1 h2)⟩
/-! Math -/
theorem J_mmax (X : JX K mn own cc n ret tb w0 rm h0 post px) {ix : Nat} {x y : Int32} (h1 : Cond.methodLink own ix Lib.Math.max.name ∈ GW) (h2 : Cond.static Lib.Math.max.name ∈ GW) (h3 : Cond.initialized "java/lang/Math" ∈ GW) (h4 : Cond.code Lib.Math.max.name Lib.Math.max.code 2 (some .int) ∈ GW) (hR : (Nat.ble 1 rm.frames && Nat.ble ((st.map fun v => v.category).sum + 13) rm.locals) = true) (hc : (Nat.ble cells rm.cells && Nat.ble slots rm.slots) = true) (d : decode cc pc = .ok (.invokestatic ix, 3))
    (k : J K h lv (.int (iMax x y) :: st) (pc + 3) cells slots) : J K h lv (.int y :: .int x :: st) pc cells slots := fun H locs ls hP hD hS hl =>
  va_mmax X.1 X.2.1 hl.1.symm X.2.2.2.1 (J.w X h1) (J.w X h2) (J.w X h3) (J.w X h4) (by rw [X.2.2.2.2.2.2.2.2.2.2.1]; exact (J.hR2 hR).1) (by rw [X.2.2.2.2.2.2.2.2.2.2.1]; exact (J.hR2 hR).2) (by rw [X.2.2.2.2.2.2.2.2.2.2.1]; exact (J.hR2 hc).1) (by rw [X.2.2.2.2.2.2.2.2.2.2.1]; exact (J.hR2 hc).2) d (k H locs ls hP hD hS hl)
theorem J_mmin (X : JX K mn own cc n ret tb w0 rm h0 post px) {ix : Nat} {x y : Int32} (h1 : Cond.methodLink own ix Lib.Math.min.name ∈ GW) (h2 : Cond.static Lib.Math.min.name ∈ GW) (h3 : Cond.initialized "java/lang/Math" ∈ GW) (h4 : Cond.code Lib.Math.min.name Lib.Math.min.code 2 (some .int) ∈ GW) (hR : (Nat.ble 1 rm.frames && Nat.ble ((st.map fun v => v.category).sum + 13) rm.locals) = true) (hc : (Nat.ble cells rm.cells && Nat.ble slots rm.slots) = true) (d : decode cc pc = .ok (.invokestatic ix, 3))
    (k : J K h lv (.int (iMin x y) :: st) (pc + 3) cells slots) : J K h lv (.int y :: .int x :: st) pc cells slots := fun H locs ls hP hD hS hl =>
  va_mmin X.1 X.2.1 hl.1.symm X.2.2.2.1 (J.w X h1) (J.w X h2) (J.w X h3) (J.w X h4) (by rw [X.2.2.2.2.2.2.2.2.2.2.1]; exact (J.hR2 hR).1) (by rw [X.2.2.2.2.2.2.2.2.2.2.1]; exact (J.hR2 hR).2) (by rw [X.2.2.2.2.2.2.2.2.2.2.1]; exact (J.hR2 hc).1) (by rw [X.2.2.2.2.2.2.2.2.2.2.1]; exact (J.hR2 hc).2) d (k H locs ls hP hD hS hl)
theorem J_mabs (X : JX K mn own cc n ret tb w0 rm h0 post px) {ix : Nat} {x : Int32} (h1 : Cond.methodLink own ix Lib.Math.abs.name ∈ GW) (h2 : Cond.static Lib.Math.abs.name ∈ GW) (h3 : Cond.initialized "java/lang/Math" ∈ GW) (h4 : Cond.code Lib.Math.abs.name Lib.Math.abs.code 1 (some .int) ∈ GW) (hR : (Nat.ble 1 rm.frames && Nat.ble ((st.map fun v => v.category).sum + 13) rm.locals) = true) (hc : (Nat.ble cells rm.cells && Nat.ble slots rm.slots) = true) (d : decode cc pc = .ok (.invokestatic ix, 3))
    (k : J K h lv (.int (iAbs x) :: st) (pc + 3) cells slots) : J K h lv (.int x :: st) pc cells slots := fun H locs ls hP hD hS hl =>
  va_mabs X.1 X.2.1 hl.1.symm X.2.2.2.1 (J.w X h1) (J.w X h2) (J.w X h3) (J.w X h4) (by rw [X.2.2.2.2.2.2.2.2.2.2.1]; exact (J.hR2 hR).1) (by rw [X.2.2.2.2.2.2.2.2.2.2.1]; exact (J.hR2 hR).2) (by rw [X.2.2.2.2.2.2.2.2.2.2.1]; exact (J.hR2 hc).1) (by rw [X.2.2.2.2.2.2.2.2.2.2.1]; exact (J.hR2 hc).2) d (k H locs ls hP hD hS hl)
/-- checkcast of an object of that very class -/
theorem J_cast (X : JX K mn own cc n ret tb w0 rm h0 post px) {ix a ci N : Nat} {C : String} {T : u_T} {fs : List Value} (he : h a = some (.inr (ci, fs))) (hc : vwCl[ci]? = some (C, T, N)) (hw : Cond.classLink own ix C ∈ GW) (d : decode cc pc = .ok (.checkcast ix, 3)) (k : J K h lv (.ref a :: st) (pc + 3) cells slots) : J K h lv (.ref a :: st) pc cells slots := fun H locs ls hP hD hS hl =>
  va_castS X.1 X.2.1 X.2.2.2.1 (J.w X hw) (X.2.2.2.2.2.1.1.1 ci _ hc).2 (va_recv X.2.2.2.2.2.1.1 (hP.one he) (q0 := 0) hc rfl) d (k H locs ls hP hD hS hl)
end JCALLS
