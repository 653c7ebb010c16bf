/-! ===== functional heaps: a method's world as a function from addresses to cells ===== -/
abbrev fH : Type := Nat → Option va_E
def fP (D : va_G) (h : fH) (H : Heap) : Prop := ∀ (a : Nat) (e : va_E), h a = some e → va_at D vwCl (a, e) H
def fA (h : fH) (sz : Nat) : Nat → Prop := fun q => h q ≠ none ∨ sz ≤ q
def fU (h : fH) (a : Nat) (e : va_E) : fH := fun q => if q = a then some e else h q
theorem fU_same (h : fH) (a : Nat) (e : va_E) : fU h a e a = some e := if_pos rfl
theorem fU_ne {h : fH} {a b : Nat} {e : va_E} (n : b ≠ a) : fU h a e b = h b := if_neg n
abbrev fRefs (f : Nat → Option Nat) : (Nat → Int32) ⊕ (Nat → Int64) ⊕ (Nat → UInt32) ⊕ (Nat → UInt64) ⊕ (Nat → Option Nat) := .inr (.inr (.inr (.inr f)))
def fT (ca : Nat → Nat) : List (ClassId × FieldType) := [(ca 0, .int), (ca 1, .boolean), (ca 2, .object "java/lang/Object")]
abbrev xIO : String := "java/lang/IndexOutOfBoundsException"
abbrev xIA : String := "java/lang/IllegalArgumentException"
abbrev xIS : String := "java/lang/IllegalStateException"
def NCL : List (String × String) := [(xIA, xIO), (xIS, xIO), (xIS, xIA)]
def fW (D : va_G) (ca : Nat → Nat) (U : State) : Prop := va_K D vwCl (fT ca) U ∧ (∀ w ∈ NWL, va_Nw w U) ∧ (∀ q ∈ NCL, va_Nc q.1 q.2 U) ∧ va_AO "java/lang/Object" U ∧ va_Mi "[Ljava/lang/Object;" (ca 5) U
def fE (D : va_G) (ca : Nat → Nat) (A : Nat → Prop) (U : State) (H : Heap) : Prop :=
  vx_Zq Bundle.tN "UNASSIGNED_STACK" Bundle.steD A U H ∧ vx_Zq Bundle.tN "SUPPRESSED_SENTINEL" Bundle.listD A U H ∧
  va_Z "java/util/ArrayList" "DEFAULTCAPACITY_EMPTY_ELEMENTDATA" "[Ljava/lang/Object;" (.ref (ca 4)) A U H ∧
  va_T (.object "java/lang/Object") (ca 4) 0 (fun _ => .null) A U H
theorem NWL_shape : ∀ w ∈ NWL, (∃ a i x h, w = .methodLinkNest a i x h) ∨ (∃ C T, w = .castable C T) ∨ ∃ x, w = .declares x := by
  unfold NWL
  simp
theorem NWL_tab {w : Cond} (hw : w ∈ NWL) : w.onTables = true := by
  rcases NWL_shape w hw with ⟨a, i, x, h, rfl⟩ | ⟨C, T, rfl⟩ | ⟨x, rfl⟩ <;> rfl
theorem fW.warm {D : va_G} {ca : Nat → Nat} {s U : State} (hW : s.WarmedH U.vm) (h : fW D ca s) : fW D ca U := by
  refine ⟨va_K.moved hW.alike h.1, fun w hw => ?_, fun q hq => (h.2.2.1 q hq).moved hW.alike, h.2.2.2.1.moved hW.alike, h.2.2.2.2.moved hW.alike⟩
  have h1 := h.2.1 w hw
  rcases NWL_shape w hw with ⟨a, i, x, g, rfl⟩ | ⟨C, T, rfl⟩ | ⟨x, rfl⟩
  · exact va_Nw.warmM hW h1
  · exact va_Nw.warmC hW h1
  · exact va_Nw.warmD hW h1
theorem fW.same {D : va_G} {ca : Nat → Nat} {u U : State} (hv : u.vm = U.vm) (h : fW D ca u) : fW D ca U := by
  have ha : u.vm.Alike U.vm := by rw [← hv]; exact Vm.Alike.refl u.vm
  exact ⟨va_K.moved ha h.1, fun w hw => va_Nw.same (NWL_tab hw) hv (h.2.1 w hw), fun q hq => (h.2.2.1 q hq).moved ha, h.2.2.2.1.moved ha, h.2.2.2.2.moved ha⟩
theorem fE.moved {D : va_G} {ca : Nat → Nat} {A : Nat → Prop} {u U : State} {H : Heap} (hv : u.vm.Alike U.vm) (h : fE D ca A u H) : fE D ca A U H :=
  ⟨h.1.moved hv, h.2.1.moved hv, h.2.2.1.moved hv, h.2.2.2.moved hv⟩
theorem fE.kept {D : va_G} {ca : Nat → Nat} {A : Nat → Prop} {U : State} {H H1 : Heap} (h : fE D ca A U H) (hq : ∀ a : Nat, a < H.size → ¬ A a → H1[a]? = H[a]?) : fE D ca A U H1 :=
  ⟨h.1.kept hq, h.2.1.kept hq, h.2.2.1.kept hq, h.2.2.2.kept hq⟩
theorem fE.narrow {D : va_G} {ca : Nat → Nat} {A B : Nat → Prop} {U : State} {H : Heap} (h : fE D ca A U H) (hAB : ∀ q, B q → A q) : fE D ca B U H :=
  ⟨h.1.narrow hAB, h.2.1.narrow hAB, h.2.2.1.narrow hAB, h.2.2.2.narrow hAB⟩
theorem fP.dom {D : va_G} {h : fH} {H : Heap} (hP : fP D h H) {a : Nat} (n : h a ≠ none) : a < H.size := by
  cases q : h a with
  | none => exact absurd q n
  | some e => exact (hP a e q).lt
theorem fP.kept {D : va_G} {h : fH} {H H1 : Heap} (hP : fP D h H) (hq : ∀ a : Nat, h a ≠ none → H1[a]? = H[a]?) : fP D h H1 :=
  fun a e q => (hP a e q).kept (hq a (by rw [q]; exact fun z => by cases z))
theorem fP.upd {D : va_G} {h : fH} {H H1 : Heap} {a : Nat} {e : va_E} (hP : fP D h H) (he : va_at D vwCl (a, e) H1) (hq : ∀ q : Nat, q ≠ a → q < H.size → H1[q]? = H[q]?) : fP D (fU h a e) H1 := by
  intro b x q
  by_cases hb : b = a
  · subst hb
    rw [fU_same] at q
    cases q
    exact he
  · rw [fU_ne hb] at q
    exact (hP b x q).kept (hq b hb (hP b x q).lt)
theorem fP.one {D : va_G} {h : fH} {H : Heap} (hP : fP D h H) {a : Nat} {e : va_E} (q : h a = some e) : va_P D vwCl [(a, e)] H := by
  intro k x hk
  have hz : k < 1 := (List.getElem?_eq_some_iff.mp hk).1
  rw [show k = 0 by omega] at hk
  cases hk
  exact hP a e q
theorem fD_one {A : Nat → Prop} {a : Nat} {e : va_E} (h : A a) : va_D A [(a, e)] := by
  refine ⟨fun i j x y hi hj _ => ?_, fun k x hk => ?_⟩
  · have h1 : i < 1 := (List.getElem?_eq_some_iff.mp hi).1
    have h2 : j < 1 := (List.getElem?_eq_some_iff.mp hj).1
    omega
  · have hz : k < 1 := (List.getElem?_eq_some_iff.mp hk).1
    rw [show k = 0 by omega] at hk
    cases hk
    exact h
theorem fU_dom {A : Nat → Prop} {h : fH} {a : Nat} {e : va_E} (hD : ∀ q, h q ≠ none → A q) (ha : A a) : ∀ q, fU h a e q ≠ none → A q := by
  intro q hq
  by_cases e1 : q = a
  · rw [e1]; exact ha
  · rw [fU_ne e1] at hq
    exact hD q hq
/-! the locals: a list by number, none where nothing is known -/
abbrev LV : Type := List (Option Value)
def lvA : Nat → LV → List (Nat × Value)
  | _, [] => []
  | i, none :: r => lvA (i + 1) r
  | i, some v :: r => (i, v) :: lvA (i + 1) r
theorem lvA_mem : ∀ {lv : LV} {b i : Nat} {v : Value}, (i, v) ∈ lvA b lv ↔ b ≤ i ∧ lv[i - b]? = some (some v)
  | [], b, i, v => by simp [lvA]
  | none :: r, b, i, v => by
    rw [lvA, lvA_mem (lv := r)]
    constructor
    · rintro ⟨h1, h2⟩
      refine ⟨by omega, ?_⟩
      rw [show i - b = (i - (b + 1)) + 1 by omega, List.getElem?_cons_succ]
      exact h2
    · rintro ⟨h1, h2⟩
      rcases Nat.eq_or_lt_of_le h1 with e | e
      · subst e
        rw [Nat.sub_self, List.getElem?_cons_zero] at h2
        cases h2
      · rw [show i - b = (i - (b + 1)) + 1 by omega, List.getElem?_cons_succ] at h2
        exact ⟨e, h2⟩
  | some w :: r, b, i, v => by
    rw [lvA, List.mem_cons, lvA_mem (lv := r)]
    constructor
    · rintro (h | ⟨h1, h2⟩)
      · cases h
        exact ⟨Nat.le_refl _, by rw [Nat.sub_self]; rfl⟩
      · refine ⟨by omega, ?_⟩
        rw [show i - b = (i - (b + 1)) + 1 by omega, List.getElem?_cons_succ]
        exact h2
    · rintro ⟨h1, h2⟩
      rcases Nat.eq_or_lt_of_le h1 with e | e
      · subst e
        rw [Nat.sub_self, List.getElem?_cons_zero] at h2
        cases h2
        exact Or.inl rfl
      · rw [show i - b = (i - (b + 1)) + 1 by omega, List.getElem?_cons_succ] at h2
        exact Or.inr ⟨e, h2⟩
theorem lv_some {ls : Array Slot} {n : Nat} {lv lv' : List (Nat × Value)} (h : lv_has ls n lv) (hs : ∀ q ∈ lv', q ∈ lv) : lv_has ls n lv' := ⟨h.1, h.2.1, fun q hq => h.2.2 q (hs q hq)⟩
theorem lvA_at {ls : Array Slot} {n : Nat} {lv : LV} (h : lv_has ls n (lvA 0 lv)) {i : Nat} {v : Value} (q : lv[i]? = some (some v)) : ls[i]? = some (.val v) :=
  h.2.2 (i, v) (lvA_mem.mpr ⟨Nat.zero_le _, by rw [Nat.sub_zero]; exact q⟩)
theorem lvA_place {lv : LV} {i : Nat} {v : Value} (q : lv[i]? = some (some v)) : ∃ k : Nat, (lvA 0 lv)[k]? = some (i, v) :=
  List.getElem?_of_mem (lvA_mem.mpr ⟨Nat.zero_le _, by rw [Nat.sub_zero]; exact q⟩)
/-- what stands ahead of a place isn't a long -/
def lvC : Option Value → Bool
  | some v => Nat.beq v.category 1
  | none => true
def lvP (lv : LV) (i : Nat) : Prop := ∀ j : Nat, j + 1 = i → ∀ o : Option Value, lv[j]? = some o → lvC o = true
theorem lvA_set {ls : Array Slot} {n : Nat} {lv : LV} {i : Nat} {v : Value} (hp : lvP lv i) (h : lv_has ls n ((i, v) :: (lvA 0 lv).filter (fun q => !(q.1 == i) && !(q.1 + 1 == i && q.2.category == 2)))) : lv_has ls n (lvA 0 (lv.set i (some v))) := by
  refine lv_some h ?_
  rintro ⟨j, w⟩ hq
  obtain ⟨-, hq⟩ := lvA_mem.mp hq
  rw [Nat.sub_zero] at hq
  by_cases e : j = i
  · subst e
    rw [List.getElem?_set] at hq
    split at hq
    · split at hq
      · cases hq
        exact List.mem_cons_self
      · cases hq
    · rename_i hne
      exact absurd rfl hne
  · rw [List.getElem?_set_ne (Ne.symm e)] at hq
    refine List.mem_cons_of_mem _ (List.mem_filter.mpr ⟨lvA_mem.mpr ⟨Nat.zero_le _, by rw [Nat.sub_zero]; exact hq⟩, ?_⟩)
    have h1 : (j == i) = false := beq_eq_false_iff_ne.mpr e
    by_cases e2 : j + 1 = i
    · have h2 := hp j e2 _ hq
      have h3 : w.category = 1 := Nat.eq_of_beq_eq_true h2
      simp [h1, h3]
    · have h2 : (j + 1 == i) = false := beq_eq_false_iff_ne.mpr e2
      simp [h1, h2]
theorem lvA_setL {ls : Array Slot} {n : Nat} {lv : LV} {i : Nat} {v : Value} (hp : lvP lv i) (h : lv_has ls n ((i, v) :: (lvA 0 lv).filter (fun q => !(q.1 == i) && (!(q.1 == i + 1) && !(q.1 + 1 == i && q.2.category == 2))))) : lv_has ls n (lvA 0 ((lv.set i (some v)).set (i + 1) none)) := by
  refine lv_some h ?_
  rintro ⟨j, w⟩ hq
  obtain ⟨-, hq⟩ := lvA_mem.mp hq
  rw [Nat.sub_zero] at hq
  by_cases e0 : j = i + 1
  · subst e0
    rw [List.getElem?_set] at hq
    split at hq
    · split at hq
      · cases hq
      · cases hq
    · rename_i hne
      exact absurd rfl hne
  rw [List.getElem?_set_ne (Ne.symm e0)] at hq
  by_cases e : j = i
  · subst e
    rw [List.getElem?_set] at hq
    split at hq
    · split at hq
      · cases hq
        exact List.mem_cons_self
      · cases hq
    · rename_i hne
      exact absurd rfl hne
  · rw [List.getElem?_set_ne (Ne.symm e)] at hq
    refine List.mem_cons_of_mem _ (List.mem_filter.mpr ⟨lvA_mem.mpr ⟨Nat.zero_le _, by rw [Nat.sub_zero]; exact hq⟩, ?_⟩)
    have h1 : (j == i) = false := beq_eq_false_iff_ne.mpr e
    have h0 : (j == i + 1) = false := beq_eq_false_iff_ne.mpr e0
    by_cases e2 : j + 1 = i
    · have h2 := hp j e2 _ hq
      have h3 : w.category = 1 := Nat.eq_of_beq_eq_true h2
      simp [h1, h0, h3]
    · have h2 : (j + 1 == i) = false := beq_eq_false_iff_ne.mpr e2
      simp [h1, h0, h2]
theorem lvP_0 {lv : LV} : lvP lv 0 := fun j h => by omega
theorem lvP_s {lv : LV} {j : Nat} {o : Option Value} (h : lv[j]? = some o) (hc : lvC o = true) : lvP lv (j + 1) := fun k hk q hq => by
  have : k = j := by omega
  subst this
  cases h.symm.trans hq
  exact hc
/-! the fixed things of a method's run, as one -/
abbrev KT : Type := Program × Launch × Env × Room × State × MethodId × Array Value × List Frame × Method × Code × va_G × (Nat → Nat) × (Nat → Prop) × (State → Prop)
abbrev kp (K : KT) : Program := K.1
abbrev kl (K : KT) : Launch := K.2.1
abbrev ke (K : KT) : Env := K.2.2.1
abbrev kR (K : KT) : Room := K.2.2.2.1
abbrev ks (K : KT) : State := K.2.2.2.2.1
abbrev km (K : KT) : MethodId := K.2.2.2.2.2.1
abbrev ka (K : KT) : Array Value := K.2.2.2.2.2.2.1
abbrev kb (K : KT) : List Frame := K.2.2.2.2.2.2.2.1
abbrev kmt (K : KT) : Method := K.2.2.2.2.2.2.2.2.1
abbrev kc (K : KT) : Code := K.2.2.2.2.2.2.2.2.2.1
abbrev kD (K : KT) : va_G := K.2.2.2.2.2.2.2.2.2.2.1
abbrev kca (K : KT) : Nat → Nat := K.2.2.2.2.2.2.2.2.2.2.2.1
abbrev kA (K : KT) : Nat → Prop := K.2.2.2.2.2.2.2.2.2.2.2.2.1
abbrev kQ (K : KT) : State → Prop := K.2.2.2.2.2.2.2.2.2.2.2.2.2
def J (K : KT) (h : fH) (lv : LV) (st : List Value) (pc cells slots : Nat) : Prop :=
  ∀ (H : Heap) (locs : List Loc) (ls : Array Slot), fP (kD K) h H → (∀ q, h q ≠ none → kA K q) → va_S (kA K) (ks K).heap H locs → lv_has ls (kc K).maxLocals (lvA 0 lv) →
    W (kp K) (kl K) (ke K) (kR K) (ks K) (km K) (ka K) (kb K) (kmt K) (kc K) H locs cells slots (kQ K) (F0 (km K) pc ls st)
/-- an exception of class E has come to pc -/
def JE (K : KT) (h : fH) (lv : LV) (st : List Value) (pc cells slots : Nat) (E : String) : Prop :=
  ∀ (H : Heap) (locs : List Loc) (ls : Array Slot) (q : Addr) (ce : Cell), fP (kD K) h H → (∀ q, h q ≠ none → kA K q) → va_S (kA K) (ks K).heap H locs → lv_has ls (kc K).maxLocals (lvA 0 lv) → H[q]? = some ce → ce.vm = .none → (ks K).vm.findClass E = some ce.cls →
    vx_W (kp K) (kl K) (ke K) (kR K) (ks K) (km K) (ka K) (kb K) (kmt K) (kc K) H locs cells slots (kQ K) (F0 (km K) pc ls st) q
def fQ (D : va_G) (A : Nat → Prop) (post : Option Value → fH → Prop) : Array Value → State → Outcome → State → Prop := fun _ st o t =>
  (∃ (v : Option Value) (h' : fH), o = .returned v ∧ post v h' ∧ fP D h' t.heap ∧ ∀ q, h' q ≠ none → A q) ∧ va_F A st t
def fX (D : va_G) (A : Nat → Prop) (px : String → fH → Prop) : String → State → State → Prop := fun E st t =>
  (∃ h' : fH, px E h' ∧ fP D h' t.heap ∧ ∀ q, h' q ≠ none → A q) ∧ va_F A st t
def fPre (D : va_G) (ca : Nat → Nat) (h : fH) (sz : Nat) (U : State) : Prop := U.heap.size = sz ∧ fP D h U.heap ∧ fW D ca U ∧ fE D ca (fA h sz) U U.heap
/-- A CONTRACT: from every state whose heap holds h, the method called with av returns v with the heap h' so that post v h', or throws an E with h' so that px E h' -/
def FM (l : Launch) (D : va_G) (ca : Nat → Nat) (y : MethodName) (w0 : Cond) (rm : Room) (av : List Value) (h : fH) (post : Option Value → fH → Prop) (px : String → fH → Prop) : Prop :=
  l.stackTraces = false → ∀ sz : Nat, vx_Met l y (w0 :: GW) rm (va_Pc av (fPre D ca h sz)) (fQ D (fA h sz) post) (fX D (fA h sz) px) rm.cells rm.slots (fA h sz)
abbrev noX : String → fH → Prop := fun _ _ => False
def JX (K : KT) (mn own : String) (cc : ByteArray) (n : Nat) (ret : Option FieldType) (tb : List ExceptionTableEntry) (w0 : Cond) (rm : Room) (h0 : fH) (post : Option Value → fH → Prop) (px : String → fH → Prop) : Prop :=
  (kp K).tables.exec = Jvm.exec ∧ (kc K).code = cc ∧ (kc K).maxLocals = n ∧ (ks K).vm.findClass own = some (km K).cls ∧ (∀ w ∈ w0 :: GW, w.before (ka K) (ks K) = true) ∧ fW (kD K) (kca K) (ks K) ∧ (∀ q, (ks K).heap.size ≤ q → kA K q) ∧
  fE (kD K) (kca K) (kA K) (ks K) (ks K).heap ∧ (kmt K).sig.returnType = ret ∧ (kmt K).locks = false ∧ kR K = rm ∧ (kl K).stackTraces = false ∧ (kmt K).name = mn ∧ (kc K).exceptionTable.toList = tb ∧
  kA K = fA h0 (ks K).heap.size ∧ kQ K = vx_MQ (kb K) (fQ (kD K) (kA K) post) (fX (kD K) (kA K) px) (ka K) (ks K) rm.cells rm.slots (kA K)
theorem FM.of {l : Launch} {D : va_G} {ca : Nat → Nat} {y : MethodName} {cc : ByteArray} {n : Nat} {ret : Option FieldType} {rm : Room} {av : List Value} {h : fH} {post : Option Value → fH → Prop} {px : String → fH → Prop} (lv0 : LV) (hy : plainName y.cls = true) (hn : (lg_sl av).length ≤ n) (hlv : lvA 0 lv0 = lv_args 0 av)
    (body : ∀ K : KT, JX K y.name y.cls cc n ret [] (Cond.code y cc n ret) rm h post px → kl K = l → kD K = D → kca K = ca → J K h lv0 [] 0 0 0) : FM l D ca y (.code y cc n ret) rm av h post px := by
  intro hl sz
  refine vx_ofW (cc := cc) (maxL := n) (ret := ret) hy rfl ?_
  intro p e s m args below meth c s₁ B hml htab hv
  obtain ⟨rfl, hsz, hP, hW, hE⟩ := hv
  subst hsz
  have htb : c.exceptionTable.toList = [] := List.eq_nil_iff_forall_not_mem.mpr htab
  have key := body (p, l, e, rm, s, m, av.toArray, below, meth, c, D, ca, fA h s.heap.size, vx_MQ below (fQ D (fA h s.heap.size) post) (fX D (fA h s.heap.size) px) av.toArray s rm.cells rm.slots (fA h s.heap.size))
    ⟨B.exec, B.bytes, hml, findClass_of_methodNamed B.named, atoms_spec (ws := Cond.code y cc n ret :: GW) B.pre, hW, fun q hq => Or.inr hq, hE, B.returns, B.notSynchronized, rfl, hl, (name_of_methodNamed B.named B.method).1, htb, rfl, rfl⟩ rfl rfl rfl
  rw [lg_entry_eq]
  exact key s.heap [] _ hP (fun q hq => Or.inl hq) va_S.rf (by show lv_has _ c.maxLocals _; rw [hml, hlv]; exact lv_entry av hn)
theorem FM.ofH {l : Launch} {D : va_G} {ca : Nat → Nat} {y : MethodName} {cc : ByteArray} {n : Nat} {ret : Option FieldType} {hh : List (Nat × Nat × Nat × Nat)} {rm : Room} {av : List Value} {h : fH} {post : Option Value → fH → Prop} {px : String → fH → Prop} (lv0 : LV) (hy : plainName y.cls = true) (hn : (lg_sl av).length ≤ n) (hlv : lvA 0 lv0 = lv_args 0 av)
    (body : ∀ K : KT, JX K y.name y.cls cc n ret (tableOf hh) (Cond.codeWith y cc n ret hh) rm h post px → kl K = l → kD K = D → kca K = ca → J K h lv0 [] 0 0 0) : FM l D ca y (.codeWith y cc n ret hh) rm av h post px := by
  intro hl sz
  refine vx_ofWH (cc := cc) (maxL := n) (ret := ret) (hh := hh) hy rfl ?_
  intro p e s m args below meth c s₁ B hml hv
  obtain ⟨rfl, hsz, hP, hW, hE⟩ := hv
  subst hsz
  have hts := atoms_spec (ws := Cond.codeWith y cc n ret hh :: GW) B.pre
  have htb : c.exceptionTable.toList = tableOf hh := vx_table (x := y) B (hts _ List.mem_cons_self)
  have key := body (p, l, e, rm, s, m, av.toArray, below, meth, c, D, ca, fA h s.heap.size, vx_MQ below (fQ D (fA h s.heap.size) post) (fX D (fA h s.heap.size) px) av.toArray s rm.cells rm.slots (fA h s.heap.size))
    ⟨B.exec, B.bytes, hml, findClass_of_methodNamed B.named, hts, hW, fun q hq => Or.inr hq, hE, B.returns, B.notSynchronized, rfl, hl, (name_of_methodNamed B.named B.method).1, htb, rfl, rfl⟩ rfl rfl rfl
  rw [lg_entry_eq]
  exact key s.heap [] _ hP (fun q hq => Or.inl hq) va_S.rf (by show lv_has _ c.maxLocals _; rw [hml, hlv]; exact lv_entry av hn)
section JROWS
variable {K : KT} {mn own : String} {cc : ByteArray} {n : Nat} {ret : Option FieldType} {tb : List ExceptionTableEntry} {w0 : Cond} {rm : Room} {h0 : fH} {post : Option Value → fH → Prop} {px : String → fH → Prop}
variable {h : fH} {lv lv' : LV} {st rest : List Value} {pc cells slots : Nat}
theorem J.w (X : JX K mn own cc n ret tb w0 rm h0 post px) {w : Cond} (hw : w ∈ GW) : w.before (ka K) (ks K) = true := X.2.2.2.2.1 w (List.mem_cons_of_mem _ hw)
theorem J.tw (X : JX K mn own cc n ret tb w0 rm h0 post px) : ∀ w ∈ GW, w.before (ka K) (ks K) = true := fun _ hw => J.w X hw
/-- fewer locals -/
theorem J.sub (hs : ∀ (i : Nat) (v : Value), lv'[i]? = some (some v) → lv[i]? = some (some v)) (k : J K h lv' st pc cells slots) : J K h lv st pc cells slots :=
  fun H locs ls hP hD hS hl => k H locs ls hP hD hS (lv_some hl fun q hq => by
    obtain ⟨i, v⟩ := q
    obtain ⟨h1, h2⟩ := lvA_mem.mp hq
    exact lvA_mem.mpr ⟨h1, hs _ _ h2⟩)
/-- a list that knows less -/
def lvLe : LV → LV → Prop
  | [], _ => True
  | none :: r', _ :: r => lvLe r' r
  | some v :: r', o :: r => o = some v ∧ lvLe r' r
  | _ :: _, [] => False
theorem lvLe_at : ∀ {a b : LV}, lvLe a b → ∀ (i : Nat) (v : Value), a[i]? = some (some v) → b[i]? = some (some v)
  | [], _, _, i, v, h => by simp at h
  | none :: r', o :: r, q, i, v, h => by
    cases i with
    | zero => rw [List.getElem?_cons_zero] at h; cases h
    | succ i =>
      rw [List.getElem?_cons_succ] at h ⊢
      exact lvLe_at (a := r') (b := r) q i v h
  | some w :: r', o :: r, q, i, v, h => by
    cases i with
    | zero =>
      rw [List.getElem?_cons_zero] at h ⊢
      cases h
      rw [q.1]
    | succ i =>
      rw [List.getElem?_cons_succ] at h ⊢
      exact lvLe_at (a := r') (b := r) q.2 i v h
  | none :: _, [], q, _, _, _ => q.elim
  | some _ :: _, [], q, _, _, _ => q.elim
theorem J.subL (hs : lvLe lv' lv) (k : J K h lv' st pc cells slots) : J K h lv st pc cells slots := J.sub (lvLe_at hs) k
theorem J.widen {k j : Nat} (h1 : cells ≤ k) (h2 : slots ≤ j) (kk : J K h lv st pc k j) : J K h lv st pc cells slots :=
  fun H locs ls hP hD hS hl => W.widen h1 h2 (kk H locs ls hP hD hS hl)
theorem J_iconst (X : JX K mn own cc n ret tb w0 rm h0 post px) {i : Int} {v : Int32} (d : decode cc pc = .ok (.iconst i, 1)) (hv : Int32.ofInt i = v) (k : J K h lv (.int v :: st) (pc + 1) cells slots) : J K h lv st pc cells slots := fun H locs ls hP hD hS hl => lv_iconst X.1 X.2.1 d hv (k H locs ls hP hD hS hl)
theorem J_bipush (X : JX K mn own cc n ret tb w0 rm h0 post px) {i : Int} {v : Int32} (d : decode cc pc = .ok (.bipush i, 2)) (hv : (Int8.ofInt i).toInt32 = v) (k : J K h lv (.int v :: st) (pc + 2) cells slots) : J K h lv st pc cells slots := fun H locs ls hP hD hS hl => lv_bipush X.1 X.2.1 d hv (k H locs ls hP hD hS hl)
theorem J_sipush (X : JX K mn own cc n ret tb w0 rm h0 post px) {i : Int} {v : Int32} (d : decode cc pc = .ok (.sipush i, 3)) (hv : (Int16.ofInt i).toInt32 = v) (k : J K h lv (.int v :: st) (pc + 3) cells slots) : J K h lv st pc cells slots := fun H locs ls hP hD hS hl => lv_sipush X.1 X.2.1 d hv (k H locs ls hP hD hS hl)
theorem J_lconst (X : JX K mn own cc n ret tb w0 rm h0 post px) {i : Fin 2} {v : Int64} (d : decode cc pc = .ok (.lconst i, 1)) (hv : Int64.ofNat (i : Nat) = v) (k : J K h lv (.long v :: st) (pc + 1) cells slots) : J K h lv st pc cells slots := fun H locs ls hP hD hS hl => lv_lconst X.1 X.2.1 d hv (k H locs ls hP hD hS hl)
theorem J_null (X : JX K mn own cc n ret tb w0 rm h0 post px)  (d : decode cc pc = .ok (.aconst_null, 1))  (k : J K h lv (.null :: st) (pc + 1) cells slots) : J K h lv st pc cells slots := fun H locs ls hP hD hS hl => lv_null X.1 X.2.1 d (k H locs ls hP hD hS hl)
theorem J_iload_0 (X : JX K mn own cc n ret tb w0 rm h0 post px) {r : LV} {x : Int32} (d : decode cc pc = .ok (.iload_n 0, 1))  (k : J K h (some (.int x) :: r) (.int x :: st) (pc + 1) cells slots) : J K h (some (.int x) :: r) st pc cells slots := fun H locs ls hP hD hS hl => lv_iload_n X.1 X.2.1 d rfl (lvA_at hl rfl) (k H locs ls hP hD hS hl)
theorem J_lload_0 (X : JX K mn own cc n ret tb w0 rm h0 post px) {r : LV} {x : Int64} (d : decode cc pc = .ok (.lload_n 0, 1))  (k : J K h (some (.long x) :: r) (.long x :: st) (pc + 1) cells slots) : J K h (some (.long x) :: r) st pc cells slots := fun H locs ls hP hD hS hl => lv_lload_n X.1 X.2.1 d rfl (lvA_at hl rfl) (k H locs ls hP hD hS hl)
theorem J_aload_0 (X : JX K mn own cc n ret tb w0 rm h0 post px) {r : LV} {x : Nat} (d : decode cc pc = .ok (.aload_n 0, 1))  (k : J K h (some (.ref x) :: r) (.ref x :: st) (pc + 1) cells slots) : J K h (some (.ref x) :: r) st pc cells slots := fun H locs ls hP hD hS hl => lv_aload_n X.1 X.2.1 d rfl (lvA_at hl rfl) (k H locs ls hP hD hS hl)
theorem J_istore_0 (X : JX K mn own cc n ret tb w0 rm h0 post px) {r : LV} {o : Option Value} {x : Int32} (d : decode cc pc = .ok (.istore_n 0, 1))  (hn : 0 < n) (k : J K h (some (.int x) :: r) st (pc + 1) cells slots) : J K h (o :: r) (.int x :: st) pc cells slots := fun H locs ls hP hD hS hl => lv_istore_n X.1 X.2.1 d rfl hl (by rw [X.2.2.1]; exact hn) rfl (fun ls hl => k H locs ls hP hD hS (lvA_set lvP_0 hl))
theorem J_astore_0 (X : JX K mn own cc n ret tb w0 rm h0 post px) {r : LV} {o : Option Value} {x : Nat} (d : decode cc pc = .ok (.astore_n 0, 1))  (hn : 0 < n) (k : J K h (some (.ref x) :: r) st (pc + 1) cells slots) : J K h (o :: r) (.ref x :: st) pc cells slots := fun H locs ls hP hD hS hl => lv_astore_n X.1 X.2.1 d rfl hl (by rw [X.2.2.1]; exact hn) rfl (fun ls hl => k H locs ls hP hD hS (lvA_set lvP_0 hl))
theorem J_lstore_0 (X : JX K mn own cc n ret tb w0 rm h0 post px) {r : LV} {o : Option Value} {o2 : Option Value} {x : Int64} (d : decode cc pc = .ok (.lstore_n 0, 1))  (hn : 0 + 1 < n) (k : J K h (some (.long x) :: none :: r) st (pc + 1) cells slots) : J K h (o :: o2 :: r) (.long x :: st) pc cells slots := fun H locs ls hP hD hS hl => lv_lstore_n X.1 X.2.1 d rfl hl (by rw [X.2.2.1]; exact hn) rfl (fun ls hl => k H locs ls hP hD hS (lvA_setL lvP_0 hl))
theorem J_iinc_0 (X : JX K mn own cc n ret tb w0 rm h0 post px) {r : LV} {z : Int} {x v : Int32} (d : decode cc pc = .ok (.iinc 0 z, 3)) (hv : x + Int32.ofInt z = v)  (hn : 0 < n) (k : J K h (some (.int v) :: r) st (pc + 3) cells slots) : J K h (some (.int x) :: r) st pc cells slots := by
  obtain ⟨j, hj⟩ := lvA_place (lv := (some (.int x) :: r)) (i := 0) (v := .int x) rfl
  exact fun H locs ls hP hD hS hl => lv_iinc X.1 X.2.1 d hl hj hv (by rw [X.2.2.1]; exact hn) rfl (fun ls hl => k H locs ls hP hD hS (lvA_set lvP_0 hl))
theorem J_iload_1 (X : JX K mn own cc n ret tb w0 rm h0 post px) {a0 : Option Value} {r : LV} {x : Int32} (d : decode cc pc = .ok (.iload_n 1, 1))  (k : J K h (a0 :: some (.int x) :: r) (.int x :: st) (pc + 1) cells slots) : J K h (a0 :: some (.int x) :: r) st pc cells slots := fun H locs ls hP hD hS hl => lv_iload_n X.1 X.2.1 d rfl (lvA_at hl rfl) (k H locs ls hP hD hS hl)
theorem J_lload_1 (X : JX K mn own cc n ret tb w0 rm h0 post px) {a0 : Option Value} {r : LV} {x : Int64} (d : decode cc pc = .ok (.lload_n 1, 1))  (k : J K h (a0 :: some (.long x) :: r) (.long x :: st) (pc + 1) cells slots) : J K h (a0 :: some (.long x) :: r) st pc cells slots := fun H locs ls hP hD hS hl => lv_lload_n X.1 X.2.1 d rfl (lvA_at hl rfl) (k H locs ls hP hD hS hl)
theorem J_aload_1 (X : JX K mn own cc n ret tb w0 rm h0 post px) {a0 : Option Value} {r : LV} {x : Nat} (d : decode cc pc = .ok (.aload_n 1, 1))  (k : J K h (a0 :: some (.ref x) :: r) (.ref x :: st) (pc + 1) cells slots) : J K h (a0 :: some (.ref x) :: r) st pc cells slots := fun H locs ls hP hD hS hl => lv_aload_n X.1 X.2.1 d rfl (lvA_at hl rfl) (k H locs ls hP hD hS hl)
theorem J_istore_1 (X : JX K mn own cc n ret tb w0 rm h0 post px) {a0 : Option Value} {r : LV} {o : Option Value} {x : Int32} (d : decode cc pc = .ok (.istore_n 1, 1)) (hc : lvC a0 = true) (hn : 1 < n) (k : J K h (a0 :: some (.int x) :: r) st (pc + 1) cells slots) : J K h (a0 :: o :: r) (.int x :: st) pc cells slots := fun H locs ls hP hD hS hl => lv_istore_n X.1 X.2.1 d rfl hl (by rw [X.2.2.1]; exact hn) rfl (fun ls hl => k H locs ls hP hD hS (lvA_set (lvP_s (j := 0) rfl hc) hl))
theorem J_astore_1 (X : JX K mn own cc n ret tb w0 rm h0 post px) {a0 : Option Value} {r : LV} {o : Option Value} {x : Nat} (d : decode cc pc = .ok (.astore_n 1, 1)) (hc : lvC a0 = true) (hn : 1 < n) (k : J K h (a0 :: some (.ref x) :: r) st (pc + 1) cells slots) : J K h (a0 :: o :: r) (.ref x :: st) pc cells slots := fun H locs ls hP hD hS hl => lv_astore_n X.1 X.2.1 d rfl hl (by rw [X.2.2.1]; exact hn) rfl (fun ls hl => k H locs ls hP hD hS (lvA_set (lvP_s (j := 0) rfl hc) hl))
theorem J_lstore_1 (X : JX K mn own cc n ret tb w0 rm h0 post px) {a0 : Option Value} {r : LV} {o : Option Value} {o2 : Option Value} {x : Int64} (d : decode cc pc = .ok (.lstore_n 1, 1)) (hc : lvC a0 = true) (hn : 1 + 1 < n) (k : J K h (a0 :: some (.long x) :: none :: r) st (pc + 1) cells slots) : J K h (a0 :: o :: o2 :: r) (.long x :: st) pc cells slots := fun H locs ls hP hD hS hl => lv_lstore_n X.1 X.2.1 d rfl hl (by rw [X.2.2.1]; exact hn) rfl (fun ls hl => k H locs ls hP hD hS (lvA_setL (lvP_s (j := 0) rfl hc) hl))
theorem J_iinc_1 (X : JX K mn own cc n ret tb w0 rm h0 post px) {a0 : Option Value} {r : LV} {z : Int} {x v : Int32} (d : decode cc pc = .ok (.iinc 1 z, 3)) (hv : x + Int32.ofInt z = v) (hc : lvC a0 = true) (hn : 1 < n) (k : J K h (a0 :: some (.int v) :: r) st (pc + 3) cells slots) : J K h (a0 :: some (.int x) :: r) st pc cells slots := by
  obtain ⟨j, hj⟩ := lvA_place (lv := (a0 :: some (.int x) :: r)) (i := 1) (v := .int x) rfl
  exact fun H locs ls hP hD hS hl => lv_iinc X.1 X.2.1 d hl hj hv (by rw [X.2.2.1]; exact hn) rfl (fun ls hl => k H locs ls hP hD hS (lvA_set (lvP_s (j := 0) rfl hc) hl))
theorem J_iload_2 (X : JX K mn own cc n ret tb w0 rm h0 post px) {a0 a1 : Option Value} {r : LV} {x : Int32} (d : decode cc pc = .ok (.iload_n 2, 1))  (k : J K h (a0 :: a1 :: some (.int x) :: r) (.int x :: st) (pc + 1) cells slots) : J K h (a0 :: a1 :: some (.int x) :: r) st pc cells slots := fun H locs ls hP hD hS hl => lv_iload_n X.1 X.2.1 d rfl (lvA_at hl rfl) (k H locs ls hP hD hS hl)
theorem J_lload_2 (X : JX K mn own cc n ret tb w0 rm h0 post px) {a0 a1 : Option Value} {r : LV} {x : Int64} (d : decode cc pc = .ok (.lload_n 2, 1))  (k : J K h (a0 :: a1 :: some (.long x) :: r) (.long x :: st) (pc + 1) cells slots) : J K h (a0 :: a1 :: some (.long x) :: r) st pc cells slots := fun H locs ls hP hD hS hl => lv_lload_n X.1 X.2.1 d rfl (lvA_at hl rfl) (k H locs ls hP hD hS hl)
theorem J_aload_2 (X : JX K mn own cc n ret tb w0 rm h0 post px) {a0 a1 : Option Value} {r : LV} {x : Nat} (d : decode cc pc = .ok (.aload_n 2, 1))  (k : J K h (a0 :: a1 :: some (.ref x) :: r) (.ref x :: st) (pc + 1) cells slots) : J K h (a0 :: a1 :: some (.ref x) :: r) st pc cells slots := fun H locs ls hP hD hS hl => lv_aload_n X.1 X.2.1 d rfl (lvA_at hl rfl) (k H locs ls hP hD hS hl)
theorem J_istore_2 (X : JX K mn own cc n ret tb w0 rm h0 post px) {a0 a1 : Option Value} {r : LV} {o : Option Value} {x : Int32} (d : decode cc pc = .ok (.istore_n 2, 1)) (hc : lvC a1 = true) (hn : 2 < n) (k : J K h (a0 :: a1 :: some (.int x) :: r) st (pc + 1) cells slots) : J K h (a0 :: a1 :: o :: r) (.int x :: st) pc cells slots := fun H locs ls hP hD hS hl => lv_istore_n X.1 X.2.1 d rfl hl (by rw [X.2.2.1]; exact hn) rfl (fun ls hl => k H locs ls hP hD hS (lvA_set (lvP_s (j := 1) rfl hc) hl))
theorem J_astore_2 (X : JX K mn own cc n ret tb w0 rm h0 post px) {a0 a1 : Option Value} {r : LV} {o : Option Value} {x : Nat} (d : decode cc pc = .ok (.astore_n 2, 1)) (hc : lvC a1 = true) (hn : 2 < n) (k : J K h (a0 :: a1 :: some (.ref x) :: r) st (pc + 1) cells slots) : J K h (a0 :: a1 :: o :: r) (.ref x :: st) pc cells slots := fun H locs ls hP hD hS hl => lv_astore_n X.1 X.2.1 d rfl hl (by rw [X.2.2.1]; exact hn) rfl (fun ls hl => k H locs ls hP hD hS (lvA_set (lvP_s (j := 1) rfl hc) hl))
theorem J_lstore_2 (X : JX K mn own cc n ret tb w0 rm h0 post px) {a0 a1 : Option Value} {r : LV} {o : Option Value} {o2 : Option Value} {x : Int64} (d : decode cc pc = .ok (.lstore_n 2, 1)) (hc : lvC a1 = true) (hn : 2 + 1 < n) (k : J K h (a0 :: a1 :: some (.long x) :: none :: r) st (pc + 1) cells slots) : J K h (a0 :: a1 :: o :: o2 :: r) (.long x :: st) pc cells slots := fun H locs ls hP hD hS hl => lv_lstore_n X.1 X.2.1 d rfl hl (by rw [X.2.2.1]; exact hn) rfl (fun ls hl => k H locs ls hP hD hS (lvA_setL (lvP_s (j := 1) rfl hc) hl))
theorem J_iinc_2 (X : JX K mn own cc n ret tb w0 rm h0 post px) {a0 a1 : Option Value} {r : LV} {z : Int} {x v : Int32} (d : decode cc pc = .ok (.iinc 2 z, 3)) (hv : x + Int32.ofInt z = v) (hc : lvC a1 = true) (hn : 2 < n) (k : J K h (a0 :: a1 :: some (.int v) :: r) st (pc + 3) cells slots) : J K h (a0 :: a1 :: some (.int x) :: r) st pc cells slots := by
  obtain ⟨j, hj⟩ := lvA_place (lv := (a0 :: a1 :: some (.int x) :: r)) (i := 2) (v := .int x) rfl
  exact fun H locs ls hP hD hS hl => lv_iinc X.1 X.2.1 d hl hj hv (by rw [X.2.2.1]; exact hn) rfl (fun ls hl => k H locs ls hP hD hS (lvA_set (lvP_s (j := 1) rfl hc) hl))
theorem J_iload_3 (X : JX K mn own cc n ret tb w0 rm h0 post px) {a0 a1 a2 : Option Value} {r : LV} {x : Int32} (d : decode cc pc = .ok (.iload_n 3, 1))  (k : J K h (a0 :: a1 :: a2 :: some (.int x) :: r) (.int x :: st) (pc + 1) cells slots) : J K h (a0 :: a1 :: a2 :: some (.int x) :: r) st pc cells slots := fun H locs ls hP hD hS hl => lv_iload_n X.1 X.2.1 d rfl (lvA_at hl rfl) (k H locs ls hP hD hS hl)
theorem J_lload_3 (X : JX K mn own cc n ret tb w0 rm h0 post px) {a0 a1 a2 : Option Value} {r : LV} {x : Int64} (d : decode cc pc = .ok (.lload_n 3, 1))  (k : J K h (a0 :: a1 :: a2 :: some (.long x) :: r) (.long x :: st) (pc + 1) cells slots) : J K h (a0 :: a1 :: a2 :: some (.long x) :: r) st pc cells slots := fun H locs ls hP hD hS hl => lv_lload_n X.1 X.2.1 d rfl (lvA_at hl rfl) (k H locs ls hP hD hS hl)
theorem J_aload_3 (X : JX K mn own cc n ret tb w0 rm h0 post px) {a0 a1 a2 : Option Value} {r : LV} {x : Nat} (d : decode cc pc = .ok (.aload_n 3, 1))  (k : J K h (a0 :: a1 :: a2 :: some (.ref x) :: r) (.ref x :: st) (pc + 1) cells slots) : J K h (a0 :: a1 :: a2 :: some (.ref x) :: r) st pc cells slots := fun H locs ls hP hD hS hl => lv_aload_n X.1 X.2.1 d rfl (lvA_at hl rfl) (k H locs ls hP hD hS hl)
theorem J_istore_3 (X : JX K mn own cc n ret tb w0 rm h0 post px) {a0 a1 a2 : Option Value} {r : LV} {o : Option Value} {x : Int32} (d : decode cc pc = .ok (.istore_n 3, 1)) (hc : lvC a2 = true) (hn : 3 < n) (k : J K h (a0 :: a1 :: a2 :: some (.int x) :: r) st (pc + 1) cells slots) : J K h (a0 :: a1 :: a2 :: o :: r) (.int x :: st) pc cells slots := fun H locs ls hP hD hS hl => lv_istore_n X.1 X.2.1 d rfl hl (by rw [X.2.2.1]; exact hn) rfl (fun ls hl => k H locs ls hP hD hS (lvA_set (lvP_s (j := 2) rfl hc) hl))
theorem J_astore_3 (X : JX K mn own cc n ret tb w0 rm h0 post px) {a0 a1 a2 : Option Value} {r : LV} {o : Option Value} {x : Nat} (d : decode cc pc = .ok (.astore_n 3, 1)) (hc : lvC a2 = true) (hn : 3 < n) (k : J K h (a0 :: a1 :: a2 :: some (.ref x) :: r) st (pc + 1) cells slots) : J K h (a0 :: a1 :: a2 :: o :: r) (.ref x :: st) pc cells slots := fun H locs ls hP hD hS hl => lv_astore_n X.1 X.2.1 d rfl hl (by rw [X.2.2.1]; exact hn) rfl (fun ls hl => k H locs ls hP hD hS (lvA_set (lvP_s (j := 2) rfl hc) hl))
theorem J_lstore_3 (X : JX K mn own cc n ret tb w0 rm h0 post px) {a0 a1 a2 : Option Value} {r : LV} {o : Option Value} {o2 : Option Value} {x : Int64} (d : decode cc pc = .ok (.lstore_n 3, 1)) (hc : lvC a2 = true) (hn : 3 + 1 < n) (k : J K h (a0 :: a1 :: a2 :: some (.long x) :: none :: r) st (pc + 1) cells slots) : J K h (a0 :: a1 :: a2 :: o :: o2 :: r) (.long x :: st) pc cells slots := fun H locs ls hP hD hS hl => lv_lstore_n X.1 X.2.1 d rfl hl (by rw [X.2.2.1]; exact hn) rfl (fun ls hl => k H locs ls hP hD hS (lvA_setL (lvP_s (j := 2) rfl hc) hl))
theorem J_iinc_3 (X : JX K mn own cc n ret tb w0 rm h0 post px) {a0 a1 a2 : Option Value} {r : LV} {z : Int} {x v : Int32} (d : decode cc pc = .ok (.iinc 3 z, 3)) (hv : x + Int32.ofInt z = v) (hc : lvC a2 = true) (hn : 3 < n) (k : J K h (a0 :: a1 :: a2 :: some (.int v) :: r) st (pc + 3) cells slots) : J K h (a0 :: a1 :: a2 :: some (.int x) :: r) st pc cells slots := by
  obtain ⟨j, hj⟩ := lvA_place (lv := (a0 :: a1 :: a2 :: some (.int x) :: r)) (i := 3) (v := .int x) rfl
  exact fun H locs ls hP hD hS hl => lv_iinc X.1 X.2.1 d hl hj hv (by rw [X.2.2.1]; exact hn) rfl (fun ls hl => k H locs ls hP hD hS (lvA_set (lvP_s (j := 2) rfl hc) hl))
theorem J_iload_4 (X : JX K mn own cc n ret tb w0 rm h0 post px) {a0 a1 a2 a3 : Option Value} {r : LV} {x : Int32} (d : decode cc pc = .ok (.iload 4, 2))  (k : J K h (a0 :: a1 :: a2 :: a3 :: some (.int x) :: r) (.int x :: st) (pc + 2) cells slots) : J K h (a0 :: a1 :: a2 :: a3 :: some (.int x) :: r) st pc cells slots := fun H locs ls hP hD hS hl => lv_iload X.1 X.2.1 d (lvA_at hl rfl) (k H locs ls hP hD hS hl)
theorem J_lload_4 (X : JX K mn own cc n ret tb w0 rm h0 post px) {a0 a1 a2 a3 : Option Value} {r : LV} {x : Int64} (d : decode cc pc = .ok (.lload 4, 2))  (k : J K h (a0 :: a1 :: a2 :: a3 :: some (.long x) :: r) (.long x :: st) (pc + 2) cells slots) : J K h (a0 :: a1 :: a2 :: a3 :: some (.long x) :: r) st pc cells slots := fun H locs ls hP hD hS hl => lv_lload X.1 X.2.1 d (lvA_at hl rfl) (k H locs ls hP hD hS hl)
theorem J_aload_4 (X : JX K mn own cc n ret tb w0 rm h0 post px) {a0 a1 a2 a3 : Option Value} {r : LV} {x : Nat} (d : decode cc pc = .ok (.aload 4, 2))  (k : J K h (a0 :: a1 :: a2 :: a3 :: some (.ref x) :: r) (.ref x :: st) (pc + 2) cells slots) : J K h (a0 :: a1 :: a2 :: a3 :: some (.ref x) :: r) st pc cells slots := fun H locs ls hP hD hS hl => lv_aload X.1 X.2.1 d (lvA_at hl rfl) (k H locs ls hP hD hS hl)
theorem J_istore_4 (X : JX K mn own cc n ret tb w0 rm h0 post px) {a0 a1 a2 a3 : Option Value} {r : LV} {o : Option Value} {x : Int32} (d : decode cc pc = .ok (.istore 4, 2)) (hc : lvC a3 = true) (hn : 4 < n) (k : J K h (a0 :: a1 :: a2 :: a3 :: some (.int x) :: r) st (pc + 2) cells slots) : J K h (a0 :: a1 :: a2 :: a3 :: o :: r) (.int x :: st) pc cells slots := fun H locs ls hP hD hS hl => lv_istore X.1 X.2.1 d hl (by rw [X.2.2.1]; exact hn) rfl (fun ls hl => k H locs ls hP hD hS (lvA_set (lvP_s (j := 3) rfl hc) hl))
theorem J_astore_4 (X : JX K mn own cc n ret tb w0 rm h0 post px) {a0 a1 a2 a3 : Option Value} {r : LV} {o : Option Value} {x : Nat} (d : decode cc pc = .ok (.astore 4, 2)) (hc : lvC a3 = true) (hn : 4 < n) (k : J K h (a0 :: a1 :: a2 :: a3 :: some (.ref x) :: r) st (pc + 2) cells slots) : J K h (a0 :: a1 :: a2 :: a3 :: o :: r) (.ref x :: st) pc cells slots := fun H locs ls hP hD hS hl => lv_astore X.1 X.2.1 d hl (by rw [X.2.2.1]; exact hn) rfl (fun ls hl => k H locs ls hP hD hS (lvA_set (lvP_s (j := 3) rfl hc) hl))
theorem J_lstore_4 (X : JX K mn own cc n ret tb w0 rm h0 post px) {a0 a1 a2 a3 : Option Value} {r : LV} {o : Option Value} {o2 : Option Value} {x : Int64} (d : decode cc pc = .ok (.lstore 4, 2)) (hc : lvC a3 = true) (hn : 4 + 1 < n) (k : J K h (a0 :: a1 :: a2 :: a3 :: some (.long x) :: none :: r) st (pc + 2) cells slots) : J K h (a0 :: a1 :: a2 :: a3 :: o :: o2 :: r) (.long x :: st) pc cells slots := fun H locs ls hP hD hS hl => lv_lstore X.1 X.2.1 d hl (by rw [X.2.2.1]; exact hn) rfl (fun ls hl => k H locs ls hP hD hS (lvA_setL (lvP_s (j := 3) rfl hc) hl))
theorem J_iinc_4 (X : JX K mn own cc n ret tb w0 rm h0 post px) {a0 a1 a2 a3 : Option Value} {r : LV} {z : Int} {x v : Int32} (d : decode cc pc = .ok (.iinc 4 z, 3)) (hv : x + Int32.ofInt z = v) (hc : lvC a3 = true) (hn : 4 < n) (k : J K h (a0 :: a1 :: a2 :: a3 :: some (.int v) :: r) st (pc + 3) cells slots) : J K h (a0 :: a1 :: a2 :: a3 :: some (.int x) :: r) st pc cells slots := by
  obtain ⟨j, hj⟩ := lvA_place (lv := (a0 :: a1 :: a2 :: a3 :: some (.int x) :: r)) (i := 4) (v := .int x) rfl
  exact fun H locs ls hP hD hS hl => lv_iinc X.1 X.2.1 d hl hj hv (by rw [X.2.2.1]; exact hn) rfl (fun ls hl => k H locs ls hP hD hS (lvA_set (lvP_s (j := 3) rfl hc) hl))
theorem J_iload_5 (X : JX K mn own cc n ret tb w0 rm h0 post px) {a0 a1 a2 a3 a4 : Option Value} {r : LV} {x : Int32} (d : decode cc pc = .ok (.iload 5, 2))  (k : J K h (a0 :: a1 :: a2 :: a3 :: a4 :: some (.int x) :: r) (.int x :: st) (pc + 2) cells slots) : J K h (a0 :: a1 :: a2 :: a3 :: a4 :: some (.int x) :: r) st pc cells slots := fun H locs ls hP hD hS hl => lv_iload X.1 X.2.1 d (lvA_at hl rfl) (k H locs ls hP hD hS hl)
theorem J_lload_5 (X : JX K mn own cc n ret tb w0 rm h0 post px) {a0 a1 a2 a3 a4 : Option Value} {r : LV} {x : Int64} (d : decode cc pc = .ok (.lload 5, 2))  (k : J K h (a0 :: a1 :: a2 :: a3 :: a4 :: some (.long x) :: r) (.long x :: st) (pc + 2) cells slots) : J K h (a0 :: a1 :: a2 :: a3 :: a4 :: some (.long x) :: r) st pc cells slots := fun H locs ls hP hD hS hl => lv_lload X.1 X.2.1 d (lvA_at hl rfl) (k H locs ls hP hD hS hl)
theorem J_aload_5 (X : JX K mn own cc n ret tb w0 rm h0 post px) {a0 a1 a2 a3 a4 : Option Value} {r : LV} {x : Nat} (d : decode cc pc = .ok (.aload 5, 2))  (k : J K h (a0 :: a1 :: a2 :: a3 :: a4 :: some (.ref x) :: r) (.ref x :: st) (pc + 2) cells slots) : J K h (a0 :: a1 :: a2 :: a3 :: a4 :: some (.ref x) :: r) st pc cells slots := fun H locs ls hP hD hS hl => lv_aload X.1 X.2.1 d (lvA_at hl rfl) (k H locs ls hP hD hS hl)
theorem J_istore_5 (X : JX K mn own cc n ret tb w0 rm h0 post px) {a0 a1 a2 a3 a4 : Option Value} {r : LV} {o : Option Value} {x : Int32} (d : decode cc pc = .ok (.istore 5, 2)) (hc : lvC a4 = true) (hn : 5 < n) (k : J K h (a0 :: a1 :: a2 :: a3 :: a4 :: some (.int x) :: r) st (pc + 2) cells slots) : J K h (a0 :: a1 :: a2 :: a3 :: a4 :: o :: r) (.int x :: st) pc cells slots := fun H locs ls hP hD hS hl => lv_istore X.1 X.2.1 d hl (by rw [X.2.2.1]; exact hn) rfl (fun ls hl => k H locs ls hP hD hS (lvA_set (lvP_s (j := 4) rfl hc) hl))
theorem J_astore_5 (X : JX K mn own cc n ret tb w0 rm h0 post px) {a0 a1 a2 a3 a4 : Option Value} {r : LV} {o : Option Value} {x : Nat} (d : decode cc pc = .ok (.astore 5, 2)) (hc : lvC a4 = true) (hn : 5 < n) (k : J K h (a0 :: a1 :: a2 :: a3 :: a4 :: some (.ref x) :: r) st (pc + 2) cells slots) : J K h (a0 :: a1 :: a2 :: a3 :: a4 :: o :: r) (.ref x :: st) pc cells slots := fun H locs ls hP hD hS hl => lv_astore X.1 X.2.1 d hl (by rw [X.2.2.1]; exact hn) rfl (fun ls hl => k H locs ls hP hD hS (lvA_set (lvP_s (j := 4) rfl hc) hl))
theorem J_lstore_5 (X : JX K mn own cc n ret tb w0 rm h0 post px) {a0 a1 a2 a3 a4 : Option Value} {r : LV} {o : Option Value} {o2 : Option Value} {x : Int64} (d : decode cc pc = .ok (.lstore 5, 2)) (hc : lvC a4 = true) (hn : 5 + 1 < n) (k : J K h (a0 :: a1 :: a2 :: a3 :: a4 :: some (.long x) :: none :: r) st (pc + 2) cells slots) : J K h (a0 :: a1 :: a2 :: a3 :: a4 :: o :: o2 :: r) (.long x :: st) pc cells slots := fun H locs ls hP hD hS hl => lv_lstore X.1 X.2.1 d hl (by rw [X.2.2.1]; exact hn) rfl (fun ls hl => k H locs ls hP hD hS (lvA_setL (lvP_s (j := 4) rfl hc) hl))
theorem J_iinc_5 (X : JX K mn own cc n ret tb w0 rm h0 post px) {a0 a1 a2 a3 a4 : Option Value} {r : LV} {z : Int} {x v : Int32} (d : decode cc pc = .ok (.iinc 5 z, 3)) (hv : x + Int32.ofInt z = v) (hc : lvC a4 = true) (hn : 5 < n) (k : J K h (a0 :: a1 :: a2 :: a3 :: a4 :: some (.int v) :: r) st (pc + 3) cells slots) : J K h (a0 :: a1 :: a2 :: a3 :: a4 :: some (.int x) :: r) st pc cells slots := by
  obtain ⟨j, hj⟩ := lvA_place (lv := (a0 :: a1 :: a2 :: a3 :: a4 :: some (.int x) :: r)) (i := 5) (v := .int x) rfl
  exact fun H locs ls hP hD hS hl => lv_iinc X.1 X.2.1 d hl hj hv (by rw [X.2.2.1]; exact hn) rfl (fun ls hl => k H locs ls hP hD hS (lvA_set (lvP_s (j := 4) rfl hc) hl))
theorem J_iload_6 (X : JX K mn own cc n ret tb w0 rm h0 post px) {a0 a1 a2 a3 a4 a5 : Option Value} {r : LV} {x : Int32} (d : decode cc pc = .ok (.iload 6, 2))  (k : J K h (a0 :: a1 :: a2 :: a3 :: a4 :: a5 :: some (.int x) :: r) (.int x :: st) (pc + 2) cells slots) : J K h (a0 :: a1 :: a2 :: a3 :: a4 :: a5 :: some (.int x) :: r) st pc cells slots := fun H locs ls hP hD hS hl => lv_iload X.1 X.2.1 d (lvA_at hl rfl) (k H locs ls hP hD hS hl)
theorem J_lload_6 (X : JX K mn own cc n ret tb w0 rm h0 post px) {a0 a1 a2 a3 a4 a5 : Option Value} {r : LV} {x : Int64} (d : decode cc pc = .ok (.lload 6, 2))  (k : J K h (a0 :: a1 :: a2 :: a3 :: a4 :: a5 :: some (.long x) :: r) (.long x :: st) (pc + 2) cells slots) : J K h (a0 :: a1 :: a2 :: a3 :: a4 :: a5 :: some (.long x) :: r) st pc cells slots := fun H locs ls hP hD hS hl => lv_lload X.1 X.2.1 d (lvA_at hl rfl) (k H locs ls hP hD hS hl)
theorem J_aload_6 (X : JX K mn own cc n ret tb w0 rm h0 post px) {a0 a1 a2 a3 a4 a5 : Option Value} {r : LV} {x : Nat} (d : decode cc pc = .ok (.aload 6, 2))  (k : J K h (a0 :: a1 :: a2 :: a3 :: a4 :: a5 :: some (.ref x) :: r) (.ref x :: st) (pc + 2) cells slots) : J K h (a0 :: a1 :: a2 :: a3 :: a4 :: a5 :: some (.ref x) :: r) st pc cells slots := fun H locs ls hP hD hS hl => lv_aload X.1 X.2.1 d (lvA_at hl rfl) (k H locs ls hP hD hS hl)
theorem J_istore_6 (X : JX K mn own cc n ret tb w0 rm h0 post px) {a0 a1 a2 a3 a4 a5 : Option Value} {r : LV} {o : Option Value} {x : Int32} (d : decode cc pc = .ok (.istore 6, 2)) (hc : lvC a5 = true) (hn : 6 < n) (k : J K h (a0 :: a1 :: a2 :: a3 :: a4 :: a5 :: some (.int x) :: r) st (pc + 2) cells slots) : J K h (a0 :: a1 :: a2 :: a3 :: a4 :: a5 :: o :: r) (.int x :: st) pc cells slots := fun H locs ls hP hD hS hl => lv_istore X.1 X.2.1 d hl (by rw [X.2.2.1]; exact hn) rfl (fun ls hl => k H locs ls hP hD hS (lvA_set (lvP_s (j := 5) rfl hc) hl))
theorem J_astore_6 (X : JX K mn own cc n ret tb w0 rm h0 post px) {a0 a1 a2 a3 a4 a5 : Option Value} {r : LV} {o : Option Value} {x : Nat} (d : decode cc pc = .ok (.astore 6, 2)) (hc : lvC a5 = true) (hn : 6 < n) (k : J K h (a0 :: a1 :: a2 :: a3 :: a4 :: a5 :: some (.ref x) :: r) st (pc + 2) cells slots) : J K h (a0 :: a1 :: a2 :: a3 :: a4 :: a5 :: o :: r) (.ref x :: st) pc cells slots := fun H locs ls hP hD hS hl => lv_astore X.1 X.2.1 d hl (by rw [X.2.2.1]; exact hn) rfl (fun ls hl => k H locs ls hP hD hS (lvA_set (lvP_s (j := 5) rfl hc) hl))
theorem J_lstore_6 (X : JX K mn own cc n ret tb w0 rm h0 post px) {a0 a1 a2 a3 a4 a5 : Option Value} {r : LV} {o : Option Value} {o2 : Option Value} {x : Int64} (d : decode cc pc = .ok (.lstore 6, 2)) (hc : lvC a5 = true) (hn : 6 + 1 < n) (k : J K h (a0 :: a1 :: a2 :: a3 :: a4 :: a5 :: some (.long x) :: none :: r) st (pc + 2) cells slots) : J K h (a0 :: a1 :: a2 :: a3 :: a4 :: a5 :: o :: o2 :: r) (.long x :: st) pc cells slots := fun H locs ls hP hD hS hl => lv_lstore X.1 X.2.1 d hl (by rw [X.2.2.1]; exact hn) rfl (fun ls hl => k H locs ls hP hD hS (lvA_setL (lvP_s (j := 5) rfl hc) hl))
theorem J_iinc_6 (X : JX K mn own cc n ret tb w0 rm h0 post px) {a0 a1 a2 a3 a4 a5 : Option Value} {r : LV} {z : Int} {x v : Int32} (d : decode cc pc = .ok (.iinc 6 z, 3)) (hv : x + Int32.ofInt z = v) (hc : lvC a5 = true) (hn : 6 < n) (k : J K h (a0 :: a1 :: a2 :: a3 :: a4 :: a5 :: some (.int v) :: r) st (pc + 3) cells slots) : J K h (a0 :: a1 :: a2 :: a3 :: a4 :: a5 :: some (.int x) :: r) st pc cells slots := by
  obtain ⟨j, hj⟩ := lvA_place (lv := (a0 :: a1 :: a2 :: a3 :: a4 :: a5 :: some (.int x) :: r)) (i := 6) (v := .int x) rfl
  exact fun H locs ls hP hD hS hl => lv_iinc X.1 X.2.1 d hl hj hv (by rw [X.2.2.1]; exact hn) rfl (fun ls hl => k H locs ls hP hD hS (lvA_set (lvP_s (j := 5) rfl hc) hl))
theorem J_iload_7 (X : JX K mn own cc n ret tb w0 rm h0 post px) {a0 a1 a2 a3 a4 a5 a6 : Option Value} {r : LV} {x : Int32} (d : decode cc pc = .ok (.iload 7, 2))  (k : J K h (a0 :: a1 :: a2 :: a3 :: a4 :: a5 :: a6 :: some (.int x) :: r) (.int x :: st) (pc + 2) cells slots) : J K h (a0 :: a1 :: a2 :: a3 :: a4 :: a5 :: a6 :: some (.int x) :: r) st pc cells slots := fun H locs ls hP hD hS hl => lv_iload X.1 X.2.1 d (lvA_at hl rfl) (k H locs ls hP hD hS hl)
theorem J_lload_7 (X : JX K mn own cc n ret tb w0 rm h0 post px) {a0 a1 a2 a3 a4 a5 a6 : Option Value} {r : LV} {x : Int64} (d : decode cc pc = .ok (.lload 7, 2))  (k : J K h (a0 :: a1 :: a2 :: a3 :: a4 :: a5 :: a6 :: some (.long x) :: r) (.long x :: st) (pc + 2) cells slots) : J K h (a0 :: a1 :: a2 :: a3 :: a4 :: a5 :: a6 :: some (.long x) :: r) st pc cells slots := fun H locs ls hP hD hS hl => lv_lload X.1 X.2.1 d (lvA_at hl rfl) (k H locs ls hP hD hS hl)
theorem J_aload_7 (X : JX K mn own cc n ret tb w0 rm h0 post px) {a0 a1 a2 a3 a4 a5 a6 : Option Value} {r : LV} {x : Nat} (d : decode cc pc = .ok (.aload 7, 2))  (k : J K h (a0 :: a1 :: a2 :: a3 :: a4 :: a5 :: a6 :: some (.ref x) :: r) (.ref x :: st) (pc + 2) cells slots) : J K h (a0 :: a1 :: a2 :: a3 :: a4 :: a5 :: a6 :: some (.ref x) :: r) st pc cells slots := fun H locs ls hP hD hS hl => lv_aload X.1 X.2.1 d (lvA_at hl rfl) (k H locs ls hP hD hS hl)
theorem J_istore_7 (X : JX K mn own cc n ret tb w0 rm h0 post px) {a0 a1 a2 a3 a4 a5 a6 : Option Value} {r : LV} {o : Option Value} {x : Int32} (d : decode cc pc = .ok (.istore 7, 2)) (hc : lvC a6 = true) (hn : 7 < n) (k : J K h (a0 :: a1 :: a2 :: a3 :: a4 :: a5 :: a6 :: some (.int x) :: r) st (pc + 2) cells slots) : J K h (a0 :: a1 :: a2 :: a3 :: a4 :: a5 :: a6 :: o :: r) (.int x :: st) pc cells slots := fun H locs ls hP hD hS hl => lv_istore X.1 X.2.1 d hl (by rw [X.2.2.1]; exact hn) rfl (fun ls hl => k H locs ls hP hD hS (lvA_set (lvP_s (j := 6) rfl hc) hl))
theorem J_astore_7 (X : JX K mn own cc n ret tb w0 rm h0 post px) {a0 a1 a2 a3 a4 a5 a6 : Option Value} {r : LV} {o : Option Value} {x : Nat} (d : decode cc pc = .ok (.astore 7, 2)) (hc : lvC a6 = true) (hn : 7 < n) (k : J K h (a0 :: a1 :: a2 :: a3 :: a4 :: a5 :: a6 :: some (.ref x) :: r) st (pc + 2) cells slots) : J K h (a0 :: a1 :: a2 :: a3 :: a4 :: a5 :: a6 :: o :: r) (.ref x :: st) pc cells slots := fun H locs ls hP hD hS hl => lv_astore X.1 X.2.1 d hl (by rw [X.2.2.1]; exact hn) rfl (fun ls hl => k H locs ls hP hD hS (lvA_set (lvP_s (j := 6) rfl hc) hl))
theorem J_lstore_7 (X : JX K mn own cc n ret tb w0 rm h0 post px) {a0 a1 a2 a3 a4 a5 a6 : Option Value} {r : LV} {o : Option Value} {o2 : Option Value} {x : Int64} (d : decode cc pc = .ok (.lstore 7, 2)) (hc : lvC a6 = true) (hn : 7 + 1 < n) (k : J K h (a0 :: a1 :: a2 :: a3 :: a4 :: a5 :: a6 :: some (.long x) :: none :: r) st (pc + 2) cells slots) : J K h (a0 :: a1 :: a2 :: a3 :: a4 :: a5 :: a6 :: o :: o2 :: r) (.long x :: st) pc cells slots := fun H locs ls hP hD hS hl => lv_lstore X.1 X.2.1 d hl (by rw [X.2.2.1]; exact hn) rfl (fun ls hl => k H locs ls hP hD hS (lvA_setL (lvP_s (j := 6) rfl hc) hl))
theorem J_iinc_7 (X : JX K mn own cc n ret tb w0 rm h0 post px) {a0 a1 a2 a3 a4 a5 a6 : Option Value} {r : LV} {z : Int} {x v : Int32} (d : decode cc pc = .ok (.iinc 7 z, 3)) (hv : x + Int32.ofInt z = v) (hc : lvC a6 = true) (hn : 7 < n) (k : J K h (a0 :: a1 :: a2 :: a3 :: a4 :: a5 :: a6 :: some (.int v) :: r) st (pc + 3) cells slots) : J K h (a0 :: a1 :: a2 :: a3 :: a4 :: a5 :: a6 :: some (.int x) :: r) st pc cells slots := by
  obtain ⟨j, hj⟩ := lvA_place (lv := (a0 :: a1 :: a2 :: a3 :: a4 :: a5 :: a6 :: some (.int x) :: r)) (i := 7) (v := .int x) rfl
  exact fun H locs ls hP hD hS hl => lv_iinc X.1 X.2.1 d hl hj hv (by rw [X.2.2.1]; exact hn) rfl (fun ls hl => k H locs ls hP hD hS (lvA_set (lvP_s (j := 6) rfl hc) hl))
theorem J_iload_8 (X : JX K mn own cc n ret tb w0 rm h0 post px) {a0 a1 a2 a3 a4 a5 a6 a7 : Option Value} {r : LV} {x : Int32} (d : decode cc pc = .ok (.iload 8, 2))  (k : J K h (a0 :: a1 :: a2 :: a3 :: a4 :: a5 :: a6 :: a7 :: some (.int x) :: r) (.int x :: st) (pc + 2) cells slots) : J K h (a0 :: a1 :: a2 :: a3 :: a4 :: a5 :: a6 :: a7 :: some (.int x) :: r) st pc cells slots := fun H locs ls hP hD hS hl => lv_iload X.1 X.2.1 d (lvA_at hl rfl) (k H locs ls hP hD hS hl)
theorem J_lload_8 (X : JX K mn own cc n ret tb w0 rm h0 post px) {a0 a1 a2 a3 a4 a5 a6 a7 : Option Value} {r : LV} {x : Int64} (d : decode cc pc = .ok (.lload 8, 2))  (k : J K h (a0 :: a1 :: a2 :: a3 :: a4 :: a5 :: a6 :: a7 :: some (.long x) :: r) (.long x :: st) (pc + 2) cells slots) : J K h (a0 :: a1 :: a2 :: a3 :: a4 :: a5 :: a6 :: a7 :: some (.long x) :: r) st pc cells slots := fun H locs ls hP hD hS hl => lv_lload X.1 X.2.1 d (lvA_at hl rfl) (k H locs ls hP hD hS hl)
theorem J_aload_8 (X : JX K mn own cc n ret tb w0 rm h0 post px) {a0 a1 a2 a3 a4 a5 a6 a7 : Option Value} {r : LV} {x : Nat} (d : decode cc pc = .ok (.aload 8, 2))  (k : J K h (a0 :: a1 :: a2 :: a3 :: a4 :: a5 :: a6 :: a7 :: some (.ref x) :: r) (.ref x :: st) (pc + 2) cells slots) : J K h (a0 :: a1 :: a2 :: a3 :: a4 :: a5 :: a6 :: a7 :: some (.ref x) :: r) st pc cells slots := fun H locs ls hP hD hS hl => lv_aload X.1 X.2.1 d (lvA_at hl rfl) (k H locs ls hP hD hS hl)
theorem J_istore_8 (X : JX K mn own cc n ret tb w0 rm h0 post px) {a0 a1 a2 a3 a4 a5 a6 a7 : Option Value} {r : LV} {o : Option Value} {x : Int32} (d : decode cc pc = .ok (.istore 8, 2)) (hc : lvC a7 = true) (hn : 8 < n) (k : J K h (a0 :: a1 :: a2 :: a3 :: a4 :: a5 :: a6 :: a7 :: some (.int x) :: r) st (pc + 2) cells slots) : J K h (a0 :: a1 :: a2 :: a3 :: a4 :: a5 :: a6 :: a7 :: o :: r) (.int x :: st) pc cells slots := fun H locs ls hP hD hS hl => lv_istore X.1 X.2.1 d hl (by rw [X.2.2.1]; exact hn) rfl (fun ls hl => k H locs ls hP hD hS (lvA_set (lvP_s (j := 7) rfl hc) hl))
theorem J_astore_8 (X : JX K mn own cc n ret tb w0 rm h0 post px) {a0 a1 a2 a3 a4 a5 a6 a7 : Option Value} {r : LV} {o : Option Value} {x : Nat} (d : decode cc pc = .ok (.astore 8, 2)) (hc : lvC a7 = true) (hn : 8 < n) (k : J K h (a0 :: a1 :: a2 :: a3 :: a4 :: a5 :: a6 :: a7 :: some (.ref x) :: r) st (pc + 2) cells slots) : J K h (a0 :: a1 :: a2 :: a3 :: a4 :: a5 :: a6 :: a7 :: o :: r) (.ref x :: st) pc cells slots := fun H locs ls hP hD hS hl => lv_astore X.1 X.2.1 d hl (by rw [X.2.2.1]; exact hn) rfl (fun ls hl => k H locs ls hP hD hS (lvA_set (lvP_s (j := 7) rfl hc) hl))
theorem J_lstore_8 (X : JX K mn own cc n ret tb w0 rm h0 post px) {a0 a1 a2 a3 a4 a5 a6 a7 : Option Value} {r : LV} {o : Option Value} {o2 : Option Value} {x : Int64} (d : decode cc pc = .ok (.lstore 8, 2)) (hc : lvC a7 = true) (hn : 8 + 1 < n) (k : J K h (a0 :: a1 :: a2 :: a3 :: a4 :: a5 :: a6 :: a7 :: some (.long x) :: none :: r) st (pc + 2) cells slots) : J K h (a0 :: a1 :: a2 :: a3 :: a4 :: a5 :: a6 :: a7 :: o :: o2 :: r) (.long x :: st) pc cells slots := fun H locs ls hP hD hS hl => lv_lstore X.1 X.2.1 d hl (by rw [X.2.2.1]; exact hn) rfl (fun ls hl => k H locs ls hP hD hS (lvA_setL (lvP_s (j := 7) rfl hc) hl))
theorem J_iinc_8 (X : JX K mn own cc n ret tb w0 rm h0 post px) {a0 a1 a2 a3 a4 a5 a6 a7 : Option Value} {r : LV} {z : Int} {x v : Int32} (d : decode cc pc = .ok (.iinc 8 z, 3)) (hv : x + Int32.ofInt z = v) (hc : lvC a7 = true) (hn : 8 < n) (k : J K h (a0 :: a1 :: a2 :: a3 :: a4 :: a5 :: a6 :: a7 :: some (.int v) :: r) st (pc + 3) cells slots) : J K h (a0 :: a1 :: a2 :: a3 :: a4 :: a5 :: a6 :: a7 :: some (.int x) :: r) st pc cells slots := by
  obtain ⟨j, hj⟩ := lvA_place (lv := (a0 :: a1 :: a2 :: a3 :: a4 :: a5 :: a6 :: a7 :: some (.int x) :: r)) (i := 8) (v := .int x) rfl
  exact fun H locs ls hP hD hS hl => lv_iinc X.1 X.2.1 d hl hj hv (by rw [X.2.2.1]; exact hn) rfl (fun ls hl => k H locs ls hP hD hS (lvA_set (lvP_s (j := 7) rfl hc) hl))
theorem J_iload_9 (X : JX K mn own cc n ret tb w0 rm h0 post px) {a0 a1 a2 a3 a4 a5 a6 a7 a8 : Option Value} {r : LV} {x : Int32} (d : decode cc pc = .ok (.iload 9, 2))  (k : J K h (a0 :: a1 :: a2 :: a3 :: a4 :: a5 :: a6 :: a7 :: a8 :: some (.int x) :: r) (.int x :: st) (pc + 2) cells slots) : J K h (a0 :: a1 :: a2 :: a3 :: a4 :: a5 :: a6 :: a7 :: a8 :: some (.int x) :: r) st pc cells slots := fun H locs ls hP hD hS hl => lv_iload X.1 X.2.1 d (lvA_at hl rfl) (k H locs ls hP hD hS hl)
theorem J_lload_9 (X : JX K mn own cc n ret tb w0 rm h0 post px) {a0 a1 a2 a3 a4 a5 a6 a7 a8 : Option Value} {r : LV} {x : Int64} (d : decode cc pc = .ok (.lload 9, 2))  (k : J K h (a0 :: a1 :: a2 :: a3 :: a4 :: a5 :: a6 :: a7 :: a8 :: some (.long x) :: r) (.long x :: st) (pc + 2) cells slots) : J K h (a0 :: a1 :: a2 :: a3 :: a4 :: a5 :: a6 :: a7 :: a8 :: some (.long x) :: r) st pc cells slots := fun H locs ls hP hD hS hl => lv_lload X.1 X.2.1 d (lvA_at hl rfl) (k H locs ls hP hD hS hl)
theorem J_aload_9 (X : JX K mn own cc n ret tb w0 rm h0 post px) {a0 a1 a2 a3 a4 a5 a6 a7 a8 : Option Value} {r : LV} {x : Nat} (d : decode cc pc = .ok (.aload 9, 2))  (k : J K h (a0 :: a1 :: a2 :: a3 :: a4 :: a5 :: a6 :: a7 :: a8 :: some (.ref x) :: r) (.ref x :: st) (pc + 2) cells slots) : J K h (a0 :: a1 :: a2 :: a3 :: a4 :: a5 :: a6 :: a7 :: a8 :: some (.ref x) :: r) st pc cells slots := fun H locs ls hP hD hS hl => lv_aload X.1 X.2.1 d (lvA_at hl rfl) (k H locs ls hP hD hS hl)
theorem J_istore_9 (X : JX K mn own cc n ret tb w0 rm h0 post px) {a0 a1 a2 a3 a4 a5 a6 a7 a8 : Option Value} {r : LV} {o : Option Value} {x : Int32} (d : decode cc pc = .ok (.istore 9, 2)) (hc : lvC a8 = true) (hn : 9 < n) (k : J K h (a0 :: a1 :: a2 :: a3 :: a4 :: a5 :: a6 :: a7 :: a8 :: some (.int x) :: r) st (pc + 2) cells slots) : J K h (a0 :: a1 :: a2 :: a3 :: a4 :: a5 :: a6 :: a7 :: a8 :: o :: r) (.int x :: st) pc cells slots := fun H locs ls hP hD hS hl => lv_istore X.1 X.2.1 d hl (by rw [X.2.2.1]; exact hn) rfl (fun ls hl => k H locs ls hP hD hS (lvA_set (lvP_s (j := 8) rfl hc) hl))
theorem J_astore_9 (X : JX K mn own cc n ret tb w0 rm h0 post px) {a0 a1 a2 a3 a4 a5 a6 a7 a8 : Option Value} {r : LV} {o : Option Value} {x : Nat} (d : decode cc pc = .ok (.astore 9, 2)) (hc : lvC a8 = true) (hn : 9 < n) (k : J K h (a0 :: a1 :: a2 :: a3 :: a4 :: a5 :: a6 :: a7 :: a8 :: some (.ref x) :: r) st (pc + 2) cells slots) : J K h (a0 :: a1 :: a2 :: a3 :: a4 :: a5 :: a6 :: a7 :: a8 :: o :: r) (.ref x :: st) pc cells slots := fun H locs ls hP hD hS hl => lv_astore X.1 X.2.1 d hl (by rw [X.2.2.1]; exact hn) rfl (fun ls hl => k H locs ls hP hD hS (lvA_set (lvP_s (j := 8) rfl hc) hl))
theorem J_lstore_9 (X : JX K mn own cc n ret tb w0 rm h0 post px) {a0 a1 a2 a3 a4 a5 a6 a7 a8 : Option Value} {r : LV} {o : Option Value} {o2 : Option Value} {x : Int64} (d : decode cc pc = .ok (.lstore 9, 2)) (hc : lvC a8 = true) (hn : 9 + 1 < n) (k : J K h (a0 :: a1 :: a2 :: a3 :: a4 :: a5 :: a6 :: a7 :: a8 :: some (.long x) :: none :: r) st (pc + 2) cells slots) : J K h (a0 :: a1 :: a2 :: a3 :: a4 :: a5 :: a6 :: a7 :: a8 :: o :: o2 :: r) (.long x :: st) pc cells slots := fun H locs ls hP hD hS hl => lv_lstore X.1 X.2.1 d hl (by rw [X.2.2.1]; exact hn) rfl (fun ls hl => k H locs ls hP hD hS (lvA_setL (lvP_s (j := 8) rfl hc) hl))
theorem J_iinc_9 (X : JX K mn own cc n ret tb w0 rm h0 post px) {a0 a1 a2 a3 a4 a5 a6 a7 a8 : Option Value} {r : LV} {z : Int} {x v : Int32} (d : decode cc pc = .ok (.iinc 9 z, 3)) (hv : x + Int32.ofInt z = v) (hc : lvC a8 = true) (hn : 9 < n) (k : J K h (a0 :: a1 :: a2 :: a3 :: a4 :: a5 :: a6 :: a7 :: a8 :: some (.int v) :: r) st (pc + 3) cells slots) : J K h (a0 :: a1 :: a2 :: a3 :: a4 :: a5 :: a6 :: a7 :: a8 :: some (.int x) :: r) st pc cells slots := by
  obtain ⟨j, hj⟩ := lvA_place (lv := (a0 :: a1 :: a2 :: a3 :: a4 :: a5 :: a6 :: a7 :: a8 :: some (.int x) :: r)) (i := 9) (v := .int x) rfl
  exact fun H locs ls hP hD hS hl => lv_iinc X.1 X.2.1 d hl hj hv (by rw [X.2.2.1]; exact hn) rfl (fun ls hl => k H locs ls hP hD hS (lvA_set (lvP_s (j := 8) rfl hc) hl))
theorem J_iload_10 (X : JX K mn own cc n ret tb w0 rm h0 post px) {a0 a1 a2 a3 a4 a5 a6 a7 a8 a9 : Option Value} {r : LV} {x : Int32} (d : decode cc pc = .ok (.iload 10, 2))  (k : J K h (a0 :: a1 :: a2 :: a3 :: a4 :: a5 :: a6 :: a7 :: a8 :: a9 :: some (.int x) :: r) (.int x :: st) (pc + 2) cells slots) : J K h (a0 :: a1 :: a2 :: a3 :: a4 :: a5 :: a6 :: a7 :: a8 :: a9 :: some (.int x) :: r) st pc cells slots := fun H locs ls hP hD hS hl => lv_iload X.1 X.2.1 d (lvA_at hl rfl) (k H locs ls hP hD hS hl)
theorem J_lload_10 (X : JX K mn own cc n ret tb w0 rm h0 post px) {a0 a1 a2 a3 a4 a5 a6 a7 a8 a9 : Option Value} {r : LV} {x : Int64} (d : decode cc pc = .ok (.lload 10, 2))  (k : J K h (a0 :: a1 :: a2 :: a3 :: a4 :: a5 :: a6 :: a7 :: a8 :: a9 :: some (.long x) :: r) (.long x :: st) (pc + 2) cells slots) : J K h (a0 :: a1 :: a2 :: a3 :: a4 :: a5 :: a6 :: a7 :: a8 :: a9 :: some (.long x) :: r) st pc cells slots := fun H locs ls hP hD hS hl => lv_lload X.1 X.2.1 d (lvA_at hl rfl) (k H locs ls hP hD hS hl)
theorem J_aload_10 (X : JX K mn own cc n ret tb w0 rm h0 post px) {a0 a1 a2 a3 a4 a5 a6 a7 a8 a9 : Option Value} {r : LV} {x : Nat} (d : decode cc pc = .ok (.aload 10, 2))  (k : J K h (a0 :: a1 :: a2 :: a3 :: a4 :: a5 :: a6 :: a7 :: a8 :: a9 :: some (.ref x) :: r) (.ref x :: st) (pc + 2) cells slots) : J K h (a0 :: a1 :: a2 :: a3 :: a4 :: a5 :: a6 :: a7 :: a8 :: a9 :: some (.ref x) :: r) st pc cells slots := fun H locs ls hP hD hS hl => lv_aload X.1 X.2.1 d (lvA_at hl rfl) (k H locs ls hP hD hS hl)
theorem J_istore_10 (X : JX K mn own cc n ret tb w0 rm h0 post px) {a0 a1 a2 a3 a4 a5 a6 a7 a8 a9 : Option Value} {r : LV} {o : Option Value} {x : Int32} (d : decode cc pc = .ok (.istore 10, 2)) (hc : lvC a9 = true) (hn : 10 < n) (k : J K h (a0 :: a1 :: a2 :: a3 :: a4 :: a5 :: a6 :: a7 :: a8 :: a9 :: some (.int x) :: r) st (pc + 2) cells slots) : J K h (a0 :: a1 :: a2 :: a3 :: a4 :: a5 :: a6 :: a7 :: a8 :: a9 :: o :: r) (.int x :: st) pc cells slots := fun H locs ls hP hD hS hl => lv_istore X.1 X.2.1 d hl (by rw [X.2.2.1]; exact hn) rfl (fun ls hl => k H locs ls hP hD hS (lvA_set (lvP_s (j := 9) rfl hc) hl))
theorem J_astore_10 (X : JX K mn own cc n ret tb w0 rm h0 post px) {a0 a1 a2 a3 a4 a5 a6 a7 a8 a9 : Option Value} {r : LV} {o : Option Value} {x : Nat} (d : decode cc pc = .ok (.astore 10, 2)) (hc : lvC a9 = true) (hn : 10 < n) (k : J K h (a0 :: a1 :: a2 :: a3 :: a4 :: a5 :: a6 :: a7 :: a8 :: a9 :: some (.ref x) :: r) st (pc + 2) cells slots) : J K h (a0 :: a1 :: a2 :: a3 :: a4 :: a5 :: a6 :: a7 :: a8 :: a9 :: o :: r) (.ref x :: st) pc cells slots := fun H locs ls hP hD hS hl => lv_astore X.1 X.2.1 d hl (by rw [X.2.2.1]; exact hn) rfl (fun ls hl => k H locs ls hP hD hS (lvA_set (lvP_s (j := 9) rfl hc) hl))
theorem J_lstore_10 (X : JX K mn own cc n ret tb w0 rm h0 post px) {a0 a1 a2 a3 a4 a5 a6 a7 a8 a9 : Option Value} {r : LV} {o : Option Value} {o2 : Option Value} {x : Int64} (d : decode cc pc = .ok (.lstore 10, 2)) (hc : lvC a9 = true) (hn : 10 + 1 < n) (k : J K h (a0 :: a1 :: a2 :: a3 :: a4 :: a5 :: a6 :: a7 :: a8 :: a9 :: some (.long x) :: none :: r) st (pc + 2) cells slots) : J K h (a0 :: a1 :: a2 :: a3 :: a4 :: a5 :: a6 :: a7 :: a8 :: a9 :: o :: o2 :: r) (.long x :: st) pc cells slots := fun H locs ls hP hD hS hl => lv_lstore X.1 X.2.1 d hl (by rw [X.2.2.1]; exact hn) rfl (fun ls hl => k H locs ls hP hD hS (lvA_setL (lvP_s (j := 9) rfl hc) hl))
theorem J_iinc_10 (X : JX K mn own cc n ret tb w0 rm h0 post px) {a0 a1 a2 a3 a4 a5 a6 a7 a8 a9 : Option Value} {r : LV} {z : Int} {x v : Int32} (d : decode cc pc = .ok (.iinc 10 z, 3)) (hv : x + Int32.ofInt z = v) (hc : lvC a9 = true) (hn : 10 < n) (k : J K h (a0 :: a1 :: a2 :: a3 :: a4 :: a5 :: a6 :: a7 :: a8 :: a9 :: some (.int v) :: r) st (pc + 3) cells slots) : J K h (a0 :: a1 :: a2 :: a3 :: a4 :: a5 :: a6 :: a7 :: a8 :: a9 :: some (.int x) :: r) st pc cells slots := by
  obtain ⟨j, hj⟩ := lvA_place (lv := (a0 :: a1 :: a2 :: a3 :: a4 :: a5 :: a6 :: a7 :: a8 :: a9 :: some (.int x) :: r)) (i := 10) (v := .int x) rfl
  exact fun H locs ls hP hD hS hl => lv_iinc X.1 X.2.1 d hl hj hv (by rw [X.2.2.1]; exact hn) rfl (fun ls hl => k H locs ls hP hD hS (lvA_set (lvP_s (j := 9) rfl hc) hl))
theorem J_iload_11 (X : JX K mn own cc n ret tb w0 rm h0 post px) {a0 a1 a2 a3 a4 a5 a6 a7 a8 a9 a10 : Option Value} {r : LV} {x : Int32} (d : decode cc pc = .ok (.iload 11, 2))  (k : J K h (a0 :: a1 :: a2 :: a3 :: a4 :: a5 :: a6 :: a7 :: a8 :: a9 :: a10 :: some (.int x) :: r) (.int x :: st) (pc + 2) cells slots) : J K h (a0 :: a1 :: a2 :: a3 :: a4 :: a5 :: a6 :: a7 :: a8 :: a9 :: a10 :: some (.int x) :: r) st pc cells slots := fun H locs ls hP hD hS hl => lv_iload X.1 X.2.1 d (lvA_at hl rfl) (k H locs ls hP hD hS hl)
theorem J_lload_11 (X : JX K mn own cc n ret tb w0 rm h0 post px) {a0 a1 a2 a3 a4 a5 a6 a7 a8 a9 a10 : Option Value} {r : LV} {x : Int64} (d : decode cc pc = .ok (.lload 11, 2))  (k : J K h (a0 :: a1 :: a2 :: a3 :: a4 :: a5 :: a6 :: a7 :: a8 :: a9 :: a10 :: some (.long x) :: r) (.long x :: st) (pc + 2) cells slots) : J K h (a0 :: a1 :: a2 :: a3 :: a4 :: a5 :: a6 :: a7 :: a8 :: a9 :: a10 :: some (.long x) :: r) st pc cells slots := fun H locs ls hP hD hS hl => lv_lload X.1 X.2.1 d (lvA_at hl rfl) (k H locs ls hP hD hS hl)
theorem J_aload_11 (X : JX K mn own cc n ret tb w0 rm h0 post px) {a0 a1 a2 a3 a4 a5 a6 a7 a8 a9 a10 : Option Value} {r : LV} {x : Nat} (d : decode cc pc = .ok (.aload 11, 2))  (k : J K h (a0 :: a1 :: a2 :: a3 :: a4 :: a5 :: a6 :: a7 :: a8 :: a9 :: a10 :: some (.ref x) :: r) (.ref x :: st) (pc + 2) cells slots) : J K h (a0 :: a1 :: a2 :: a3 :: a4 :: a5 :: a6 :: a7 :: a8 :: a9 :: a10 :: some (.ref x) :: r) st pc cells slots := fun H locs ls hP hD hS hl => lv_aload X.1 X.2.1 d (lvA_at hl rfl) (k H locs ls hP hD hS hl)
theorem J_istore_11 (X : JX K mn own cc n ret tb w0 rm h0 post px) {a0 a1 a2 a3 a4 a5 a6 a7 a8 a9 a10 : Option Value} {r : LV} {o : Option Value} {x : Int32} (d : decode cc pc = .ok (.istore 11, 2)) (hc : lvC a10 = true) (hn : 11 < n) (k : J K h (a0 :: a1 :: a2 :: a3 :: a4 :: a5 :: a6 :: a7 :: a8 :: a9 :: a10 :: some (.int x) :: r) st (pc + 2) cells slots) : J K h (a0 :: a1 :: a2 :: a3 :: a4 :: a5 :: a6 :: a7 :: a8 :: a9 :: a10 :: o :: r) (.int x :: st) pc cells slots := fun H locs ls hP hD hS hl => lv_istore X.1 X.2.1 d hl (by rw [X.2.2.1]; exact hn) rfl (fun ls hl => k H locs ls hP hD hS (lvA_set (lvP_s (j := 10) rfl hc) hl))
theorem J_astore_11 (X : JX K mn own cc n ret tb w0 rm h0 post px) {a0 a1 a2 a3 a4 a5 a6 a7 a8 a9 a10 : Option Value} {r : LV} {o : Option Value} {x : Nat} (d : decode cc pc = .ok (.astore 11, 2)) (hc : lvC a10 = true) (hn : 11 < n) (k : J K h (a0 :: a1 :: a2 :: a3 :: a4 :: a5 :: a6 :: a7 :: a8 :: a9 :: a10 :: some (.ref x) :: r) st (pc + 2) cells slots) : J K h (a0 :: a1 :: a2 :: a3 :: a4 :: a5 :: a6 :: a7 :: a8 :: a9 :: a10 :: o :: r) (.ref x :: st) pc cells slots := fun H locs ls hP hD hS hl => lv_astore X.1 X.2.1 d hl (by rw [X.2.2.1]; exact hn) rfl (fun ls hl => k H locs ls hP hD hS (lvA_set (lvP_s (j := 10) rfl hc) hl))
theorem J_lstore_11 (X : JX K mn own cc n ret tb w0 rm h0 post px) {a0 a1 a2 a3 a4 a5 a6 a7 a8 a9 a10 : Option Value} {r : LV} {o : Option Value} {o2 : Option Value} {x : Int64} (d : decode cc pc = .ok (.lstore 11, 2)) (hc : lvC a10 = true) (hn : 11 + 1 < n) (k : J K h (a0 :: a1 :: a2 :: a3 :: a4 :: a5 :: a6 :: a7 :: a8 :: a9 :: a10 :: some (.long x) :: none :: r) st (pc + 2) cells slots) : J K h (a0 :: a1 :: a2 :: a3 :: a4 :: a5 :: a6 :: a7 :: a8 :: a9 :: a10 :: o :: o2 :: r) (.long x :: st) pc cells slots := fun H locs ls hP hD hS hl => lv_lstore X.1 X.2.1 d hl (by rw [X.2.2.1]; exact hn) rfl (fun ls hl => k H locs ls hP hD hS (lvA_setL (lvP_s (j := 10) rfl hc) hl))
theorem J_iinc_11 (X : JX K mn own cc n ret tb w0 rm h0 post px) {a0 a1 a2 a3 a4 a5 a6 a7 a8 a9 a10 : Option Value} {r : LV} {z : Int} {x v : Int32} (d : decode cc pc = .ok (.iinc 11 z, 3)) (hv : x + Int32.ofInt z = v) (hc : lvC a10 = true) (hn : 11 < n) (k : J K h (a0 :: a1 :: a2 :: a3 :: a4 :: a5 :: a6 :: a7 :: a8 :: a9 :: a10 :: some (.int v) :: r) st (pc + 3) cells slots) : J K h (a0 :: a1 :: a2 :: a3 :: a4 :: a5 :: a6 :: a7 :: a8 :: a9 :: a10 :: some (.int x) :: r) st pc cells slots := by
  obtain ⟨j, hj⟩ := lvA_place (lv := (a0 :: a1 :: a2 :: a3 :: a4 :: a5 :: a6 :: a7 :: a8 :: a9 :: a10 :: some (.int x) :: r)) (i := 11) (v := .int x) rfl
  exact fun H locs ls hP hD hS hl => lv_iinc X.1 X.2.1 d hl hj hv (by rw [X.2.2.1]; exact hn) rfl (fun ls hl => k H locs ls hP hD hS (lvA_set (lvP_s (j := 10) rfl hc) hl))
theorem J_iload_12 (X : JX K mn own cc n ret tb w0 rm h0 post px) {a0 a1 a2 a3 a4 a5 a6 a7 a8 a9 a10 a11 : Option Value} {r : LV} {x : Int32} (d : decode cc pc = .ok (.iload 12, 2))  (k : J K h (a0 :: a1 :: a2 :: a3 :: a4 :: a5 :: a6 :: a7 :: a8 :: a9 :: a10 :: a11 :: some (.int x) :: r) (.int x :: st) (pc + 2) cells slots) : J K h (a0 :: a1 :: a2 :: a3 :: a4 :: a5 :: a6 :: a7 :: a8 :: a9 :: a10 :: a11 :: some (.int x) :: r) st pc cells slots := fun H locs ls hP hD hS hl => lv_iload X.1 X.2.1 d (lvA_at hl rfl) (k H locs ls hP hD hS hl)
theorem J_lload_12 (X : JX K mn own cc n ret tb w0 rm h0 post px) {a0 a1 a2 a3 a4 a5 a6 a7 a8 a9 a10 a11 : Option Value} {r : LV} {x : Int64} (d : decode cc pc = .ok (.lload 12, 2))  (k : J K h (a0 :: a1 :: a2 :: a3 :: a4 :: a5 :: a6 :: a7 :: a8 :: a9 :: a10 :: a11 :: some (.long x) :: r) (.long x :: st) (pc + 2) cells slots) : J K h (a0 :: a1 :: a2 :: a3 :: a4 :: a5 :: a6 :: a7 :: a8 :: a9 :: a10 :: a11 :: some (.long x) :: r) st pc cells slots := fun H locs ls hP hD hS hl => lv_lload X.1 X.2.1 d (lvA_at hl rfl) (k H locs ls hP hD hS hl)
theorem J_aload_12 (X : JX K mn own cc n ret tb w0 rm h0 post px) {a0 a1 a2 a3 a4 a5 a6 a7 a8 a9 a10 a11 : Option Value} {r : LV} {x : Nat} (d : decode cc pc = .ok (.aload 12, 2))  (k : J K h (a0 :: a1 :: a2 :: a3 :: a4 :: a5 :: a6 :: a7 :: a8 :: a9 :: a10 :: a11 :: some (.ref x) :: r) (.ref x :: st) (pc + 2) cells slots) : J K h (a0 :: a1 :: a2 :: a3 :: a4 :: a5 :: a6 :: a7 :: a8 :: a9 :: a10 :: a11 :: some (.ref x) :: r) st pc cells slots := fun H locs ls hP hD hS hl => lv_aload X.1 X.2.1 d (lvA_at hl rfl) (k H locs ls hP hD hS hl)
theorem J_istore_12 (X : JX K mn own cc n ret tb w0 rm h0 post px) {a0 a1 a2 a3 a4 a5 a6 a7 a8 a9 a10 a11 : Option Value} {r : LV} {o : Option Value} {x : Int32} (d : decode cc pc = .ok (.istore 12, 2)) (hc : lvC a11 = true) (hn : 12 < n) (k : J K h (a0 :: a1 :: a2 :: a3 :: a4 :: a5 :: a6 :: a7 :: a8 :: a9 :: a10 :: a11 :: some (.int x) :: r) st (pc + 2) cells slots) : J K h (a0 :: a1 :: a2 :: a3 :: a4 :: a5 :: a6 :: a7 :: a8 :: a9 :: a10 :: a11 :: o :: r) (.int x :: st) pc cells slots := fun H locs ls hP hD hS hl => lv_istore X.1 X.2.1 d hl (by rw [X.2.2.1]; exact hn) rfl (fun ls hl => k H locs ls hP hD hS (lvA_set (lvP_s (j := 11) rfl hc) hl))
theorem J_astore_12 (X : JX K mn own cc n ret tb w0 rm h0 post px) {a0 a1 a2 a3 a4 a5 a6 a7 a8 a9 a10 a11 : Option Value} {r : LV} {o : Option Value} {x : Nat} (d : decode cc pc = .ok (.astore 12, 2)) (hc : lvC a11 = true) (hn : 12 < n) (k : J K h (a0 :: a1 :: a2 :: a3 :: a4 :: a5 :: a6 :: a7 :: a8 :: a9 :: a10 :: a11 :: some (.ref x) :: r) st (pc + 2) cells slots) : J K h (a0 :: a1 :: a2 :: a3 :: a4 :: a5 :: a6 :: a7 :: a8 :: a9 :: a10 :: a11 :: o :: r) (.ref x :: st) pc cells slots := fun H locs ls hP hD hS hl => lv_astore X.1 X.2.1 d hl (by rw [X.2.2.1]; exact hn) rfl (fun ls hl => k H locs ls hP hD hS (lvA_set (lvP_s (j := 11) rfl hc) hl))
theorem J_lstore_12 (X : JX K mn own cc n ret tb w0 rm h0 post px) {a0 a1 a2 a3 a4 a5 a6 a7 a8 a9 a10 a11 : Option Value} {r : LV} {o : Option Value} {o2 : Option Value} {x : Int64} (d : decode cc pc = .ok (.lstore 12, 2)) (hc : lvC a11 = true) (hn : 12 + 1 < n) (k : J K h (a0 :: a1 :: a2 :: a3 :: a4 :: a5 :: a6 :: a7 :: a8 :: a9 :: a10 :: a11 :: some (.long x) :: none :: r) st (pc + 2) cells slots) : J K h (a0 :: a1 :: a2 :: a3 :: a4 :: a5 :: a6 :: a7 :: a8 :: a9 :: a10 :: a11 :: o :: o2 :: r) (.long x :: st) pc cells slots := fun H locs ls hP hD hS hl => lv_lstore X.1 X.2.1 d hl (by rw [X.2.2.1]; exact hn) rfl (fun ls hl => k H locs ls hP hD hS (lvA_setL (lvP_s (j := 11) rfl hc) hl))
theorem J_iinc_12 (X : JX K mn own cc n ret tb w0 rm h0 post px) {a0 a1 a2 a3 a4 a5 a6 a7 a8 a9 a10 a11 : Option Value} {r : LV} {z : Int} {x v : Int32} (d : decode cc pc = .ok (.iinc 12 z, 3)) (hv : x + Int32.ofInt z = v) (hc : lvC a11 = true) (hn : 12 < n) (k : J K h (a0 :: a1 :: a2 :: a3 :: a4 :: a5 :: a6 :: a7 :: a8 :: a9 :: a10 :: a11 :: some (.int v) :: r) st (pc + 3) cells slots) : J K h (a0 :: a1 :: a2 :: a3 :: a4 :: a5 :: a6 :: a7 :: a8 :: a9 :: a10 :: a11 :: some (.int x) :: r) st pc cells slots := by
  obtain ⟨j, hj⟩ := lvA_place (lv := (a0 :: a1 :: a2 :: a3 :: a4 :: a5 :: a6 :: a7 :: a8 :: a9 :: a10 :: a11 :: some (.int x) :: r)) (i := 12) (v := .int x) rfl
  exact fun H locs ls hP hD hS hl => lv_iinc X.1 X.2.1 d hl hj hv (by rw [X.2.2.1]; exact hn) rfl (fun ls hl => k H locs ls hP hD hS (lvA_set (lvP_s (j := 11) rfl hc) hl))
theorem J_iload_13 (X : JX K mn own cc n ret tb w0 rm h0 post px) {a0 a1 a2 a3 a4 a5 a6 a7 a8 a9 a10 a11 a12 : Option Value} {r : LV} {x : Int32} (d : decode cc pc = .ok (.iload 13, 2))  (k : J K h (a0 :: a1 :: a2 :: a3 :: a4 :: a5 :: a6 :: a7 :: a8 :: a9 :: a10 :: a11 :: a12 :: some (.int x) :: r) (.int x :: st) (pc + 2) cells slots) : J K h (a0 :: a1 :: a2 :: a3 :: a4 :: a5 :: a6 :: a7 :: a8 :: a9 :: a10 :: a11 :: a12 :: some (.int x) :: r) st pc cells slots := fun H locs ls hP hD hS hl => lv_iload X.1 X.2.1 d (lvA_at hl rfl) (k H locs ls hP hD hS hl)
theorem J_lload_13 (X : JX K mn own cc n ret tb w0 rm h0 post px) {a0 a1 a2 a3 a4 a5 a6 a7 a8 a9 a10 a11 a12 : Option Value} {r : LV} {x : Int64} (d : decode cc pc = .ok (.lload 13, 2))  (k : J K h (a0 :: a1 :: a2 :: a3 :: a4 :: a5 :: a6 :: a7 :: a8 :: a9 :: a10 :: a11 :: a12 :: some (.long x) :: r) (.long x :: st) (pc + 2) cells slots) : J K h (a0 :: a1 :: a2 :: a3 :: a4 :: a5 :: a6 :: a7 :: a8 :: a9 :: a10 :: a11 :: a12 :: some (.long x) :: r) st pc cells slots := fun H locs ls hP hD hS hl => lv_lload X.1 X.2.1 d (lvA_at hl rfl) (k H locs ls hP hD hS hl)
theorem J_aload_13 (X : JX K mn own cc n ret tb w0 rm h0 post px) {a0 a1 a2 a3 a4 a5 a6 a7 a8 a9 a10 a11 a12 : Option Value} {r : LV} {x : Nat} (d : decode cc pc = .ok (.aload 13, 2))  (k : J K h (a0 :: a1 :: a2 :: a3 :: a4 :: a5 :: a6 :: a7 :: a8 :: a9 :: a10 :: a11 :: a12 :: some (.ref x) :: r) (.ref x :: st) (pc + 2) cells slots) : J K h (a0 :: a1 :: a2 :: a3 :: a4 :: a5 :: a6 :: a7 :: a8 :: a9 :: a10 :: a11 :: a12 :: some (.ref x) :: r) st pc cells slots := fun H locs ls hP hD hS hl => lv_aload X.1 X.2.1 d (lvA_at hl rfl) (k H locs ls hP hD hS hl)
theorem J_istore_13 (X : JX K mn own cc n ret tb w0 rm h0 post px) {a0 a1 a2 a3 a4 a5 a6 a7 a8 a9 a10 a11 a12 : Option Value} {r : LV} {o : Option Value} {x : Int32} (d : decode cc pc = .ok (.istore 13, 2)) (hc : lvC a12 = true) (hn : 13 < n) (k : J K h (a0 :: a1 :: a2 :: a3 :: a4 :: a5 :: a6 :: a7 :: a8 :: a9 :: a10 :: a11 :: a12 :: some (.int x) :: r) st (pc + 2) cells slots) : J K h (a0 :: a1 :: a2 :: a3 :: a4 :: a5 :: a6 :: a7 :: a8 :: a9 :: a10 :: a11 :: a12 :: o :: r) (.int x :: st) pc cells slots := fun H locs ls hP hD hS hl => lv_istore X.1 X.2.1 d hl (by rw [X.2.2.1]; exact hn) rfl (fun ls hl => k H locs ls hP hD hS (lvA_set (lvP_s (j := 12) rfl hc) hl))
theorem J_astore_13 (X : JX K mn own cc n ret tb w0 rm h0 post px) {a0 a1 a2 a3 a4 a5 a6 a7 a8 a9 a10 a11 a12 : Option Value} {r : LV} {o : Option Value} {x : Nat} (d : decode cc pc = .ok (.astore 13, 2)) (hc : lvC a12 = true) (hn : 13 < n) (k : J K h (a0 :: a1 :: a2 :: a3 :: a4 :: a5 :: a6 :: a7 :: a8 :: a9 :: a10 :: a11 :: a12 :: some (.ref x) :: r) st (pc + 2) cells slots) : J K h (a0 :: a1 :: a2 :: a3 :: a4 :: a5 :: a6 :: a7 :: a8 :: a9 :: a10 :: a11 :: a12 :: o :: r) (.ref x :: st) pc cells slots := fun H locs ls hP hD hS hl => lv_astore X.1 X.2.1 d hl (by rw [X.2.2.1]; exact hn) rfl (fun ls hl => k H locs ls hP hD hS (lvA_set (lvP_s (j := 12) rfl hc) hl))
theorem J_lstore_13 (X : JX K mn own cc n ret tb w0 rm h0 post px) {a0 a1 a2 a3 a4 a5 a6 a7 a8 a9 a10 a11 a12 : Option Value} {r : LV} {o : Option Value} {o2 : Option Value} {x : Int64} (d : decode cc pc = .ok (.lstore 13, 2)) (hc : lvC a12 = true) (hn : 13 + 1 < n) (k : J K h (a0 :: a1 :: a2 :: a3 :: a4 :: a5 :: a6 :: a7 :: a8 :: a9 :: a10 :: a11 :: a12 :: some (.long x) :: none :: r) st (pc + 2) cells slots) : J K h (a0 :: a1 :: a2 :: a3 :: a4 :: a5 :: a6 :: a7 :: a8 :: a9 :: a10 :: a11 :: a12 :: o :: o2 :: r) (.long x :: st) pc cells slots := fun H locs ls hP hD hS hl => lv_lstore X.1 X.2.1 d hl (by rw [X.2.2.1]; exact hn) rfl (fun ls hl => k H locs ls hP hD hS (lvA_setL (lvP_s (j := 12) rfl hc) hl))
theorem J_iinc_13 (X : JX K mn own cc n ret tb w0 rm h0 post px) {a0 a1 a2 a3 a4 a5 a6 a7 a8 a9 a10 a11 a12 : Option Value} {r : LV} {z : Int} {x v : Int32} (d : decode cc pc = .ok (.iinc 13 z, 3)) (hv : x + Int32.ofInt z = v) (hc : lvC a12 = true) (hn : 13 < n) (k : J K h (a0 :: a1 :: a2 :: a3 :: a4 :: a5 :: a6 :: a7 :: a8 :: a9 :: a10 :: a11 :: a12 :: some (.int v) :: r) st (pc + 3) cells slots) : J K h (a0 :: a1 :: a2 :: a3 :: a4 :: a5 :: a6 :: a7 :: a8 :: a9 :: a10 :: a11 :: a12 :: some (.int x) :: r) st pc cells slots := by
  obtain ⟨j, hj⟩ := lvA_place (lv := (a0 :: a1 :: a2 :: a3 :: a4 :: a5 :: a6 :: a7 :: a8 :: a9 :: a10 :: a11 :: a12 :: some (.int x) :: r)) (i := 13) (v := .int x) rfl
  exact fun H locs ls hP hD hS hl => lv_iinc X.1 X.2.1 d hl hj hv (by rw [X.2.2.1]; exact hn) rfl (fun ls hl => k H locs ls hP hD hS (lvA_set (lvP_s (j := 12) rfl hc) hl))
theorem J_iload_14 (X : JX K mn own cc n ret tb w0 rm h0 post px) {a0 a1 a2 a3 a4 a5 a6 a7 a8 a9 a10 a11 a12 a13 : Option Value} {r : LV} {x : Int32} (d : decode cc pc = .ok (.iload 14, 2))  (k : J K h (a0 :: a1 :: a2 :: a3 :: a4 :: a5 :: a6 :: a7 :: a8 :: a9 :: a10 :: a11 :: a12 :: a13 :: some (.int x) :: r) (.int x :: st) (pc + 2) cells slots) : J K h (a0 :: a1 :: a2 :: a3 :: a4 :: a5 :: a6 :: a7 :: a8 :: a9 :: a10 :: a11 :: a12 :: a13 :: some (.int x) :: r) st pc cells slots := fun H locs ls hP hD hS hl => lv_iload X.1 X.2.1 d (lvA_at hl rfl) (k H locs ls hP hD hS hl)
theorem J_lload_14 (X : JX K mn own cc n ret tb w0 rm h0 post px) {a0 a1 a2 a3 a4 a5 a6 a7 a8 a9 a10 a11 a12 a13 : Option Value} {r : LV} {x : Int64} (d : decode cc pc = .ok (.lload 14, 2))  (k : J K h (a0 :: a1 :: a2 :: a3 :: a4 :: a5 :: a6 :: a7 :: a8 :: a9 :: a10 :: a11 :: a12 :: a13 :: some (.long x) :: r) (.long x :: st) (pc + 2) cells slots) : J K h (a0 :: a1 :: a2 :: a3 :: a4 :: a5 :: a6 :: a7 :: a8 :: a9 :: a10 :: a11 :: a12 :: a13 :: some (.long x) :: r) st pc cells slots := fun H locs ls hP hD hS hl => lv_lload X.1 X.2.1 d (lvA_at hl rfl) (k H locs ls hP hD hS hl)
theorem J_aload_14 (X : JX K mn own cc n ret tb w0 rm h0 post px) {a0 a1 a2 a3 a4 a5 a6 a7 a8 a9 a10 a11 a12 a13 : Option Value} {r : LV} {x : Nat} (d : decode cc pc = .ok (.aload 14, 2))  (k : J K h (a0 :: a1 :: a2 :: a3 :: a4 :: a5 :: a6 :: a7 :: a8 :: a9 :: a10 :: a11 :: a12 :: a13 :: some (.ref x) :: r) (.ref x :: st) (pc + 2) cells slots) : J K h (a0 :: a1 :: a2 :: a3 :: a4 :: a5 :: a6 :: a7 :: a8 :: a9 :: a10 :: a11 :: a12 :: a13 :: some (.ref x) :: r) st pc cells slots := fun H locs ls hP hD hS hl => lv_aload X.1 X.2.1 d (lvA_at hl rfl) (k H locs ls hP hD hS hl)
theorem J_istore_14 (X : JX K mn own cc n ret tb w0 rm h0 post px) {a0 a1 a2 a3 a4 a5 a6 a7 a8 a9 a10 a11 a12 a13 : Option Value} {r : LV} {o : Option Value} {x : Int32} (d : decode cc pc = .ok (.istore 14, 2)) (hc : lvC a13 = true) (hn : 14 < n) (k : J K h (a0 :: a1 :: a2 :: a3 :: a4 :: a5 :: a6 :: a7 :: a8 :: a9 :: a10 :: a11 :: a12 :: a13 :: some (.int x) :: r) st (pc + 2) cells slots) : J K h (a0 :: a1 :: a2 :: a3 :: a4 :: a5 :: a6 :: a7 :: a8 :: a9 :: a10 :: a11 :: a12 :: a13 :: o :: r) (.int x :: st) pc cells slots := fun H locs ls hP hD hS hl => lv_istore X.1 X.2.1 d hl (by rw [X.2.2.1]; exact hn) rfl (fun ls hl => k H locs ls hP hD hS (lvA_set (lvP_s (j := 13) rfl hc) hl))
theorem J_astore_14 (X : JX K mn own cc n ret tb w0 rm h0 post px) {a0 a1 a2 a3 a4 a5 a6 a7 a8 a9 a10 a11 a12 a13 : Option Value} {r : LV} {o : Option Value} {x : Nat} (d : decode cc pc = .ok (.astore 14, 2)) (hc : lvC a13 = true) (hn : 14 < n) (k : J K h (a0 :: a1 :: a2 :: a3 :: a4 :: a5 :: a6 :: a7 :: a8 :: a9 :: a10 :: a11 :: a12 :: a13 :: some (.ref x) :: r) st (pc + 2) cells slots) : J K h (a0 :: a1 :: a2 :: a3 :: a4 :: a5 :: a6 :: a7 :: a8 :: a9 :: a10 :: a11 :: a12 :: a13 :: o :: r) (.ref x :: st) pc cells slots := fun H locs ls hP hD hS hl => lv_astore X.1 X.2.1 d hl (by rw [X.2.2.1]; exact hn) rfl (fun ls hl => k H locs ls hP hD hS (lvA_set (lvP_s (j := 13) rfl hc) hl))
theorem J_lstore_14 (X : JX K mn own cc n ret tb w0 rm h0 post px) {a0 a1 a2 a3 a4 a5 a6 a7 a8 a9 a10 a11 a12 a13 : Option Value} {r : LV} {o : Option Value} {o2 : Option Value} {x : Int64} (d : decode cc pc = .ok (.lstore 14, 2)) (hc : lvC a13 = true) (hn : 14 + 1 < n) (k : J K h (a0 :: a1 :: a2 :: a3 :: a4 :: a5 :: a6 :: a7 :: a8 :: a9 :: a10 :: a11 :: a12 :: a13 :: some (.long x) :: none :: r) st (pc + 2) cells slots) : J K h (a0 :: a1 :: a2 :: a3 :: a4 :: a5 :: a6 :: a7 :: a8 :: a9 :: a10 :: a11 :: a12 :: a13 :: o :: o2 :: r) (.long x :: st) pc cells slots := fun H locs ls hP hD hS hl => lv_lstore X.1 X.2.1 d hl (by rw [X.2.2.1]; exact hn) rfl (fun ls hl => k H locs ls hP hD hS (lvA_setL (lvP_s (j := 13) rfl hc) hl))
theorem J_iinc_14 (X : JX K mn own cc n ret tb w0 rm h0 post px) {a0 a1 a2 a3 a4 a5 a6 a7 a8 a9 a10 a11 a12 a13 : Option Value} {r : LV} {z : Int} {x v : Int32} (d : decode cc pc = .ok (.iinc 14 z, 3)) (hv : x + Int32.ofInt z = v) (hc : lvC a13 = true) (hn : 14 < n) (k : J K h (a0 :: a1 :: a2 :: a3 :: a4 :: a5 :: a6 :: a7 :: a8 :: a9 :: a10 :: a11 :: a12 :: a13 :: some (.int v) :: r) st (pc + 3) cells slots) : J K h (a0 :: a1 :: a2 :: a3 :: a4 :: a5 :: a6 :: a7 :: a8 :: a9 :: a10 :: a11 :: a12 :: a13 :: some (.int x) :: r) st pc cells slots := by
  obtain ⟨j, hj⟩ := lvA_place (lv := (a0 :: a1 :: a2 :: a3 :: a4 :: a5 :: a6 :: a7 :: a8 :: a9 :: a10 :: a11 :: a12 :: a13 :: some (.int x) :: r)) (i := 14) (v := .int x) rfl
  exact fun H locs ls hP hD hS hl => lv_iinc X.1 X.2.1 d hl hj hv (by rw [X.2.2.1]; exact hn) rfl (fun ls hl => k H locs ls hP hD hS (lvA_set (lvP_s (j := 13) rfl hc) hl))
theorem J_iload_15 (X : JX K mn own cc n ret tb w0 rm h0 post px) {a0 a1 a2 a3 a4 a5 a6 a7 a8 a9 a10 a11 a12 a13 a14 : Option Value} {r : LV} {x : Int32} (d : decode cc pc = .ok (.iload 15, 2))  (k : J K h (a0 :: a1 :: a2 :: a3 :: a4 :: a5 :: a6 :: a7 :: a8 :: a9 :: a10 :: a11 :: a12 :: a13 :: a14 :: some (.int x) :: r) (.int x :: st) (pc + 2) cells slots) : J K h (a0 :: a1 :: a2 :: a3 :: a4 :: a5 :: a6 :: a7 :: a8 :: a9 :: a10 :: a11 :: a12 :: a13 :: a14 :: some (.int x) :: r) st pc cells slots := fun H locs ls hP hD hS hl => lv_iload X.1 X.2.1 d (lvA_at hl rfl) (k H locs ls hP hD hS hl)
theorem J_lload_15 (X : JX K mn own cc n ret tb w0 rm h0 post px) {a0 a1 a2 a3 a4 a5 a6 a7 a8 a9 a10 a11 a12 a13 a14 : Option Value} {r : LV} {x : Int64} (d : decode cc pc = .ok (.lload 15, 2))  (k : J K h (a0 :: a1 :: a2 :: a3 :: a4 :: a5 :: a6 :: a7 :: a8 :: a9 :: a10 :: a11 :: a12 :: a13 :: a14 :: some (.long x) :: r) (.long x :: st) (pc + 2) cells slots) : J K h (a0 :: a1 :: a2 :: a3 :: a4 :: a5 :: a6 :: a7 :: a8 :: a9 :: a10 :: a11 :: a12 :: a13 :: a14 :: some (.long x) :: r) st pc cells slots := fun H locs ls hP hD hS hl => lv_lload X.1 X.2.1 d (lvA_at hl rfl) (k H locs ls hP hD hS hl)
theorem J_aload_15 (X : JX K mn own cc n ret tb w0 rm h0 post px) {a0 a1 a2 a3 a4 a5 a6 a7 a8 a9 a10 a11 a12 a13 a14 : Option Value} {r : LV} {x : Nat} (d : decode cc pc = .ok (.aload 15, 2))  (k : J K h (a0 :: a1 :: a2 :: a3 :: a4 :: a5 :: a6 :: a7 :: a8 :: a9 :: a10 :: a11 :: a12 :: a13 :: a14 :: some (.ref x) :: r) (.ref x :: st) (pc + 2) cells slots) : J K h (a0 :: a1 :: a2 :: a3 :: a4 :: a5 :: a6 :: a7 :: a8 :: a9 :: a10 :: a11 :: a12 :: a13 :: a14 :: some (.ref x) :: r) st pc cells slots := fun H locs ls hP hD hS hl => lv_aload X.1 X.2.1 d (lvA_at hl rfl) (k H locs ls hP hD hS hl)
theorem J_istore_15 (X : JX K mn own cc n ret tb w0 rm h0 post px) {a0 a1 a2 a3 a4 a5 a6 a7 a8 a9 a10 a11 a12 a13 a14 : Option Value} {r : LV} {o : Option Value} {x : Int32} (d : decode cc pc = .ok (.istore 15, 2)) (hc : lvC a14 = true) (hn : 15 < n) (k : J K h (a0 :: a1 :: a2 :: a3 :: a4 :: a5 :: a6 :: a7 :: a8 :: a9 :: a10 :: a11 :: a12 :: a13 :: a14 :: some (.int x) :: r) st (pc + 2) cells slots) : J K h (a0 :: a1 :: a2 :: a3 :: a4 :: a5 :: a6 :: a7 :: a8 :: a9 :: a10 :: a11 :: a12 :: a13 :: a14 :: o :: r) (.int x :: st) pc cells slots := fun H locs ls hP hD hS hl => lv_istore X.1 X.2.1 d hl (by rw [X.2.2.1]; exact hn) rfl (fun ls hl => k H locs ls hP hD hS (lvA_set (lvP_s (j := 14) rfl hc) hl))
theorem J_astore_15 (X : JX K mn own cc n ret tb w0 rm h0 post px) {a0 a1 a2 a3 a4 a5 a6 a7 a8 a9 a10 a11 a12 a13 a14 : Option Value} {r : LV} {o : Option Value} {x : Nat} (d : decode cc pc = .ok (.astore 15, 2)) (hc : lvC a14 = true) (hn : 15 < n) (k : J K h (a0 :: a1 :: a2 :: a3 :: a4 :: a5 :: a6 :: a7 :: a8 :: a9 :: a10 :: a11 :: a12 :: a13 :: a14 :: some (.ref x) :: r) st (pc + 2) cells slots) : J K h (a0 :: a1 :: a2 :: a3 :: a4 :: a5 :: a6 :: a7 :: a8 :: a9 :: a10 :: a11 :: a12 :: a13 :: a14 :: o :: r) (.ref x :: st) pc cells slots := fun H locs ls hP hD hS hl => lv_astore X.1 X.2.1 d hl (by rw [X.2.2.1]; exact hn) rfl (fun ls hl => k H locs ls hP hD hS (lvA_set (lvP_s (j := 14) rfl hc) hl))
theorem J_lstore_15 (X : JX K mn own cc n ret tb w0 rm h0 post px) {a0 a1 a2 a3 a4 a5 a6 a7 a8 a9 a10 a11 a12 a13 a14 : Option Value} {r : LV} {o : Option Value} {o2 : Option Value} {x : Int64} (d : decode cc pc = .ok (.lstore 15, 2)) (hc : lvC a14 = true) (hn : 15 + 1 < n) (k : J K h (a0 :: a1 :: a2 :: a3 :: a4 :: a5 :: a6 :: a7 :: a8 :: a9 :: a10 :: a11 :: a12 :: a13 :: a14 :: some (.long x) :: none :: r) st (pc + 2) cells slots) : J K h (a0 :: a1 :: a2 :: a3 :: a4 :: a5 :: a6 :: a7 :: a8 :: a9 :: a10 :: a11 :: a12 :: a13 :: a14 :: o :: o2 :: r) (.long x :: st) pc cells slots := fun H locs ls hP hD hS hl => lv_lstore X.1 X.2.1 d hl (by rw [X.2.2.1]; exact hn) rfl (fun ls hl => k H locs ls hP hD hS (lvA_setL (lvP_s (j := 14) rfl hc) hl))
theorem J_iinc_15 (X : JX K mn own cc n ret tb w0 rm h0 post px) {a0 a1 a2 a3 a4 a5 a6 a7 a8 a9 a10 a11 a12 a13 a14 : Option Value} {r : LV} {z : Int} {x v : Int32} (d : decode cc pc = .ok (.iinc 15 z, 3)) (hv : x + Int32.ofInt z = v) (hc : lvC a14 = true) (hn : 15 < n) (k : J K h (a0 :: a1 :: a2 :: a3 :: a4 :: a5 :: a6 :: a7 :: a8 :: a9 :: a10 :: a11 :: a12 :: a13 :: a14 :: some (.int v) :: r) st (pc + 3) cells slots) : J K h (a0 :: a1 :: a2 :: a3 :: a4 :: a5 :: a6 :: a7 :: a8 :: a9 :: a10 :: a11 :: a12 :: a13 :: a14 :: some (.int x) :: r) st pc cells slots := by
  obtain ⟨j, hj⟩ := lvA_place (lv := (a0 :: a1 :: a2 :: a3 :: a4 :: a5 :: a6 :: a7 :: a8 :: a9 :: a10 :: a11 :: a12 :: a13 :: a14 :: some (.int x) :: r)) (i := 15) (v := .int x) rfl
  exact fun H locs ls hP hD hS hl => lv_iinc X.1 X.2.1 d hl hj hv (by rw [X.2.2.1]; exact hn) rfl (fun ls hl => k H locs ls hP hD hS (lvA_set (lvP_s (j := 14) rfl hc) hl))
theorem J_iadd (X : JX K mn own cc n ret tb w0 rm h0 post px) {x y : Int32} (d : decode cc pc = .ok (.iadd, 1))  (k : J K h lv (.int (x + y) :: st) (pc + 1) cells slots) : J K h lv (.int y :: .int x :: st) pc cells slots := fun H locs ls hP hD hS hl => lv_iadd X.1 X.2.1 d (k H locs ls hP hD hS hl)
theorem J_isub (X : JX K mn own cc n ret tb w0 rm h0 post px) {x y : Int32} (d : decode cc pc = .ok (.isub, 1))  (k : J K h lv (.int (x - y) :: st) (pc + 1) cells slots) : J K h lv (.int y :: .int x :: st) pc cells slots := fun H locs ls hP hD hS hl => lv_isub X.1 X.2.1 d (k H locs ls hP hD hS hl)
theorem J_imul (X : JX K mn own cc n ret tb w0 rm h0 post px) {x y : Int32} (d : decode cc pc = .ok (.imul, 1))  (k : J K h lv (.int (x * y) :: st) (pc + 1) cells slots) : J K h lv (.int y :: .int x :: st) pc cells slots := fun H locs ls hP hD hS hl => lv_imul X.1 X.2.1 d (k H locs ls hP hD hS hl)
theorem J_iand (X : JX K mn own cc n ret tb w0 rm h0 post px) {x y : Int32} (d : decode cc pc = .ok (.iand, 1))  (k : J K h lv (.int (x &&& y) :: st) (pc + 1) cells slots) : J K h lv (.int y :: .int x :: st) pc cells slots := fun H locs ls hP hD hS hl => lv_iand X.1 X.2.1 d (k H locs ls hP hD hS hl)
theorem J_ishl (X : JX K mn own cc n ret tb w0 rm h0 post px) {x y : Int32} (d : decode cc pc = .ok (.ishl, 1))  (k : J K h lv (.int (x <<< (y &&& 31)) :: st) (pc + 1) cells slots) : J K h lv (.int y :: .int x :: st) pc cells slots := fun H locs ls hP hD hS hl => lv_ishl X.1 X.2.1 d (k H locs ls hP hD hS hl)
theorem J_ishr (X : JX K mn own cc n ret tb w0 rm h0 post px) {x y : Int32} (d : decode cc pc = .ok (.ishr, 1))  (k : J K h lv (.int (x >>> (y &&& 31)) :: st) (pc + 1) cells slots) : J K h lv (.int y :: .int x :: st) pc cells slots := fun H locs ls hP hD hS hl => lv_ishr X.1 X.2.1 d (k H locs ls hP hD hS hl)
theorem J_idiv (X : JX K mn own cc n ret tb w0 rm h0 post px) {x y : Int32} (d : decode cc pc = .ok (.idiv, 1)) (hne : ¬ y = 0) (k : J K h lv (.int (x / y) :: st) (pc + 1) cells slots) : J K h lv (.int y :: .int x :: st) pc cells slots := fun H locs ls hP hD hS hl => lv_idiv X.1 X.2.1 d hne (k H locs ls hP hD hS hl)
theorem J_irem (X : JX K mn own cc n ret tb w0 rm h0 post px) {x y : Int32} (d : decode cc pc = .ok (.irem, 1)) (hne : ¬ y = 0) (k : J K h lv (.int (x - x / y * y) :: st) (pc + 1) cells slots) : J K h lv (.int y :: .int x :: st) pc cells slots := fun H locs ls hP hD hS hl => lv_irem X.1 X.2.1 d hne (k H locs ls hP hD hS hl)
theorem J_ladd (X : JX K mn own cc n ret tb w0 rm h0 post px) {x y : Int64} (d : decode cc pc = .ok (.ladd, 1))  (k : J K h lv (.long (x + y) :: st) (pc + 1) cells slots) : J K h lv (.long y :: .long x :: st) pc cells slots := fun H locs ls hP hD hS hl => lv_ladd X.1 X.2.1 d (k H locs ls hP hD hS hl)
theorem J_lsub (X : JX K mn own cc n ret tb w0 rm h0 post px) {x y : Int64} (d : decode cc pc = .ok (.lsub, 1))  (k : J K h lv (.long (x - y) :: st) (pc + 1) cells slots) : J K h lv (.long y :: .long x :: st) pc cells slots := fun H locs ls hP hD hS hl => lv_lsub X.1 X.2.1 d (k H locs ls hP hD hS hl)
theorem J_lmul (X : JX K mn own cc n ret tb w0 rm h0 post px) {x y : Int64} (d : decode cc pc = .ok (.lmul, 1))  (k : J K h lv (.long (x * y) :: st) (pc + 1) cells slots) : J K h lv (.long y :: .long x :: st) pc cells slots := fun H locs ls hP hD hS hl => lv_lmul X.1 X.2.1 d (k H locs ls hP hD hS hl)
theorem J_ldiv (X : JX K mn own cc n ret tb w0 rm h0 post px) {x y : Int64} (d : decode cc pc = .ok (.ldiv, 1)) (hne : ¬ y = 0) (k : J K h lv (.long (x / y) :: st) (pc + 1) cells slots) : J K h lv (.long y :: .long x :: st) pc cells slots := fun H locs ls hP hD hS hl => lv_ldiv X.1 X.2.1 d hne (k H locs ls hP hD hS hl)
theorem J_ineg (X : JX K mn own cc n ret tb w0 rm h0 post px) {x : Int32} (d : decode cc pc = .ok (.ineg, 1))  (k : J K h lv (.int (-x) :: st) (pc + 1) cells slots) : J K h lv (.int x :: st) pc cells slots := fun H locs ls hP hD hS hl => lv_ineg X.1 X.2.1 d (k H locs ls hP hD hS hl)
theorem J_i2l (X : JX K mn own cc n ret tb w0 rm h0 post px) {x : Int32} (d : decode cc pc = .ok (.i2l, 1))  (k : J K h lv (.long x.toInt64 :: st) (pc + 1) cells slots) : J K h lv (.int x :: st) pc cells slots := fun H locs ls hP hD hS hl => lv_i2l X.1 X.2.1 d rfl (k H locs ls hP hD hS hl)
theorem J_lcmp (X : JX K mn own cc n ret tb w0 rm h0 post px) {x y : Int64} (d : decode cc pc = .ok (.lcmp, 1))  (k : J K h lv (.int (lg_cmp x y) :: st) (pc + 1) cells slots) : J K h lv (.long y :: .long x :: st) pc cells slots := fun H locs ls hP hD hS hl => W.lcmp X.1 X.2.1 d (k H locs ls hP hD hS hl)
theorem J_dup (X : JX K mn own cc n ret tb w0 rm h0 post px) {v : Value} (d : decode cc pc = .ok (.dup, 1)) (hv : v.category = 1) (k : J K h lv (v :: v :: st) (pc + 1) cells slots) : J K h lv (v :: st) pc cells slots := fun H locs ls hP hD hS hl => lv_dup X.1 X.2.1 d hv (k H locs ls hP hD hS hl)
theorem J_pop (X : JX K mn own cc n ret tb w0 rm h0 post px) {v : Value} (d : decode cc pc = .ok (.pop, 1)) (hv : v.category = 1) (k : J K h lv st (pc + 1) cells slots) : J K h lv (v :: st) pc cells slots := fun H locs ls hP hD hS hl => lv_pop X.1 X.2.1 d hv (k H locs ls hP hD hS hl)
theorem J_dup_x1 (X : JX K mn own cc n ret tb w0 rm h0 post px) {v w : Value} (d : decode cc pc = .ok (.dup_x1, 1)) (hv : v.category = 1) (hw : w.category = 1) (k : J K h lv (v :: w :: v :: st) (pc + 1) cells slots) : J K h lv (v :: w :: st) pc cells slots := fun H locs ls hP hD hS hl => lv_dup_x1 X.1 X.2.1 d hv hw (k H locs ls hP hD hS hl)
theorem J_dup2 (X : JX K mn own cc n ret tb w0 rm h0 post px) {v w : Value} (d : decode cc pc = .ok (.dup2, 1)) (hv : v.category = 1) (hw : w.category = 1) (k : J K h lv (v :: w :: v :: w :: st) (pc + 1) cells slots) : J K h lv (v :: w :: st) pc cells slots := fun H locs ls hP hD hS hl => lv_dup2_11 X.1 X.2.1 d hv hw (k H locs ls hP hD hS hl)
theorem J_if_eq (X : JX K mn own cc n ret tb w0 rm h0 post px) {x : Int32} {off : Int} {tgt : Nat} (d : decode cc pc = .ok (.ifCond .eq off, 3)) (ht : (pc : Int) + off = (tgt : Int)) (kt : x = 0 → J K h lv st tgt cells slots) (kf : ¬ x = 0 → J K h lv st (pc + 3) cells slots) : J K h lv (.int x :: st) pc cells slots := fun H locs ls hP hD hS hl => lv_if_eq X.1 X.2.1 d ht (fun c => kt c H locs ls hP hD hS hl) (fun c => kf c H locs ls hP hD hS hl)
theorem J_icmp_eq (X : JX K mn own cc n ret tb w0 rm h0 post px) {x y : Int32} {off : Int} {tgt : Nat} (d : decode cc pc = .ok (.if_icmp .eq off, 3)) (ht : (pc : Int) + off = (tgt : Int)) (kt : x = y → J K h lv st tgt cells slots) (kf : ¬ x = y → J K h lv st (pc + 3) cells slots) : J K h lv (.int y :: .int x :: st) pc cells slots := fun H locs ls hP hD hS hl => lv_icmp_eq X.1 X.2.1 d ht (fun c => kt c H locs ls hP hD hS hl) (fun c => kf c H locs ls hP hD hS hl)
theorem J_if_ne (X : JX K mn own cc n ret tb w0 rm h0 post px) {x : Int32} {off : Int} {tgt : Nat} (d : decode cc pc = .ok (.ifCond .ne off, 3)) (ht : (pc : Int) + off = (tgt : Int)) (kt : ¬ x = 0 → J K h lv st tgt cells slots) (kf : x = 0 → J K h lv st (pc + 3) cells slots) : J K h lv (.int x :: st) pc cells slots := fun H locs ls hP hD hS hl => lv_if_ne X.1 X.2.1 d ht (fun c => kt c H locs ls hP hD hS hl) (fun c => kf c H locs ls hP hD hS hl)
theorem J_icmp_ne (X : JX K mn own cc n ret tb w0 rm h0 post px) {x y : Int32} {off : Int} {tgt : Nat} (d : decode cc pc = .ok (.if_icmp .ne off, 3)) (ht : (pc : Int) + off = (tgt : Int)) (kt : ¬ x = y → J K h lv st tgt cells slots) (kf : x = y → J K h lv st (pc + 3) cells slots) : J K h lv (.int y :: .int x :: st) pc cells slots := fun H locs ls hP hD hS hl => lv_icmp_ne X.1 X.2.1 d ht (fun c => kt c H locs ls hP hD hS hl) (fun c => kf c H locs ls hP hD hS hl)
theorem J_if_lt (X : JX K mn own cc n ret tb w0 rm h0 post px) {x : Int32} {off : Int} {tgt : Nat} (d : decode cc pc = .ok (.ifCond .lt off, 3)) (ht : (pc : Int) + off = (tgt : Int)) (kt : x < 0 → J K h lv st tgt cells slots) (kf : ¬ x < 0 → J K h lv st (pc + 3) cells slots) : J K h lv (.int x :: st) pc cells slots := fun H locs ls hP hD hS hl => lv_if_lt X.1 X.2.1 d ht (fun c => kt c H locs ls hP hD hS hl) (fun c => kf c H locs ls hP hD hS hl)
theorem J_icmp_lt (X : JX K mn own cc n ret tb w0 rm h0 post px) {x y : Int32} {off : Int} {tgt : Nat} (d : decode cc pc = .ok (.if_icmp .lt off, 3)) (ht : (pc : Int) + off = (tgt : Int)) (kt : x < y → J K h lv st tgt cells slots) (kf : ¬ x < y → J K h lv st (pc + 3) cells slots) : J K h lv (.int y :: .int x :: st) pc cells slots := fun H locs ls hP hD hS hl => lv_icmp_lt X.1 X.2.1 d ht (fun c => kt c H locs ls hP hD hS hl) (fun c => kf c H locs ls hP hD hS hl)
theorem J_if_ge (X : JX K mn own cc n ret tb w0 rm h0 post px) {x : Int32} {off : Int} {tgt : Nat} (d : decode cc pc = .ok (.ifCond .ge off, 3)) (ht : (pc : Int) + off = (tgt : Int)) (kt : 0 ≤ x → J K h lv st tgt cells slots) (kf : ¬ 0 ≤ x → J K h lv st (pc + 3) cells slots) : J K h lv (.int x :: st) pc cells slots := fun H locs ls hP hD hS hl => lv_if_ge X.1 X.2.1 d ht (fun c => kt c H locs ls hP hD hS hl) (fun c => kf c H locs ls hP hD hS hl)
theorem J_icmp_ge (X : JX K mn own cc n ret tb w0 rm h0 post px) {x y : Int32} {off : Int} {tgt : Nat} (d : decode cc pc = .ok (.if_icmp .ge off, 3)) (ht : (pc : Int) + off = (tgt : Int)) (kt : y ≤ x → J K h lv st tgt cells slots) (kf : ¬ y ≤ x → J K h lv st (pc + 3) cells slots) : J K h lv (.int y :: .int x :: st) pc cells slots := fun H locs ls hP hD hS hl => lv_icmp_ge X.1 X.2.1 d ht (fun c => kt c H locs ls hP hD hS hl) (fun c => kf c H locs ls hP hD hS hl)
theorem J_if_gt (X : JX K mn own cc n ret tb w0 rm h0 post px) {x : Int32} {off : Int} {tgt : Nat} (d : decode cc pc = .ok (.ifCond .gt off, 3)) (ht : (pc : Int) + off = (tgt : Int)) (kt : 0 < x → J K h lv st tgt cells slots) (kf : ¬ 0 < x → J K h lv st (pc + 3) cells slots) : J K h lv (.int x :: st) pc cells slots := fun H locs ls hP hD hS hl => lv_if_gt X.1 X.2.1 d ht (fun c => kt c H locs ls hP hD hS hl) (fun c => kf c H locs ls hP hD hS hl)
theorem J_icmp_gt (X : JX K mn own cc n ret tb w0 rm h0 post px) {x y : Int32} {off : Int} {tgt : Nat} (d : decode cc pc = .ok (.if_icmp .gt off, 3)) (ht : (pc : Int) + off = (tgt : Int)) (kt : y < x → J K h lv st tgt cells slots) (kf : ¬ y < x → J K h lv st (pc + 3) cells slots) : J K h lv (.int y :: .int x :: st) pc cells slots := fun H locs ls hP hD hS hl => lv_icmp_gt X.1 X.2.1 d ht (fun c => kt c H locs ls hP hD hS hl) (fun c => kf c H locs ls hP hD hS hl)
theorem J_if_le (X : JX K mn own cc n ret tb w0 rm h0 post px) {x : Int32} {off : Int} {tgt : Nat} (d : decode cc pc = .ok (.ifCond .le off, 3)) (ht : (pc : Int) + off = (tgt : Int)) (kt : x ≤ 0 → J K h lv st tgt cells slots) (kf : ¬ x ≤ 0 → J K h lv st (pc + 3) cells slots) : J K h lv (.int x :: st) pc cells slots := fun H locs ls hP hD hS hl => lv_if_le X.1 X.2.1 d ht (fun c => kt c H locs ls hP hD hS hl) (fun c => kf c H locs ls hP hD hS hl)
theorem J_icmp_le (X : JX K mn own cc n ret tb w0 rm h0 post px) {x y : Int32} {off : Int} {tgt : Nat} (d : decode cc pc = .ok (.if_icmp .le off, 3)) (ht : (pc : Int) + off = (tgt : Int)) (kt : x ≤ y → J K h lv st tgt cells slots) (kf : ¬ x ≤ y → J K h lv st (pc + 3) cells slots) : J K h lv (.int y :: .int x :: st) pc cells slots := fun H locs ls hP hD hS hl => lv_icmp_le X.1 X.2.1 d ht (fun c => kt c H locs ls hP hD hS hl) (fun c => kf c H locs ls hP hD hS hl)
theorem J_acmp_eq (X : JX K mn own cc n ret tb w0 rm h0 post px) {x y : Nat} {off : Int} {tgt : Nat} (d : decode cc pc = .ok (.if_acmp .eq off, 3)) (ht : (pc : Int) + off = (tgt : Int)) (kt : x = y → J K h lv st tgt cells slots) (kf : ¬ x = y → J K h lv st (pc + 3) cells slots) : J K h lv (.ref y :: .ref x :: st) pc cells slots := fun H locs ls hP hD hS hl => lv_acmp_eq (rx := some x) (ry := some y) X.1 X.2.1 d ht (fun c => kt (by first | exact Option.some.inj c | exact fun z => c (congrArg some z)) H locs ls hP hD hS hl) (fun c => kf (by first | exact Option.some.inj c | exact fun z => c (congrArg some z)) H locs ls hP hD hS hl)
theorem J_acmp_ne (X : JX K mn own cc n ret tb w0 rm h0 post px) {x y : Nat} {off : Int} {tgt : Nat} (d : decode cc pc = .ok (.if_acmp .ne off, 3)) (ht : (pc : Int) + off = (tgt : Int)) (kt : ¬ x = y → J K h lv st tgt cells slots) (kf : x = y → J K h lv st (pc + 3) cells slots) : J K h lv (.ref y :: .ref x :: st) pc cells slots := fun H locs ls hP hD hS hl => lv_acmp_ne (rx := some x) (ry := some y) X.1 X.2.1 d ht (fun c => kt (by first | exact Option.some.inj c | exact fun z => c (congrArg some z)) H locs ls hP hD hS hl) (fun c => kf (by first | exact Option.some.inj c | exact fun z => c (congrArg some z)) H locs ls hP hD hS hl)
theorem J_goto (X : JX K mn own cc n ret tb w0 rm h0 post px) {off : Int} {tgt : Nat} (d : decode cc pc = .ok (.goto off, 3)) (ht : (pc : Int) + off = (tgt : Int)) (k : J K h lv st tgt cells slots) : J K h lv st pc cells slots := fun H locs ls hP hD hS hl => lv_goto X.1 X.2.1 d ht (k H locs ls hP hD hS hl)
theorem J_ldc (X : JX K mn own cc n ret tb w0 rm h0 post px) {i : Nat} {v : Int32} (d : decode cc pc = .ok (.ldc i, 2)) (hw : Cond.constant own i v ∈ GW) (k : J K h lv (.int v :: st) (pc + 2) cells slots) : J K h lv st pc cells slots := fun H locs ls hP hD hS hl => lv_ldc X.1 X.2.1 X.2.2.2.1 (J.w X hw) d (k H locs ls hP hD hS hl)
theorem J_ldc2 (X : JX K mn own cc n ret tb w0 rm h0 post px) {i : Nat} {v : Int64} (d : decode cc pc = .ok (.ldc2_w i, 3)) (hw : Cond.constantLong own i v ∈ GW) (k : J K h lv (.long v :: st) (pc + 3) cells slots) : J K h lv st pc cells slots := fun H locs ls hP hD hS hl => lv_ldc2 X.1 X.2.1 X.2.2.2.1 (J.w X hw) d (k H locs ls hP hD hS hl)
theorem J_tabOut (X : JX K mn own cc n ret tb w0 rm h0 post px) {dflt lo hi : Int} {offs : Array Int} {len : Nat} {x : Int32} {tgt : Nat} (d : decode cc pc = .ok (.tableswitch dflt lo hi offs, len)) (c : x.toInt < lo ∨ hi < x.toInt) (ht : (pc : Int) + dflt = (tgt : Int)) (k : J K h lv st tgt cells slots) : J K h lv (.int x :: st) pc cells slots := fun H locs ls hP hD hS hl => lv_tableOut X.1 X.2.1 d c ht (k H locs ls hP hD hS hl)
theorem J_tabIn (X : JX K mn own cc n ret tb w0 rm h0 post px) {dflt lo hi : Int} {offs : Array Int} {len : Nat} {x : Int32} {off : Int} {tgt : Nat} (d : decode cc pc = .ok (.tableswitch dflt lo hi offs, len)) (c1 : ¬ x.toInt < lo) (c2 : ¬ hi < x.toInt) (ho : offs[(x.toInt - lo).toNat]? = some off) (ht : (pc : Int) + off = (tgt : Int)) (k : J K h lv st tgt cells slots) : J K h lv (.int x :: st) pc cells slots := fun H locs ls hP hD hS hl => lv_tableIn X.1 X.2.1 d c1 c2 ho ht (k H locs ls hP hD hS hl)
theorem J.eqi {x y : Int32} (e : x = y) (k : J K h lv (.int y :: st) pc cells slots) : J K h lv (.int x :: st) pc cells slots := by rw [e]; exact k
theorem J.eq {st' : List Value} (e : lv = lv') (e2 : st = st') (k : J K h lv' st' pc cells slots) : J K h lv st pc cells slots := by rw [e, e2]; exact k
/-! fields -/
theorem J_get (X : JX K mn own cc n ret tb w0 rm h0 post px) {ref C : String} {T : u_T} {N ci ix a : Nat} {fs : List Value} {v : Value} (he : h a = some (.inr (ci, fs))) (hc : vwCl[ci]? = some (C, T, N)) (kf : Nat) (hk : kf < N) (hv : fs[kf]? = some v) (hin : ∀ w ∈ u_ws C T N, w ∈ GW)
    (hlink : Cond.fieldLink own ix ref (T kf).2.1 (T kf).2.2.1 ∈ GW) (hsame : ∀ x, (ks K).fieldFound? (T kf).1 (T kf).2.1 (T kf).2.2.1 = some x → (ks K).fieldFound? ref (T kf).2.1 (T kf).2.2.1 = some x) (d : decode cc pc = .ok (.getfield ix, 3))
    (k : J K h lv (v :: st) (pc + 3) cells slots) : J K h lv (.ref a :: st) pc cells slots := fun H locs ls hP hD hS hl =>
  va_get X.1 X.2.1 (J.tw X) hin X.2.2.2.1 X.2.2.2.2.2.1.1 (hP.one he) 0 rfl hc kf hk (J.w X hlink) hsame hv d (k H locs ls hP hD hS hl)
theorem J_put (X : JX K mn own cc n ret tb w0 rm h0 post px) {ref C : String} {T : u_T} {N ci ix a : Nat} {fs : List Value} {v : Value} (he : h a = some (.inr (ci, fs))) (hc : vwCl[ci]? = some (C, T, N)) (kf : Nat) (hk : kf < N) (hlen : kf < fs.length) (hin : ∀ w ∈ u_ws C T N, w ∈ GW)
    (ty0 : Nat → FieldType) (hty : ∀ k, k < N → parseFieldDescriptor (T k).2.2.1 = some (ty0 k)) (hnm : ∀ a, a < N → ∀ b, b < N → a ≠ b → (T a).2.1 ≠ (T b).2.1) (hfin : (T kf).2.2.2 = false) (hn : narrow (ty0 kf) v = v) (hfit : fits (ty0 kf) v = true)
    (hlink : Cond.fieldLink own ix ref (T kf).2.1 (T kf).2.2.1 ∈ GW) (hsame : ∀ x, (ks K).fieldFound? (T kf).1 (T kf).2.1 (T kf).2.2.1 = some x → (ks K).fieldFound? ref (T kf).2.1 (T kf).2.2.1 = some x) (d : decode cc pc = .ok (.putfield ix, 3))
    (k : J K (fU h a (.inr (ci, fs.set kf v))) lv st (pc + 3) cells slots) : J K h lv (v :: .ref a :: st) pc cells slots := fun H locs ls hP hD hS hl => by
  have hap := va_apart (own := own) (J.tw X) hin ty0 hty hnm X.2.2.2.2.2.1.1 hc
  obtain ⟨r, h1, cell, q1, q2, q3, q4⟩ := hP a _ he
  have hr : r = (C, T, N) := Option.some.inj (h1.symm.trans hc)
  subst hr
  obtain ⟨hSl, hfc, kC, hkC, hkind⟩ := X.2.2.2.2.2.1.1.1 ci _ hc
  obtain ⟨cf, kfc, fi, f, hi, hsl⟩ := hSl kf hk
  have hlay := J.w X (hin _ (u_in_lay hk))
  unfold u_lay at hlay
  rw [if_neg (by rw [hfin]; decide)] at hlay
  have hst := (u_facts hfc hkC (u_lays (J.tw X) hin hk) hi).1
  have h6 := u_store hfc hkC hkind hlay hi (hty kf hk) hn hfit
  refine W.putK X.1 X.2.1 (f := f) ⟨X.2.2.2.1, J.w X hlink, ⟨_, _, _, hsame _ hi⟩, hst⟩ (by rw [q2]; exact h6) q1 q3 (by rw [hsl]; exact k2_hasslot (q4 kf hk)) rfl rfl d fun H' e1 e2 e3 => ?_
  rw [hsl] at e1 ⊢
  have ha : kA K a := hD a (by rw [he]; exact fun z => by cases z)
  exact k H' _ ls (hP.upd ⟨_, hc, t_OB.to (V := updV (vp_V fs) kf v) ⟨_, e1, q2, q3, t_set q4 hap hk v⟩ (fun j _ => vp_updV_set hlen v j)⟩ (fun q hq _ => e3 q hq)) (fU_dom hD ha) (hS.put e2 e3 ha) hl
theorem J_putF (X : JX K mn own cc n ret tb w0 rm h0 post px) {ref C : String} {T : u_T} {N ci ix a : Nat} {fs : List Value} {v : Value} (he : h a = some (.inr (ci, fs))) (hc : vwCl[ci]? = some (C, T, N)) (kf : Nat) (hk : kf < N) (hlen : kf < fs.length) (hin : ∀ w ∈ u_ws C T N, w ∈ GW)
    (ty0 : Nat → FieldType) (hty : ∀ k, k < N → parseFieldDescriptor (T k).2.2.1 = some (ty0 k)) (hnm : ∀ a, a < N → ∀ b, b < N → a ≠ b → (T a).2.1 ≠ (T b).2.1) (hfin : (T kf).2.2.2 = true) (hmn : mn = "<init>") (hdecl : (T kf).1 = own) (hn : narrow (ty0 kf) v = v) (hfit : fits (ty0 kf) v = true)
    (hlink : Cond.fieldLink own ix ref (T kf).2.1 (T kf).2.2.1 ∈ GW) (hsame : ∀ x, (ks K).fieldFound? (T kf).1 (T kf).2.1 (T kf).2.2.1 = some x → (ks K).fieldFound? ref (T kf).2.1 (T kf).2.2.1 = some x) (d : decode cc pc = .ok (.putfield ix, 3))
    (k : J K (fU h a (.inr (ci, fs.set kf v))) lv st (pc + 3) cells slots) : J K h lv (v :: .ref a :: st) pc cells slots := fun H locs ls hP hD hS hl => by
  have hap := va_apart (own := own) (J.tw X) hin ty0 hty hnm X.2.2.2.2.2.1.1 hc
  obtain ⟨r, h1, cell, q1, q2, q3, q4⟩ := hP a _ he
  have hr : r = (C, T, N) := Option.some.inj (h1.symm.trans hc)
  subst hr
  obtain ⟨hSl, hfc, kC, hkC, hkind⟩ := X.2.2.2.2.2.1.1.1 ci _ hc
  obtain ⟨cf, kfc, fi, f, hi, hsl⟩ := hSl kf hk
  have hlay := J.w X (hin _ (u_in_lay hk))
  unfold u_lay at hlay
  rw [if_pos hfin] at hlay
  have hst := (u_facts hfc hkC (u_lays (J.tw X) hin hk) hi).1
  have hcf : (km K).cls = cf := by
    obtain ⟨_, _, c', _, _, _, -, -, hf', -, -, -, hown2, -⟩ := Cond.laysFinal_spec hlay
    have e1 : c' = cf := by have := hi.symm.trans hf'; simp at this; exact this.1.symm
    rw [hdecl] at hown2
    rw [← e1]; exact Option.some.inj (X.2.2.2.1.symm.trans hown2)
  have h6 := u_fits hfc hkC hkind (Or.inr hlay) hi (hty kf hk) hn hfit
  have hin2 : (kmt K).name = "<init>" := X.2.2.2.2.2.2.2.2.2.2.2.2.1.trans hmn
  refine W.putFinK X.1 X.2.1 X.2.2.2.1 (J.w X hlink) (hsame _ hi) hst hcf hin2 (by rw [q2]; exact h6) q1 q3 (by rw [hsl]; exact k2_hasslot (q4 kf hk)) rfl rfl d fun H' e1 e2 e3 => ?_
  rw [hsl] at e1 ⊢
  have ha : kA K a := hD a (by rw [he]; exact fun z => by cases z)
  exact k H' _ ls (hP.upd ⟨_, hc, t_OB.to (V := updV (vp_V fs) kf v) ⟨_, e1, q2, q3, t_set q4 hap hk v⟩ (fun j _ => vp_updV_set hlen v j)⟩ (fun q hq _ => e3 q hq)) (fU_dom hD ha) (hS.put e2 e3 ha) hl
/-! arrays -/
theorem J_iald (X : JX K mn own cc n ret tb w0 rm h0 post px) {a N : Nat} {f : Nat → Int32} {i : Int32} (he : h a = some (.inl (kca K 0, N, .inl f))) (hin : vp_in i N) (d : decode cc pc = .ok (.iaload, 1)) (k : J K h lv (.int (f i.toNatClampNeg) :: st) (pc + 1) cells slots) : J K h lv (.int i :: .ref a :: st) pc cells slots :=
  fun H locs ls hP hD hS hl => va_iald X.1 X.2.1 X.2.2.2.2.2.1.1 (hP.one he) 0 0 rfl rfl hin d (k H locs ls hP hD hS hl)
theorem J_zald (X : JX K mn own cc n ret tb w0 rm h0 post px) {a N : Nat} {f : Nat → Int32} {i : Int32} (he : h a = some (.inl (kca K 1, N, .inl f))) (hin : vp_in i N) (d : decode cc pc = .ok (.baload, 1)) (k : J K h lv (.int (f i.toNatClampNeg) :: st) (pc + 1) cells slots) : J K h lv (.int i :: .ref a :: st) pc cells slots :=
  fun H locs ls hP hD hS hl => va_zald X.1 X.2.1 X.2.2.2.2.2.1.1 (hP.one he) 0 1 rfl rfl hin d (k H locs ls hP hD hS hl)
theorem J_aald (X : JX K mn own cc n ret tb w0 rm h0 post px) {a N : Nat} {f : Nat → Option Nat} {i : Int32} (he : h a = some (.inl (kca K 2, N, fRefs f))) (hin : vp_in i N) (d : decode cc pc = .ok (.aaload, 1)) (k : J K h lv (va_rf (f i.toNatClampNeg) :: st) (pc + 1) cells slots) : J K h lv (.int i :: .ref a :: st) pc cells slots :=
  fun H locs ls hP hD hS hl => va_aldq X.1 X.2.1 X.2.2.2.2.2.1.1 (hP.one he) 0 2 rfl rfl hin d (k H locs ls hP hD hS hl)
theorem J_alen (X : JX K mn own cc n ret tb w0 rm h0 post px) {a : Nat} {t : Nat} {cA : ClassId} {ty : FieldType} {x : vp_A} {v : Int32} (he : h a = some (.inl (cA, x))) (ht : (fT (kca K))[t]? = some (cA, ty)) (hv : Int32.ofNat x.1 = v) (d : decode cc pc = .ok (.arraylength, 1)) (k : J K h lv (.int v :: st) (pc + 1) cells slots) : J K h lv (.ref a :: st) pc cells slots :=
  fun H locs ls hP hD hS hl => va_alen X.1 X.2.1 X.2.2.2.2.2.1.1 (hP.one he) 0 t rfl ht hv d (k H locs ls hP hD hS hl)
/-- a store's row of the kit over one cell, turned to the whole heap -/
theorem J.store {a : Nat} {e e' : va_E} {H : Heap} {locs : List Loc} {ls : Array Slot} (he : h a = some e) (hP : fP (kD K) h H) (hD : ∀ q, h q ≠ none → kA K q) (hS : va_S (kA K) (ks K).heap H locs) (hl : lv_has ls (kc K).maxLocals (lvA 0 lv)) {pc' : Nat}
    (k : J K (fU h a e') lv st pc' cells slots) (H1 : Heap) (j : Nat) (h1 : va_at (kD K) vwCl (a, e') H1) (hz : H1.size = H.size) (ho : ∀ q : Nat, q ≠ a → H1[q]? = H[q]?) : W (kp K) (kl K) (ke K) (kR K) (ks K) (km K) (ka K) (kb K) (kmt K) (kc K) H1 (locs ++ [⟨a, j⟩]) cells slots (kQ K) (F0 (km K) pc' ls st) := by
  have ha : kA K a := hD a (by rw [he]; exact fun z => by cases z)
  exact k H1 _ ls (hP.upd h1 (fun q hq _ => ho q hq)) (fU_dom hD ha) (hS.put hz ho ha) hl
theorem J_iast (X : JX K mn own cc n ret tb w0 rm h0 post px) {a N : Nat} {f : Nat → Int32} {i x : Int32} (he : h a = some (.inl (kca K 0, N, .inl f))) (hin : vp_in i N) (d : decode cc pc = .ok (.iastore, 1)) (k : J K (fU h a (.inl (kca K 0, N, .inl (upd f i.toNatClampNeg x)))) lv st (pc + 1) cells slots) : J K h lv (.int x :: .int i :: .ref a :: st) pc cells slots :=
  fun H locs ls hP hD hS hl => by
  have ha : kA K a := hD a (by rw [he]; exact fun z => by cases z)
  have hlt : i.toNatClampNeg < N := Nat.not_le.mp fun q => hin (Or.inr q)
  refine W.iast X.1 X.2.1 (hP a _ he) ((X.2.2.2.2.2.1.1.2 0 _ rfl).1 N (fun j => .int (f j))) (fun z => by cases z) (by show ¬ (i < 0 ∨ (vp_cell (kca K 0) (N, .inl f)).slots.size ≤ _); rw [vp_cell_i, arrV_size]; exact hin) rfl rfl d (fun H1 e z oq => ?_)
  refine J.store he hP hD hS hl k H1 _ ?_ z oq
  show H1[a]? = some (vp_cell _ _)
  rw [e, vp_cell_i, vp_cell_i, arrV_store]
  congr 2
  funext q
  by_cases hq : q = i.toNatClampNeg
  · subst hq
    simp [updV, upd]
  · simp [updV, upd, hq]
theorem J_zast (X : JX K mn own cc n ret tb w0 rm h0 post px) {a N : Nat} {f : Nat → Int32} {i x : Int32} (he : h a = some (.inl (kca K 1, N, .inl f))) (hx : x = 0 ∨ x = 1) (hin : vp_in i N) (d : decode cc pc = .ok (.bastore, 1)) (k : J K (fU h a (.inl (kca K 1, N, .inl (upd f i.toNatClampNeg x)))) lv st (pc + 1) cells slots) : J K h lv (.int x :: .int i :: .ref a :: st) pc cells slots :=
  fun H locs ls hP hD hS hl => by
  have hlt : i.toNatClampNeg < N := Nat.not_le.mp fun q => hin (Or.inr q)
  refine W.zast X.1 X.2.1 (hP a _ he) ((X.2.2.2.2.2.1.1.2 1 _ rfl).1 N (fun j => .int (f j))) (fun z => by cases z) (by show ¬ (i < 0 ∨ (vp_cell (kca K 1) (N, .inl f)).slots.size ≤ _); rw [vp_cell_i, arrV_size]; exact hin) rfl rfl d (fun H1 e z oq => ?_)
  refine J.store he hP hD hS hl k H1 _ ?_ z oq
  show H1[a]? = some (vp_cell _ _)
  rw [e, vp_cell_i, vp_cell_i, arrV_store]
  congr 2
  funext q
  by_cases hq : q = i.toNatClampNeg
  · subst hq
    rcases hx with rfl | rfl <;> simp [updV, upd, vp_nar, narrow] <;> try rfl
  · simp [updV, upd, hq]
end JROWS
