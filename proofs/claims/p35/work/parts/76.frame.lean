noncomputable section
/-- one heap beside another -/
def un (hx hf : fH) : fH := fun a => match hx a with | some e => some e | none => hf a
def one (o : Nat) (e : va_E) : fH := fun a => if a = o then some e else none
def apart (hx hf : fH) : Prop := ∀ a, hx a ≠ none → hf a = none
theorem un_l {hx hf : fH} {a : Nat} {e : va_E} (h : hx a = some e) : un hx hf a = some e := by
  unfold un
  rw [h]
theorem un_r {hx hf : fH} {a : Nat} (h : hx a = none) : un hx hf a = hf a := by
  unfold un
  rw [h]
theorem apart.sym {hx hf : fH} (h : apart hx hf) : apart hf hx := fun a ha => by
  cases q : hx a with
  | none => rfl
  | some e => exact absurd (h a (by rw [q]; exact fun z => by cases z)) ha
theorem un_comm {hx hf : fH} (h : apart hx hf) : un hx hf = un hf hx := by
  funext a
  cases q : hx a with
  | none =>
    rw [un_r q]
    cases r : hf a with
    | none => rw [un_r r, q]
    | some e => rw [un_l r]
  | some e =>
    rw [un_l q]
    have h1 := h a (by rw [q]; exact fun z => by cases z)
    rw [un_r h1, q]
theorem un_assoc {a b c : fH} : un (un a b) c = un a (un b c) := by
  funext x
  cases q : a x with
  | some e => rw [un_l (un_l q), un_l q]
  | none =>
    rw [un_r (hf := un b c) q]
    cases r : b x with
    | some e => rw [un_l (by rw [un_r q]; exact r), un_l r]
    | none => rw [un_r (by rw [un_r q]; exact r), un_r r]
theorem apart.un {a b c : fH} (h1 : apart a c) (h2 : apart b c) : apart (un a b) c := fun x hx => by
  cases q : a x with
  | some e => exact h1 x (by rw [q]; exact fun z => by cases z)
  | none =>
    rw [un_r q] at hx
    exact h2 x hx
theorem one_same (o : Nat) (e : va_E) : one o e o = some e := if_pos rfl
theorem one_ne {o a : Nat} {e : va_E} (h : a ≠ o) : one o e a = none := if_neg h
theorem apart_one {hx : fH} {o : Nat} {e : va_E} (h : hx o = none) : apart hx (one o e) := fun a ha => one_ne (fun z => ha (by rw [z]; exact h))
theorem fU_un_one {hx : fH} {o : Nat} {e e' : va_E} (h : hx o = none) : fU (un hx (one o e)) o e' = un hx (one o e') := by
  funext a
  by_cases w : a = o
  · rw [w, fU_same, un_r h, one_same]
  · rw [fU_ne w]
    cases q : hx a with
    | some x => rw [un_l q, un_l q]
    | none => rw [un_r q, un_r q, one_ne w, one_ne w]
/-- a contract beside cells that the method doesn't know -/
theorem FM.frame {l : Launch} {D : va_G} {ca : Nat → Nat} {y : MethodName} {w0 : Cond} {rm : Room} {av : List Value} {hx hf : fH} {post : Option Value → fH → Prop} {px : String → fH → Prop} (hM : FM l D ca y w0 rm av hx post px) (hdis : apart hx hf) :
    FM l D ca y w0 rm av (un hx hf) (fun v h' => ∃ hx', post v hx' ∧ apart hx' hf ∧ h' = un hx' hf) (fun E h' => ∃ hx', px E hx' ∧ apart hx' hf ∧ h' = un hx' hf) := by
  intro hl sz
  have h := hM hl sz
  intro p e ha hc hk s m args below hfr happ hP _
  obtain ⟨hav, hsz, hPh, hW, hE⟩ := hP
  have hPx : fP D hx s.heap := fun a e q => hPh a e (un_l q)
  have hPf : fP D hf s.heap := fun a e q => hPh a e (by
    rw [un_r (hdis.sym a (by rw [q]; exact fun z => by cases z))]
    exact q)
  have hsub : ∀ q, fA hx sz q → fA (un hx hf) sz q := fun q hq => hq.elim (fun z => Or.inl (by
    cases w : hx q with
    | none => exact absurd w z
    | some e => rw [un_l w]; exact fun z => by cases z)) Or.inr
  have hap : ∀ hx' : fH, (∀ q, hx' q ≠ none → fA hx sz q) → apart hx' hf := fun hx' hD a hn => by
    cases w : hf a with
    | none => rfl
    | some e =>
      have hlt := hPf.dom (a := a) (by rw [w]; exact fun z => by cases z)
      rcases hD a hn with z | z
      · rw [hdis a z] at w
        cases w
      · omega
  have hPun : ∀ (hx' : fH) (t : State), fP D hx' t.heap → va_F (fA hx sz) s t → fP D (un hx' hf) t.heap := fun hx' t h1 hF a e q => by
    cases w : hx' a with
    | some x =>
      rw [un_l w] at q
      cases q
      exact h1 a _ w
    | none =>
      rw [un_r w] at q
      have hlt := hPf.dom (a := a) (by rw [q]; exact fun z => by cases z)
      refine (hPf a e q).kept (hF.2 a hlt fun z => ?_)
      rcases z with z | z
      · rw [hdis a z] at q
        cases q
      · omega
  have hDun : ∀ hx' : fH, (∀ q, hx' q ≠ none → fA hx sz q) → ∀ q, un hx' hf q ≠ none → fA (un hx hf) sz q := fun hx' hD q hq => by
    cases w : hx' q with
    | some x => exact hsub q (hD q (by rw [w]; exact fun z => by cases z))
    | none =>
      rw [un_r w] at hq
      refine Or.inl ?_
      rw [un_r (hdis.sym q hq)]
      exact hq
  have hFun : ∀ t : State, va_F (fA hx sz) s t → va_F (fA (un hx hf) sz) s t := fun t hF => ⟨hF.1, fun q h1 h2 => hF.2 q h1 fun z => h2 (hsub q z)⟩
  obtain ⟨n, o, h1, h2, h3, h4⟩ := h p e ha hc hk s m args below hfr happ ⟨hav, hsz, hPx, hW, hE.narrow hsub⟩ trivial
  refine ⟨n, o, h1, h2, h3, ?_⟩
  rcases h4 with ⟨⟨⟨v, h', ho, hp, hP', hD'⟩, hF⟩, L, hL1, hL2⟩ | ⟨q, ho, E, ce, L, ⟨⟨h', hp, hP', hD'⟩, hF⟩, r1, r2, r3, r4, r5, r6⟩
  · exact Or.inl ⟨⟨⟨v, un h' hf, ho, ⟨h', hp, hap h' hD', rfl⟩, hPun h' _ hP' hF, hDun h' hD'⟩, hFun _ hF⟩, L, hL1, fun q hq => hsub _ (hL2 q hq)⟩
  · exact Or.inr ⟨q, ho, E, ce, L, ⟨⟨un h' hf, ⟨h', hp, hap h' hD', rfl⟩, hPun h' _ hP' hF, hDun h' hD'⟩, hFun _ hF⟩, r1, r2, r3, r4, r5, fun z hz => hsub _ (r6 z hz)⟩
/-- another word for what a method leaves -/
theorem FM.conseq {l : Launch} {D : va_G} {ca : Nat → Nat} {y : MethodName} {w0 : Cond} {rm : Room} {av : List Value} {h : fH} {post post' : Option Value → fH → Prop} {px px' : String → fH → Prop} (hM : FM l D ca y w0 rm av h post px) (h1 : ∀ v h', post v h' → post' v h') (h2 : ∀ E h', px E h' → px' E h') : FM l D ca y w0 rm av h post' px' := by
  intro hl sz
  have h := hM hl sz
  intro p e ha hc hk s m args below hfr happ hP _
  obtain ⟨n, o, q1, q2, q3, h4⟩ := h p e ha hc hk s m args below hfr happ hP trivial
  refine ⟨n, o, q1, q2, q3, ?_⟩
  rcases h4 with ⟨⟨⟨v, h', ho, hp, hP', hD'⟩, hF⟩, L, hL1, hL2⟩ | ⟨q, ho, E, ce, L, ⟨⟨h', hp, hP', hD'⟩, hF⟩, r1, r2, r3, r4, r5, r6⟩
  · exact Or.inl ⟨⟨⟨v, h', ho, h1 v h' hp, hP', hD'⟩, hF⟩, L, hL1, hL2⟩
  · exact Or.inr ⟨q, ho, E, ce, L, ⟨⟨h', h2 E h' hp, hP', hD'⟩, hF⟩, r1, r2, r3, r4, r5, r6⟩
section JCATCH
variable {K : KT} {mn own : String} {cc : ByteArray} {n : Nat} {ret : Option FieldType} {tb : List ExceptionTableEntry} {w0 : Cond} {rm : Room} {h0 : fH} {post : Option Value → fH → Prop} {px : String → fH → Prop}
variable {h : fH} {lv : LV} {st : List Value} {pc cells slots : Nat}
theorem J_catch (X : JX K mn own cc n ret tb w0 rm h0 post px) {E : String} (pre : List ExceptionTableEntry) (x : ExceptionTableEntry) (suf : List ExceptionTableEntry) (hsplit : tb = pre ++ x :: suf)
    (hpass : ∀ z ∈ pre, z.catchType ≠ 0 ∧ ∃ nm : String, Cond.classLink own z.catchType nm ∈ GW ∧ (E, nm) ∈ NCL) (hx : covers x pc = true) (h0' : x.catchType ≠ 0) (hlink : Cond.classLink own x.catchType E ∈ GW) (hcast : Cond.castable E E ∈ NWL)
    (k : ∀ q : Nat, J K h lv [.ref q] x.handlerPc cells slots) : JE K h lv st pc cells slots E := fun H locs ls q ce hP hD hS hl h1 h2 h3 =>
  vx_catch X.2.2.2.1 pre x suf (by rw [X.2.2.2.2.2.2.2.2.2.2.2.2.2.1, hsplit]) (fun z hz => by
    obtain ⟨a, nm, b, c⟩ := hpass z hz
    exact Or.inr ⟨a, nm, J.w X b, X.2.2.2.2.2.1.2.2.1 _ c⟩) hx h0' (J.w X hlink) (va_Nw.use (A := ka K) rfl (X.2.2.2.2.2.1.2.1 _ hcast)) h1 h2 h3 (k q H locs ls hP hD hS hl)
end JCATCH
/-- the law's number of what a class's method did -/
def lawK (c c1 c2 c3 : Int32) : Int32 := if c = 0 then 0 else if c = 1 then c1 else if c = 2 then c2 else c3
abbrev oc (ca : Nat → Nat) (g : Nat → Int64) : va_E := .inl (ca 3, 1, .inr (.inl g))
theorem EQ.law {σ : St} {cx vx : Int32} {sx : St} {vm : Int32} {sm : St} {c1 c2 c3 : Int32} (h : EQ σ cx vx sx vm sm c1 c2 c3) (hc : cx = 0 ∨ cx = 1 ∨ cx = 2 ∨ cx = 3) : sm 41 0 = lawK cx c1 c2 c3 ∧ (cx = 0 → vm = vx) ∧ (cx = 0 → sEq sm sx) ∧ (¬ cx = 0 → sEq sm σ) := by
  rcases hc with z | z | z | z
  · obtain ⟨a, b, c⟩ := h.1 z
    subst z
    exact ⟨a, fun _ => b, fun _ => c, fun w => absurd rfl w⟩
  · obtain ⟨a, b⟩ := h.2.1 z
    subst z
    exact ⟨a, fun w => absurd w (by decide), fun w => absurd w (by decide), fun _ => b⟩
  · obtain ⟨a, b⟩ := h.2.2.1 z
    subst z
    exact ⟨a, fun w => absurd w (by decide), fun w => absurd w (by decide), fun _ => b⟩
  · obtain ⟨a, b⟩ := h.2.2.2 z
    subst z
    exact ⟨a, fun w => absurd w (by decide), fun w => absurd w (by decide), fun _ => b⟩
end
