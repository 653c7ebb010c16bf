noncomputable section
/-- the script, and where in it we stand -/
def LSc (K : KT) (b L i : Nat) (xs : Nat → Int32) : Prop := va_X b L xs (ks K) (ks K).heap ∧ b < (ks K).heap.size ∧ ¬ kA K b ∧ L ≤ 3072 ∧ i + 6 ≤ L
theorem lin {i L j : Nat} (h : i + 6 ≤ L) (hL : L ≤ 3072) (hj : j < 6) : vp_in (nI i + nI j) L := by
  rw [nI_add]
  exact vp_in_nI (by omega) (by omega)
theorem J_sld {K : KT} {mn own : String} {cc : ByteArray} {n : Nat} {ret : Option FieldType} {tb : List ExceptionTableEntry} {w0 : Cond} {rm : Room} {h0 : fH} {post : Option Value → fH → Prop} {px : String → fH → Prop} (X : JX K mn own cc n ret tb w0 rm h0 post px) {b L : Nat} {xs : Nat → Int32} {h : fH} {lv : LV} {st : List Value} {pc cells slots : Nat} (hX : va_X b L xs (ks K) (ks K).heap) (hbl : b < (ks K).heap.size) (hbA : ¬ kA K b) {i v : Int32} (hin : vp_in i L) (he : xs i.toNatClampNeg = v) (d : decode cc pc = .ok (.iaload, 1)) (k : J K h lv (.int v :: st) (pc + 1) cells slots) : J K h lv (.int i :: .ref b :: st) pc cells slots := fun H locs ls hP hD hS hl => by
  subst he
  exact va_sld X.1 X.2.1 hX hbl hbA hS hin d (k H locs ls hP hD hS hl)
theorem J_slen {K : KT} {mn own : String} {cc : ByteArray} {n : Nat} {ret : Option FieldType} {tb : List ExceptionTableEntry} {w0 : Cond} {rm : Room} {h0 : fH} {post : Option Value → fH → Prop} {px : String → fH → Prop} (X : JX K mn own cc n ret tb w0 rm h0 post px) {b L : Nat} {xs : Nat → Int32} {h : fH} {lv : LV} {st : List Value} {pc cells slots : Nat} (hX : va_X b L xs (ks K) (ks K).heap) (hbl : b < (ks K).heap.size) (hbA : ¬ kA K b) (d : decode cc pc = .ok (.arraylength, 1)) (k : J K h lv (.int (nI L) :: st) (pc + 1) cells slots) : J K h lv (.ref b :: st) pc cells slots := fun H locs ls hP hD hS hl =>
  va_slen X.1 X.2.1 hX hbl hbA hS d (k H locs ls hP hD hS hl)
theorem J_lald' {K : KT} {mn own : String} {cc : ByteArray} {n : Nat} {ret : Option FieldType} {tb : List ExceptionTableEntry} {w0 : Cond} {rm : Room} {h0 : fH} {post : Option Value → fH → Prop} {px : String → fH → Prop} (X : JX K mn own cc n ret tb w0 rm h0 post px) {h : fH} {lv : LV} {st : List Value} {pc cells slots : Nat} {a N : Nat} {f : Nat → Int64} {i : Int32} {v : Int64} (he : h a = some (.inl (kca K 3, N, .inr (.inl f)))) (hin : vp_in i N) (hv : f i.toNatClampNeg = v) (d : decode cc pc = .ok (.laload, 1)) (k : J K h lv (.long v :: st) (pc + 1) cells slots) : J K h lv (.int i :: .ref a :: st) pc cells slots := by
  subst hv
  exact J_lald X he hin d k
def zb (x : Int32) : Int32 := if x = 0 then 0 else 1
def zl (x : Int32) : Int64 := if x = 0 then 0 else 1
theorem zb_b {x v : Int32} (h : zb x = v) : v = 0 ∨ v = 1 := by
  subst h
  unfold zb
  split
  · exact Or.inl rfl
  · exact Or.inr rfl
theorem J_bz {K : KT} {mn own : String} {cc : ByteArray} {n : Nat} {ret : Option FieldType} {tb : List ExceptionTableEntry} {w0 : Cond} {rm : Room} {h0 : fH} {post : Option Value → fH → Prop} {px : String → fH → Prop} (X : JX K mn own cc n ret tb w0 rm h0 post px) {h : fH} {lv : LV} {st : List Value} {pc cells slots : Nat} {x v : Int32} (he : zb x = v) (d1 : decode cc pc = .ok (.ifCond .eq 7, 3)) (d2 : decode cc (pc + 3) = .ok (.iconst 1, 1)) (d3 : decode cc (pc + 4) = .ok (.goto 4, 3)) (d4 : decode cc (pc + 7) = .ok (.iconst 0, 1)) (k : J K h lv (.int v :: st) (pc + 8) cells slots) : J K h lv (.int x :: st) pc cells slots := by
  subst he
  refine J_if_eq (tgt := pc + 7) X d1 (by omega) (fun z => ?_) (fun z => ?_)
  · refine J_iconst (v := 0) X d4 rfl ?_
    rw [show zb x = 0 from if_pos z] at k
    exact k
  · refine J_iconst (v := 1) X d2 rfl ?_
    refine J_goto (tgt := pc + 8) X d3 (by omega) ?_
    rw [show zb x = 1 from if_neg z] at k
    exact k
theorem J_bl {K : KT} {mn own : String} {cc : ByteArray} {n : Nat} {ret : Option FieldType} {tb : List ExceptionTableEntry} {w0 : Cond} {rm : Room} {h0 : fH} {post : Option Value → fH → Prop} {px : String → fH → Prop} (X : JX K mn own cc n ret tb w0 rm h0 post px) {h : fH} {lv : LV} {st : List Value} {pc cells slots : Nat} {x : Int32} (d1 : decode cc pc = .ok (.ifCond .eq 7, 3)) (d2 : decode cc (pc + 3) = .ok (.lconst 1, 1)) (d3 : decode cc (pc + 4) = .ok (.goto 4, 3)) (d4 : decode cc (pc + 7) = .ok (.lconst 0, 1)) (k : J K h lv (.long (zl x) :: st) (pc + 8) cells slots) : J K h lv (.int x :: st) pc cells slots := by
  refine J_if_eq (tgt := pc + 7) X d1 (by omega) (fun z => ?_) (fun z => ?_)
  · refine J_lconst (v := 0) X d4 rfl ?_
    rw [show zl x = 0 from if_pos z] at k
    exact k
  · refine J_lconst (v := 1) X d2 rfl ?_
    refine J_goto (tgt := pc + 8) X d3 (by omega) ?_
    rw [show zl x = 1 from if_neg z] at k
    exact k
theorem lg_eq {x y : Int64} (h : x = y) : lg_cmp x y = 0 := by
  subst h
  unfold lg_cmp
  rw [if_neg (by rw [gt_iff_lt, Int64.lt_iff_toInt_lt]; omega), if_pos rfl]
theorem updL0 (g : Nat → Int64) (v : Int64) : vp_updL g 0 v (0 : Int32).toNatClampNeg = v := if_pos rfl
theorem EQT.law {σ : St} {cx : Int32} {vx : Int64} {sx : St} {vm : Int64} {sm : St} {c1 c3 : Int32} (h : EQT σ cx vx sx vm sm c1 c3) (hc : cx = 0 ∨ cx = 1 ∨ cx = 2 ∨ cx = 3) : sm 41 0 = lawK cx c1 0 c3 ∧ (cx = 0 → vm = vx) ∧ (cx = 0 → sEq sm sx) ∧ (¬ cx = 0 → sEq sm σ) := by
  rcases hc with z | z | z | z
  · obtain ⟨a, b, c⟩ := h.1 z
    subst z
    exact ⟨a, fun _ => b, fun _ => c, fun w => absurd rfl w⟩
  · obtain ⟨a, b⟩ := h.2.1 z
    subst z
    exact ⟨a, fun w => absurd w (by decide), fun w => absurd w (by decide), fun _ => b⟩
  · exact absurd z h.2.2.2
  · obtain ⟨a, b⟩ := h.2.2.1 z
    subst z
    exact ⟨a, fun w => absurd w (by decide), fun w => absurd w (by decide), fun _ => b⟩
/-- the class at r, the reference at m, the answer at o, each by itself -/
def LI (ca : Nat → Nat) (r m o : Nat) (hx hm : fH) (σ : St) : Prop := RA ca hx r σ ∧ (∃ ρ, RM ca hm m ρ σ) ∧ InvX σ ∧ InvO σ ∧ apart hx hm ∧ hx o = none ∧ hm o = none
theorem un_rot {a b c : fH} (h : apart b c) : un a (un b c) = un (un a c) b := by rw [un_assoc, un_comm h]
theorem un_mid {a b c : fH} (h : apart a (un b c)) : un a (un b c) = un b (un c a) := by rw [un_comm h, un_assoc]
theorem un_mid_l {a b c : fH} {q : Nat} {x : va_E} (h : apart a b) (e : b q = some x) : un a (un b c) q = some x := by
  rw [un_r (h.sym q (by rw [e]; exact fun z => by cases z))]
  exact un_l e
theorem un_out {a b : fH} {o : Nat} {e : va_E} (h1 : a o = none) (h2 : b o = none) : un a (un b (one o e)) o = some e := by rw [un_r h1, un_r h2, one_same]
theorem apart_l {a b c : fH} (h : apart (un a b) c) : apart a c := fun x hx => h x (by
  cases q : a x with
  | none => exact absurd q hx
  | some e => rw [un_l q]; exact fun z => by cases z)
theorem apart_out {a : fH} {o : Nat} {e : va_E} (h : apart a (one o e)) : a o = none := h.sym o (by rw [one_same]; exact fun z => by cases z)
theorem ap3 {hx hm : fH} {o : Nat} {e : va_E} (h1 : apart hx hm) (h2 : hx o = none) : apart hx (un hm (one o e)) := (apart.un h1.sym (apart_one h2).sym).sym
theorem ap3' {hx hm : fH} {o : Nat} {e : va_E} (h3 : hm o = none) (h : apart hx (un hm (one o e))) : apart hx hm ∧ hx o = none := ⟨(apart_l h.sym).sym, h.sym o (by rw [un_r h3, one_same]; exact fun z => by cases z)⟩
section FRAMES
variable {l : Launch} {D : va_G} {ca : Nat → Nat} {y : MethodName} {w : Cond} {rm : Room} {av : List Value} {hx hm : fH} {o : Nat}
theorem fr_x {g : Nat → Int64} {kk : Value} {P : fH → Prop} {e' : va_E} (hM : FM l D ca y w rm av (un hx (one o (oc ca g))) (fun v h2 => v = some kk ∧ ∃ h2x, P h2x ∧ h2x o = none ∧ h2 = un h2x (one o e')) noX) (h1 : apart hx hm) (h3 : hm o = none) :
    FM l D ca y w rm av (un hx (un hm (one o (oc ca g)))) (fun v h' => v = some kk ∧ ∃ h2x, P h2x ∧ apart h2x hm ∧ h2x o = none ∧ h' = un h2x (un hm (one o e'))) noX := by
  rw [un_rot (apart_one h3)]
  refine (hM.frame (apart.un h1 (apart_one h3).sym)).conseq (fun v h' q => ?_) (fun E h' q => ?_)
  · obtain ⟨h2, ⟨e0, h2x, p, a, e1⟩, ap, e2⟩ := q
    subst e1
    exact ⟨e0, h2x, p, apart_l ap, a, by rw [e2, un_rot (apart_one h3)]⟩
  · obtain ⟨_, q, _⟩ := q
    exact q
theorem fr_v {e : va_E} {P : Option Value → fH → Prop} (hM : FM l D ca y w rm av hx P noX) (h1 : apart hx hm) (h2 : hx o = none) (h3 : hm o = none) :
    FM l D ca y w rm av (un hx (un hm (one o e))) (fun v h' => ∃ h2x, P v h2x ∧ apart h2x hm ∧ h2x o = none ∧ h' = un h2x (un hm (one o e))) noX := by
  refine (hM.frame (ap3 h1 h2)).conseq (fun v h' q => ?_) (fun E h' q => ?_)
  · obtain ⟨h2x, p, ap, e2⟩ := q
    exact ⟨h2x, p, (ap3' h3 ap).1, (ap3' h3 ap).2, e2⟩
  · obtain ⟨_, q, _⟩ := q
    exact q
theorem fr_m {e : va_E} {P : Option Value → fH → Prop} (hM : FM l D ca y w rm av hm P noX) (h1 : apart hx hm) (h2 : hx o = none) (h3 : hm o = none) :
    FM l D ca y w rm av (un hx (un hm (one o e))) (fun v h' => ∃ hm2, P v hm2 ∧ apart hx hm2 ∧ hm2 o = none ∧ h' = un hx (un hm2 (one o e))) noX := by
  rw [un_mid (ap3 h1 h2)]
  refine (hM.frame (apart.un (apart_one h3).sym h1).sym).conseq (fun v h' q => ?_) (fun E h' q => ?_)
  · obtain ⟨hm2, p, ap, e2⟩ := q
    have a1 : apart hm2 (one o e) := (apart_l ap.sym).sym
    have a2 : apart hm2 hx := fun x hne => by
      have z := ap x hne
      cases q : hx x with
      | none => rfl
      | some y =>
        rw [un_r (a1 x hne), q] at z
        cases z
    exact ⟨hm2, p, a2.sym, apart_out a1, by rw [e2, ← un_mid (ap3 a2.sym h2)]⟩
  · obtain ⟨_, q, _⟩ := q
    exact q
end FRAMES
theorem fin3 {ca : Nat → Nat} {h : fH} {r : Nat} {σ s1 sx sm : St} {cx : Int32} (hRA : RA ca h r s1) (h0 : RA ca h r sx) (hI : InvX σ) (hO : InvO σ) (hN : cx = 0 ∨ s1 = σ) (e1 : cx = 0 → sEq sm sx) (e2 : ¬ cx = 0 → sEq sm σ) (hIx : InvX sx) (hOx : InvO sx) : RA ca h r sm ∧ InvX sm ∧ InvO sm := by
  by_cases c : cx = 0
  · have e := e1 c
    exact ⟨h0.ext e, InvX_ext e hIx, InvO_ext hOx (e 14 (by decide)) (e 13 (by decide))⟩
  · have e := e2 c
    have hs := hN.resolve_left c
    subst hs
    exact ⟨hRA.ext e, InvX_ext e hI, InvO_ext hO (e 14 (by decide)) (e 13 (by decide))⟩
/-- one case of the law's switch: from pc it comes to 2310 -/
def CASE (K : KT) (b r m o i pc : Nat) : Prop := ∀ (hx hm : fH) (g : Nat → Int64) (σ : St) (cells slots : Nat), LI (kca K) r m o hx hm σ → cells + 8 ≤ 601024 → slots + 148 ≤ 7293034 →
  (∀ (hx' hm' : fH) (g' : Nat → Int64) (σ' : St), LI (kca K) r m o hx' hm' σ' → J K (un hx' (un hm' (one o (oc (kca K) g')))) [some (.ref b), some (.ref r), some (.ref m), some (.ref o), some (.int (nI i)), none, none, none] [] 2310 (cells + 8) (slots + 148)) →
  J K (un hx (un hm (one o (oc (kca K) g)))) [some (.ref b), some (.ref r), some (.ref m), some (.ref o), some (.int (nI i)), none, none, none] [] pc cells slots
end
