noncomputable section
section ALLOC
variable {K : KT} {mn own : String} {cc : ByteArray} {n : Nat} {ret : Option FieldType} {tb : List ExceptionTableEntry} {w0 : Cond} {rm : Room} {h0 : fH} {post : Option Value → fH → Prop} {px : String → fH → Prop}
variable {h : fH} {lv : LV} {st : List Value} {pc cells slots : Nat}
theorem J.fresh {H : Heap} (hP : fP (kD K) h H) : h H.size = none := by
  cases q : h H.size with
  | none => rfl
  | some e => exact absurd (hP _ e q).lt (Nat.lt_irrefl _)
/-- a cell pushed behind the heap -/
theorem J.push (X : JX K mn own cc n ret tb w0 rm h0 post px) {H H1 : Heap} {locs : List Loc} {ls : Array Slot} {e : va_E} {pc' c1 s1 : Nat} {st' : List Value} (hP : fP (kD K) h H) (hD : ∀ q, h q ≠ none → kA K q) (hS : va_S (kA K) (ks K).heap H locs) (hl : lv_has ls (kc K).maxLocals (lvA 0 lv))
    (he : va_at (kD K) vwCl (H.size, e) H1) (z1 : H1.size = H.size + 1) (o1 : ∀ q : Nat, q < H.size → H1[q]? = H[q]?) (k : J K (fU h H.size e) lv st' pc' c1 s1) : W (kp K) (kl K) (ke K) (kR K) (ks K) (km K) (ka K) (kb K) (kmt K) (kc K) H1 locs c1 s1 (kQ K) (F0 (km K) pc' ls st') :=
  k H1 locs ls (hP.upd he (fun q _ hq => o1 q hq)) (fU_dom hD (X.2.2.2.2.2.2.1 _ hS.1)) ⟨Nat.le_trans hS.1 (by omega), fun x h1 h2 => (o1 x (Nat.lt_of_lt_of_le h1 hS.1)).trans (hS.2.1 x h1 h2), hS.2.2⟩ hl
theorem J_new (X : JX K mn own cc n ret tb w0 rm h0 post px) {C : String} {T : u_T} {N ci iz : Nat} {fs : List Value} (hc : vwCl[ci]? = some (C, T, N)) (hin : ∀ w ∈ u_ws C T N, w ∈ GW) (ty0 : Nat → FieldType) (hty : ∀ k, k < N → parseFieldDescriptor (T k).2.2.1 = some (ty0 k)) (hcl : Cond.classLink own iz C ∈ GW) (hinst : Cond.instantiable C N ∈ GW) (hini : Cond.initialized C ∈ GW) (hfs : ∀ j, j < N → defaultValue (ty0 j) = vp_V fs j)
    (hroom : (Nat.ble (cells + 1) rm.cells && Nat.ble (slots + N) rm.slots) = true) (d : decode cc pc = .ok (.new iz, 3)) (k : ∀ a, h a = none → J K (fU h a (.inr (ci, fs))) lv (.ref a :: st) (pc + 3) (cells + 1) (slots + N)) : J K h lv st pc cells slots := fun H locs ls hP hD hS hl => by
  have hKn := X.2.2.2.2.2.1.1.1 ci _ hc
  refine W.newcK X.1 X.2.1 X.2.2.2.1 (J.w X hcl) (J.w X hinst) (J.w X hini) rfl d (by rw [X.2.2.2.2.2.2.2.2.2.2.1]; exact (J.hR2 hroom).1) (by rw [X.2.2.2.2.2.2.2.2.2.2.1]; exact (J.hR2 hroom).2) hKn.2.1 rfl fun H1 kC hkC e1 z1 o1 => ?_
  exact J.push X (e := .inr (ci, fs)) hP hD hS hl ⟨_, hc, (u_born ty0 (J.tw X) hin hKn hkC e1 hty).to hfs⟩ z1 o1 (k H.size (J.fresh hP))
theorem J_newarr (X : JX K mn own cc n ret tb w0 rm h0 post px) {atype : ArrayType} {ty : FieldType} {t N : Nat} {v : Int32} {a0 : vp_A} (harr : Cond.arrayClass (newarray.typeOf atype) ∈ GW) (hty : newarray.typeOf atype = ty) (ht : (fT (kca K))[t]? = some (kca K t, ty)) (hRA : ∀ U cA, va_RA U cA ty → U.vm.findClass ("[" ++ ty.toString) = some cA) (ha : ∀ cA : ClassId, vp_cell cA a0 = arrV cA N (fun _ => defaultValue ty)) (hn : ¬ v < 0) (hN : v.toNatClampNeg = N) (hb : N * componentBytes ty ≤ 536870912)
    (hroom : (Nat.ble (cells + 1) rm.cells && Nat.ble (slots + N) rm.slots) = true) (d : decode cc pc = .ok (.newarray atype, 2)) (k : ∀ a, h a = none → J K (fU h a (.inl (kca K t, a0))) lv (.ref a :: st) (pc + 2) (cells + 1) (slots + N)) : J K h lv (.int v :: st) pc cells slots := fun H locs ls hP hD hS hl => by
  subst hty
  refine va_newaK X.1 X.2.1 (J.w X harr) rfl d rfl hn hN hb (by rw [X.2.2.2.2.2.2.2.2.2.2.1]; exact (J.hR2 hroom).1) (by rw [X.2.2.2.2.2.2.2.2.2.2.1]; exact (J.hR2 hroom).2) rfl fun H1 cA e1 z1 o1 _ hNm => ?_
  have h1 := hRA _ _ (X.2.2.2.2.2.1.1.2 t _ ht).2
  have e : cA = kca K t := Option.some.inj (hNm.symm.trans h1)
  subst e
  refine J.push X hP hD hS hl ?_ z1 o1 (k H.size (J.fresh hP))
  show H1[H.size]? = some (vp_cell _ _)
  rw [ha]
  exact e1
theorem J_newI (X : JX K mn own cc n ret tb w0 rm h0 post px) {N : Nat} {v : Int32} (hn : ¬ v < 0) (hN : v.toNatClampNeg = N) (hb : N * 4 ≤ 536870912) (hroom : (Nat.ble (cells + 1) rm.cells && Nat.ble (slots + N) rm.slots) = true) (d : decode cc pc = .ok (.newarray .int, 2)) (k : ∀ a, h a = none → J K (fU h a (.inl (kca K 0, N, .inl (fun _ => 0)))) lv (.ref a :: st) (pc + 2) (cells + 1) (slots + N)) : J K h lv (.int v :: st) pc cells slots :=
  J_newarr X (atype := .int) (t := 0) (ty := .int) (N := N) (a0 := (N, .inl (fun _ => 0))) gw_1_96 rfl rfl (fun _ _ z => z) (fun _ => rfl) hn hN hb hroom d k
theorem J_newZ (X : JX K mn own cc n ret tb w0 rm h0 post px) {N : Nat} {v : Int32} (hn : ¬ v < 0) (hN : v.toNatClampNeg = N) (hb : N * 1 ≤ 536870912) (hroom : (Nat.ble (cells + 1) rm.cells && Nat.ble (slots + N) rm.slots) = true) (d : decode cc pc = .ok (.newarray .boolean, 2)) (k : ∀ a, h a = none → J K (fU h a (.inl (kca K 1, N, .inl (fun _ => 0)))) lv (.ref a :: st) (pc + 2) (cells + 1) (slots + N)) : J K h lv (.int v :: st) pc cells slots :=
  J_newarr X (atype := .boolean) (t := 1) (ty := .boolean) (N := N) (a0 := (N, .inl (fun _ => 0))) gw_1_144 rfl rfl (fun _ _ z => z) (fun _ => rfl) hn hN hb hroom d k
theorem J_newQ (X : JX K mn own cc n ret tb w0 rm h0 post px) {iz N : Nat} {v : Int32} (hcl : Cond.classLink own iz "java/lang/Object" ∈ GW) (hn : ¬ v < 0) (hN : v.toNatClampNeg = N) (hb : N * 4 ≤ 536870912) (hroom : (Nat.ble (cells + 1) rm.cells && Nat.ble (slots + N) rm.slots) = true) (d : decode cc pc = .ok (.anewarray iz, 3)) (k : ∀ a, h a = none → J K (fU h a (.inl (kca K 2, N, fRefs (fun _ => none)))) lv (.ref a :: st) (pc + 3) (cells + 1) (slots + N)) : J K h lv (.int v :: st) pc cells slots := fun H locs ls hP hD hS hl => by
  subst hN
  refine W.anew X.1 X.2.1 X.2.2.2.1 (J.w X hcl) (va_AO.use X.2.2.2.2.2.1.2.2.2.1) rfl d rfl hn hb (by rw [X.2.2.2.2.2.2.2.2.2.2.1]; exact (J.hR2 hroom).1) (by rw [X.2.2.2.2.2.2.2.2.2.2.1]; exact (J.hR2 hroom).2) fun cA kA comp f1 f2 f3 f4 => ?_
  generalize hH1 : H.push ({ cls := cA, slots := Array.replicate v.toNatClampNeg .null, vm := .none } : Cell) = H1
  have z1 : H1.size = H.size + 1 := by rw [← hH1, Array.size_push]
  have e1 : H1[H.size]? = some (arrV cA v.toNatClampNeg (fun _ => .null)) := by rw [← hH1, Array.getElem?_push_size, ← arrV_new]
  have o1 : ∀ q : Nat, q < H.size → H1[q]? = H[q]? := fun q hq => by rw [← hH1, Array.getElem?_push, if_neg (Nat.ne_of_lt hq)]
  obtain ⟨kA', comp', g1, g2, g3, g4⟩ := (X.2.2.2.2.2.1.1.2 2 _ rfl).2
  have e : cA = kca K 2 := Option.some.inj (f1.symm.trans g4)
  subst e
  refine J.push X hP hD hS hl ?_ z1 o1 (k H.size (J.fresh hP))
  show H1[H.size]? = some (vp_cell _ _)
  rw [vp_cell_q]
  exact e1
/-- the class's static: the array that ArrayList() starts from -/
theorem J_gempty (X : JX K mn "java/util/ArrayList" cc n ret tb w0 rm h0 post px) {iz : Nat} (hl' : Cond.fieldLink "java/util/ArrayList" iz "java/util/ArrayList" "DEFAULTCAPACITY_EMPTY_ELEMENTDATA" "[Ljava/lang/Object;" ∈ GW) (d : decode cc pc = .ok (.getstatic iz, 3)) (k : J K h lv (.ref (kca K 4) :: st) (pc + 3) cells slots) : J K h lv st pc cells slots := fun H locs ls hP hD hS hl =>
  va_gets X.1 X.2.1 X.2.2.2.2.2.2.2.1.2.2.1 hS X.2.2.2.1 (J.w X hl') (fun _ z => z) d (k H locs ls hP hD hS hl)
end ALLOC
end
