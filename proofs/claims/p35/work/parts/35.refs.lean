noncomputable section
section REFS
variable {K : KT} {mn own : String} {cc : ByteArray} {n : Nat} {ret : Option FieldType} {tb : List ExceptionTableEntry} {w0 : Cond} {rm : Room} {h0 : fH} {post : Option Value → fH → Prop} {px : String → fH → Prop}
variable {h : fH} {lv : LV} {st : List Value} {pc cells slots : Nat}
/-- y is an object of one of our classes, which an Object[] takes -/
def oK (h : fH) (y : Nat) : Prop := ∃ (ci : Nat) (vs : List Value) (r : vw_C), h y = some (.inr (ci, vs)) ∧ vwCl[ci]? = some r ∧ Cond.castable r.1 "java/lang/Object" ∈ NWL
theorem J_aast (X : JX K mn own cc n ret tb w0 rm h0 post px) {a N v : Nat} {f : Nat → Option Nat} {i : Int32} (he : h a = some (.inl (kca K 2, N, fRefs f))) (hv : oK h v) (hin : vp_in i N) (d : decode cc pc = .ok (.aastore, 1))
    (k : J K (fU h a (.inl (kca K 2, N, fRefs (va_up f i.toNatClampNeg (some v))))) lv st (pc + 1) cells slots) : J K h lv (.ref v :: .int i :: .ref a :: st) pc cells slots := fun H locs ls hP hD hS hl => by
  obtain ⟨ci, vs, r, hv, hc, hca⟩ := hv
  have hlt : i.toNatClampNeg < N := Nat.not_le.mp fun q => hin (Or.inr q)
  have hi0 : ¬ i < 0 := fun q => hin (Or.inl q)
  obtain ⟨r', hr', cellV, g1, g2, g3, -⟩ := hP v _ hv
  have hcls := (X.2.2.2.2.2.1.1.1 ci r hc).2
  obtain ⟨kA', comp, k1, k2, k3, -⟩ := (X.2.2.2.2.2.1.1.2 2 _ rfl).2
  obtain ⟨kE, hkE, -⟩ := Vm.findClass_spec k3
  obtain ⟨c0, t1, f1, f2, f3⟩ := Cond.castable_spec (va_Nw.use (A := ka K) rfl (X.2.2.2.2.2.1.2.1 _ hca))
  cases hcls.1.symm.trans f1
  cases k3.symm.trans f2
  obtain ⟨kC, hkC, -⟩ := hcls.2
  refine W.aast X.1 X.2.1 (hP a _ he) (fun q h => by cases h) (fun h => by cases h) k1 k2 rfl hkE ⟨hi0, by show _ < (arrV _ _ _).slots.size; rw [arrV_size]; exact hlt⟩ g1 (fun q h => by rw [g3] at h; cases h) (by rw [g2]; exact hkC) (by rw [g2]; exact f3) rfl rfl d fun H1 e z oq => ?_
  refine J.store he hP hD hS hl k H1 _ ?_ z oq
  show H1[a]? = some (vp_cell _ _)
  rw [e, vp_cell_q, vp_cell_q, arrV_store]
  congr 2
  funext q
  by_cases hq : q = i.toNatClampNeg
  · subst hq
    simp [updV, va_up, va_rf]
  · simp [updV, va_up, hq]
theorem J_aastN (X : JX K mn own cc n ret tb w0 rm h0 post px) {a N : Nat} {f : Nat → Option Nat} {i : Int32} (he : h a = some (.inl (kca K 2, N, fRefs f))) (hin : vp_in i N) (d : decode cc pc = .ok (.aastore, 1))
    (k : J K (fU h a (.inl (kca K 2, N, fRefs (va_up f i.toNatClampNeg none)))) lv st (pc + 1) cells slots) : J K h lv (.null :: .int i :: .ref a :: st) pc cells slots := fun H locs ls hP hD hS hl => by
  refine va_WaastN (C := "java/lang/Object") X.1 X.2.1 (hP a _ he) ((X.2.2.2.2.2.1.1.2 2 _ rfl).1 N (fun j => va_rf (f j))) (fun h => by cases h) (by show ¬ (i < 0 ∨ (arrV _ _ _).slots.size ≤ _); rw [arrV_size]; exact hin) rfl rfl d fun H1 e z oq => ?_
  refine J.store he hP hD hS hl k H1 _ ?_ z oq
  show H1[a]? = some (vp_cell _ _)
  rw [e, vp_cell_q, vp_cell_q, arrV_store]
  congr 2
  funext q
  by_cases hq : q = i.toNatClampNeg
  · subst hq
    simp [updV, va_up, va_rf]
  · simp [updV, va_up, hq]
theorem i_nn {z : Int32} (hz : ¬ z < 0) : z.toInt = (z.toNatClampNeg : Int) := by
  have h1 := Int32.not_lt.mp hz
  rw [Int32.le_iff_toInt_le, Int32.toInt_zero] at h1
  show z.toInt = ((z.toInt.toNat : Nat) : Int)
  omega
theorem J_acopy (X : JX K mn own cc n ret tb w0 rm h0 post px) {iz a b N M : Nat} {f g : Nat → Option Nat} {sp dp q : Int32} (hlink : Cond.methodLink own iz arraycopyName ∈ GW) (hnat : Cond.native arraycopyName ∈ GW) (hstat : Cond.static arraycopyName ∈ GW) (hini : Cond.initialized "java/lang/System" ∈ GW)
    (ha : h a = some (.inl (kca K 2, N, fRefs f))) (hb : h b = some (.inl (kca K 2, M, fRefs g))) (h1 : ¬ sp < 0) (h2 : ¬ dp < 0) (h3 : ¬ q < 0) (h4 : sp.toNatClampNeg + q.toNatClampNeg ≤ N) (h5 : dp.toNatClampNeg + q.toNatClampNeg ≤ M)
    (hel : ∀ i : Nat, i < q.toNatClampNeg → ∀ y : Nat, f (sp.toNatClampNeg + i) = some y → oK h y) (hR : (Nat.ble 1 rm.frames && Nat.ble ((st.map fun v => v.category).sum + (nativeFrameWords "java/lang/System" "arraycopy" 5 + 11)) rm.locals) = true) (d : decode cc pc = .ok (.invokestatic iz, 3))
    (k : J K (fU h b (.inl (kca K 2, M, fRefs (va_cpy f g sp.toNatClampNeg dp.toNatClampNeg q.toNatClampNeg)))) lv st (pc + 3) cells slots) : J K h lv (.int q :: .int dp :: .ref b :: .int sp :: .ref a :: st) pc cells slots := fun H locs ls hP hD hS hl => by
  intro T hT Y
  have hc0 : H[a]? = some (vp_cell (kca K 2) (N, fRefs f)) := hP a _ ha
  have hc1 : H[b]? = some (vp_cell (kca K 2) (M, fRefs g)) := hP b _ hb
  obtain ⟨-, k0, hk0, cm0, hkk0⟩ := (X.2.2.2.2.2.1.1.2 2 _ rfl).1 N (fun j => va_rf (f j))
  obtain ⟨kA', comp, r1, r2, r3, -⟩ := (X.2.2.2.2.2.1.1.2 2 _ rfl).2
  obtain ⟨kE, hkE, -⟩ := Vm.findClass_spec r3
  have e0 : k0 = kA' := Option.some.inj (hk0.symm.trans r1)
  subst e0
  obtain ⟨vm', Y', step⟩ := Y.arraycopy X.1 X.2.2.2.1 (J.w X hlink) (J.w X hnat) (J.w X hstat) (J.w X hini) (src := a) (dst := b) (cs := vp_cell (kca K 2) (N, fRefs f)) (cd := vp_cell (kca K 2) (M, fRefs g)) (srcPos := sp) (destPos := dp) (n := q) (by rw [hT]; exact hc0) (by rw [hT]; exact hc1)
    (fun _ z => by cases z) (fun _ z => by cases z) (fun z => by cases z) (fun z => by cases z) hk0 hk0 hkk0 hkk0 rfl h1 h2 h3
    (by rw [i_nn h1, i_nn h3]; show ¬ _ > ((arrV (kca K 2) N (fun j => va_rf (f j))).slots.size : Int); rw [arrV_size]; omega)
    (by rw [i_nn h2, i_nn h3]; show ¬ _ > ((arrV (kca K 2) M (fun j => va_rf (g j))).slots.size : Int); rw [arrV_size]; omega)
    (fun vm₁ hal i hi => by
      have e : (vp_cell (kca K 2) (N, fRefs f)).slots.getD (sp.toNatClampNeg + i) .null = va_rf (f (sp.toNatClampNeg + i)) := by
        show (arrV (kca K 2) N (fun j => va_rf (f j))).slots.getD _ _ = _
        rw [Array.getD_eq_getD_getElem?, arrV_read _ _ (by omega)]
        rfl
      rw [e]
      cases hy : f (sp.toNatClampNeg + i) with
      | none => exact ⟨rfl, trivial⟩
      | some y =>
        obtain ⟨ci, vs, r, hv, hc, hca⟩ := hel i hi y hy
        obtain ⟨r', hr', cellV, g1, g2, g3, -⟩ := hP y _ hv
        have hcls := (X.2.2.2.2.2.1.1.1 ci r hc).2
        obtain ⟨c0, t1, f1, f2, f3⟩ := Cond.castable_spec (va_Nw.use (A := ka K) rfl (X.2.2.2.2.2.1.2.1 _ hca))
        cases hcls.1.symm.trans f1
        cases r3.symm.trans f2
        cases hkk0.symm.trans r2
        obtain ⟨kC, hkC, -⟩ := hcls.2
        obtain ⟨kC', hkC', -⟩ := hal.2.2 _ _ hkC
        obtain ⟨kE', hkE', -⟩ := hal.2.2 _ _ hkE
        refine ⟨rfl, cellV, (show T.heap[y]? = some cellV by rw [hT]; exact g1), (fun q z => by rw [g3] at z; cases z), ⟨kC', by rw [g2]; exact hkC'⟩, ?_, ?_⟩
        · exact ⟨kE', hkE'⟩
        · show vm₁.assignable _ _ = true
          rw [hal.assignable, g2]
          exact f3)
    (g := F0 (km K) pc ls (.int q :: .int dp :: .ref b :: .int sp :: .ref a :: st)) rfl (by rw [hl.1]) (rest := st) rfl (by rw [X.2.1]; exact d) (by rw [X.2.2.2.2.2.2.2.2.2.2.1]; exact (J.hR2 hR).1) (by rw [X.2.2.2.2.2.2.2.2.2.2.1]; have := (J.hR2 hR).2; show 2 * 0 + _ + _ ≤ _; omega)
  have e1 : copied (vp_cell (kca K 2) (N, fRefs f)) (vp_cell (kca K 2) (M, fRefs g)) sp dp q = vp_cell (kca K 2) (M, fRefs (va_cpy f g sp.toNatClampNeg dp.toNatClampNeg q.toNatClampNeg)) := by
    rw [vp_cell_q, vp_cell_q, vp_cell_q]
    exact va_copied (fun z => va_rf z) (kca K 2) (kca K 2) f g h4
  rw [e1] at Y' step
  have hlb : b < H.size := (Array.getElem?_eq_some_iff.mp hc1).1
  generalize hC : vp_cell (kca K 2) (M, fRefs (va_cpy f g sp.toNatClampNeg dp.toNatClampNeg q.toNatClampNeg)) = C at Y' step
  have hheap : ((T.setVm vm').setCell b C).heap = H.setIfInBounds b C := by rw [← hT]; rfl
  have oq : ∀ x : Nat, x ≠ b → (H.setIfInBounds b C)[x]? = H[x]? := fun x hx => by simp [Array.getElem?_setIfInBounds, Ne.symm hx]
  have hAb : kA K b := hD b (by rw [hb]; exact fun z => by cases z)
  obtain ⟨t, a1, b1⟩ := k (H.setIfInBounds b C) _ ls (hP.upd (by show (H.setIfInBounds b C)[b]? = some (vp_cell _ _); rw [hC]; simp [Array.getElem?_setIfInBounds, hlb]) (fun x hx _ => oq x hx)) (fU_dom hD hAb) ⟨by simp; exact hS.1, fun x g1 g2 => by
      rw [oq x (fun e => g2 (by rw [e]; exact hAb))]
      exact hS.2.1 x g1 g2, fun x hx => by
      rcases List.mem_append.mp hx with z | z
      · exact hS.2.2 x z
      · obtain ⟨w, -, hw⟩ := List.mem_map.mp z
        rw [← hw]
        exact hAb⟩ hl _ hheap Y'
  exact ⟨t, step t a1, b1⟩
theorem J_ldcM (X : JX K mn own cc n ret tb w0 rm h0 post px) {iz : Nat} (hl' : Cond.classLink own iz "[Ljava/lang/Object;" ∈ GW) (d : decode cc pc = .ok (.ldc iz, 2)) (k : J K h lv (.ref (kca K 5) :: st) (pc + 2) cells slots) : J K h lv st pc cells slots := fun H locs ls hP hD hS hl =>
  va_ldcM X.1 X.2.1 X.2.2.2.1 (J.w X hl') X.2.2.2.2.2.1.2.2.2.2 d (k H locs ls hP hD hS hl)
theorem J_getC (X : JX K mn own cc n ret tb w0 rm h0 post px) {iz a N : Nat} {f : Nat → Option Nat} (he : h a = some (.inl (kca K 2, N, fRefs f))) (hl' : Cond.methodLink own iz ⟨"java/lang/Object", "getClass", "()Ljava/lang/Class;"⟩ ∈ GW) (hR : (Nat.ble 1 rm.frames && Nat.ble ((st.map fun v => v.category).sum + 14) rm.locals) = true) (d : decode cc pc = .ok (.invokevirtual iz, 3))
    (k : J K h lv (.ref (kca K 5) :: st) (pc + 3) cells slots) : J K h lv (.ref a :: st) pc cells slots := fun H locs ls hP hD hS hl =>
  va_getC (C := "[Ljava/lang/Object;") X.1 X.2.1 hl.1.symm X.2.2.2.1 (J.w X hl') (va_Nw.use (NWL_tab (List.mem_of_getElem? (i := 29) rfl)) (X.2.2.2.2.2.1.2.1 _ (List.mem_of_getElem? (i := 29) rfl))) (J.w X gw_4_203) (J.w X gw_1_175) (J.w X gw_1_191) X.2.2.2.2.2.1.2.2.2.2
    ⟨_, hP a _ he, rfl, va_nmO (X.2.2.2.2.2.1.1.2 2 _ rfl).2 rfl⟩ (by rw [X.2.2.2.2.2.2.2.2.2.2.1]; exact (J.hR2 hR).1) (by rw [X.2.2.2.2.2.2.2.2.2.2.1]; exact (J.hR2 hR).2) d (k H locs ls hP hD hS hl)
end REFS
end
