noncomputable section
theorem cw_J8_newLength_cabcc : Cond.static yJ8_newLength_cabcc ∈ GW ∧ Cond.initialized yJ8_newLength_cabcc.cls ∈ GW ∧ Cond.code yJ8_newLength_cabcc cJ8_newLength_cabcc 4 (some .int) ∈ GW ∧ (yJ8_newLength_cabcc.cls ≠ "java/lang/invoke/MethodHandle" ∧ yJ8_newLength_cabcc.cls ≠ "java/lang/invoke/VarHandle") ∧ (parseMethodDescriptor yJ8_newLength_cabcc.desc).map (fun d => d.parameters.length) = some 3 := ⟨gw_1_162, gw_1_9, gw_1_163, ⟨by decide, by decide⟩, by decide +kernel⟩
theorem cw_J7_copyOf_6403c : Cond.static yJ7_copyOf_6403c ∈ GW ∧ Cond.initialized yJ7_copyOf_6403c.cls ∈ GW ∧ Cond.code yJ7_copyOf_6403c cJ7_copyOf_6403c 4 (some (.array (.object "java/lang/Object"))) ∈ GW ∧ (yJ7_copyOf_6403c.cls ≠ "java/lang/invoke/MethodHandle" ∧ yJ7_copyOf_6403c.cls ≠ "java/lang/invoke/VarHandle") ∧ (parseMethodDescriptor yJ7_copyOf_6403c.desc).map (fun d => d.parameters.length) = some 3 := ⟨gw_1_193, gw_1_11, gw_1_194, ⟨by decide, by decide⟩, by decide +kernel⟩
theorem cw_J7_copyOf_1904c : Cond.static yJ7_copyOf_1904c ∈ GW ∧ Cond.initialized yJ7_copyOf_1904c.cls ∈ GW ∧ Cond.code yJ7_copyOf_1904c cJ7_copyOf_1904c 2 (some (.array (.object "java/lang/Object"))) ∈ GW ∧ (yJ7_copyOf_1904c.cls ≠ "java/lang/invoke/MethodHandle" ∧ yJ7_copyOf_1904c.cls ≠ "java/lang/invoke/VarHandle") ∧ (parseMethodDescriptor yJ7_copyOf_1904c.desc).map (fun d => d.parameters.length) = some 2 := ⟨gw_1_172, gw_1_11, gw_1_173, ⟨by decide, by decide⟩, by decide +kernel⟩
theorem c_newLen {l : Launch} {D : va_G} {ca : Nat → Nat} {h : fH} {c a b : Nat} (h1 : c + max a b < 1000) (h2 : 0 < c + max a b) : FM l D ca yJ8_newLength_cabcc (.code yJ8_newLength_cabcc cJ8_newLength_cabcc 4 (some .int)) { frames := 1, cells := 0, slots := 0, locals := 30 } [.int (nI c), .int (nI a), .int (nI b)] h (pI (nI (c + max a b)) h) noX := by
  refine FM.of [some (.int (nI c)), some (.int (nI a)), some (.int (nI b)), none] (by decide) (Nat.le_of_ble_eq_true rfl) rfl ?_
  rintro K X rfl rfl rfl
  refine J_iload_0 X dJ8_newLength_cabcc_0 ?_
  refine J_iload_1 X dJ8_newLength_cabcc_1 ?_
  refine J_iload_2 X dJ8_newLength_cabcc_2 ?_
  refine J_mmax X gw_1_164 gw_1_165 gw_1_10 gw_1_166 rfl rfl dJ8_newLength_cabcc_3 ?_
  refine J_iadd X dJ8_newLength_cabcc_6 ?_
  rw [iMax_nI (by omega) (by omega), nI_add]
  refine J_istore_3 X dJ8_newLength_cabcc_7 rfl (by decide) ?_
  refine J_iconst (v := 0) X dJ8_newLength_cabcc_8 rfl ?_
  refine J_iload_3 X dJ8_newLength_cabcc_9 ?_
  refine J_icmp_ge (tgt := 21) X dJ8_newLength_cabcc_10 (by decide) (fun q => absurd ((nI_leI (a := c + max a b) (b := 0) (by omega) (by omega)).mp q) (by omega)) (fun _ => ?_)
  refine J_iload_3 X dJ8_newLength_cabcc_13 ?_
  refine J_ldc (v := 2147483639) X dJ8_newLength_cabcc_14 gw_1_167 ?_
  refine J_icmp_gt (tgt := 21) X dJ8_newLength_cabcc_16 (by decide) (fun q => absurd q (not_lt32.mpr ((nI_leI (a := c + max a b) (b := 2147483639) (by omega) (by decide)).mpr (by omega)))) (fun _ => ?_)
  refine J_iload_3 X dJ8_newLength_cabcc_19 ?_
  exact J_iret X rfl rfl ⟨rfl, rfl⟩ dJ8_newLength_cabcc_20
/-- a new array, the old one's elements in it -/
abbrev pNA (ca : Nat → Nat) (h : fH) (M : Nat) (g : Nat → Option Nat) : Option Value → fH → Prop := fun v h' => ∃ b, h b = none ∧ v = some (.ref b) ∧ h' = fU h b (.inl (ca 2, M, fRefs g))
theorem fU_fU (h : fH) (a : Nat) (e e' : va_E) : fU (fU h a e) a e' = fU h a e' := by
  funext q
  unfold fU
  split <;> rfl
theorem c_copy3 {l : Launch} {D : va_G} {ca : Nat → Nat} {h : fH} {a N M : Nat} {f : Nat → Option Nat} (he : h a = some (.inl (ca 2, N, fRefs f))) (h1 : N ≤ M) (h2 : M ≤ 100) (hel : ∀ i, i < N → ∀ y, f i = some y → oK h y) : FM l D ca yJ7_copyOf_6403c (.code yJ7_copyOf_6403c cJ7_copyOf_6403c 4 (some (.array (.object "java/lang/Object")))) { frames := 1, cells := 1, slots := 100, locals := 60 } [.ref a, .int (nI M), .ref (ca 5)] h (pNA ca h M (fun k => if k < N then f k else none)) noX := by
  refine FM.of [some (.ref a), some (.int (nI M)), some (.ref (ca 5)), none] (by decide) (Nat.le_of_ble_eq_true rfl) rfl ?_
  rintro K X rfl rfl rfl
  have eN : (nI N).toNatClampNeg = N := nI_clamp (by omega)
  have eM : (nI M).toNatClampNeg = M := nI_clamp (by omega)
  have nn : ∀ k, k < 1000 → ¬ nI k < 0 := fun k hk q => absurd q (not_lt32.mpr ((nI_leI (a := 0) (b := k) (by omega) (by omega)).mpr (by omega)))
  refine J_aload_2 X dJ7_copyOf_6403c_0 ?_
  refine J_ldcM X gw_1_195 dJ7_copyOf_6403c_1 ?_
  refine J_acmp_ne (tgt := 13) X dJ7_copyOf_6403c_3 (by decide) (fun q => absurd rfl q) (fun _ => ?_)
  refine J_iload_1 X dJ7_copyOf_6403c_6 ?_
  refine J_newQ X (N := M) gw_1_197 (nn M (by omega)) eM (by omega) (by rw [Bool.and_eq_true]; exact ⟨rfl, Nat.ble_eq_true_of_le (show 0 + M ≤ 100 by omega)⟩) dJ7_copyOf_6403c_7 (fun b hb => ?_)
  refine J.widen (k := 1) (j := 100) (Nat.le_refl _) (by omega) ?_
  have hne : a ≠ b := fun z => by rw [z, hb] at he; cases he
  refine J_goto (tgt := 24) X dJ7_copyOf_6403c_10 (by decide) ?_
  refine J_astore_3 X dJ7_copyOf_6403c_24 rfl (by decide) ?_
  refine J_aload_0 X dJ7_copyOf_6403c_25 ?_
  refine J_iconst (v := 0) X dJ7_copyOf_6403c_26 rfl ?_
  refine J_aload_3 X dJ7_copyOf_6403c_27 ?_
  refine J_iconst (v := 0) X dJ7_copyOf_6403c_28 rfl ?_
  refine J_aload_0 X dJ7_copyOf_6403c_29 ?_
  refine J_alen X (v := nI N) (t := 2) (by rw [fU_ne hne]; exact he) rfl rfl dJ7_copyOf_6403c_30 ?_
  refine J_iload_1 X dJ7_copyOf_6403c_31 ?_
  refine J_mmin X gw_1_198 gw_1_199 gw_1_10 gw_1_200 rfl rfl dJ7_copyOf_6403c_32 ?_
  rw [iMin_nI (by omega) (by omega), Nat.min_eq_left h1]
  refine J_acopy X gw_1_201 gw_1_203 gw_1_202 gw_1_12 (N := N) (M := M) (f := f) (g := fun _ => none) (by rw [fU_ne hne]; exact he) (fU_same _ _ _) (by decide) (by decide) (nn N (by omega)) (by rw [eN]; exact Nat.le_of_eq (Nat.zero_add _)) (by rw [eN]; show 0 + N ≤ M; omega) (fun i hi y hy => ?_) rfl dJ7_copyOf_6403c_35 ?_
  · rw [eN] at hi
    have hy' : f i = some y := by rw [← hy]; exact congrArg f (Nat.zero_add i).symm
    obtain ⟨ci, vs, r, q1, q2, q3⟩ := hel i hi y hy'
    exact ⟨ci, vs, r, by rw [fU_ne (fun z => by rw [z, hb] at q1; cases q1)]; exact q1, q2, q3⟩
  refine J_aload_3 X dJ7_copyOf_6403c_38 ?_
  refine J_aret X rfl (Or.inr ⟨_, rfl⟩) rfl ⟨b, hb, rfl, ?_⟩ dJ7_copyOf_6403c_39
  rw [fU_fU]
  have e : va_cpy f (fun _ => none) (0 : Int32).toNatClampNeg (0 : Int32).toNatClampNeg (nI N).toNatClampNeg = fun k => if k < N then f k else none := by
    funext k
    rw [eN]
    unfold va_cpy
    show (if 0 ≤ k ∧ k < 0 + N then f (0 + (k - 0)) else none) = _
    by_cases q : k < N
    · rw [if_pos ⟨by omega, by omega⟩, if_pos q, show 0 + (k - 0) = k by omega]
    · rw [if_neg (by omega), if_neg q]
  rw [e]
theorem c_copy2 {l : Launch} {D : va_G} {ca : Nat → Nat} {h : fH} {a N M : Nat} {f : Nat → Option Nat} (he : h a = some (.inl (ca 2, N, fRefs f))) (h1 : N ≤ M) (h2 : M ≤ 100) (hel : ∀ i, i < N → ∀ y, f i = some y → oK h y) : FM l D ca yJ7_copyOf_1904c (.code yJ7_copyOf_1904c cJ7_copyOf_1904c 2 (some (.array (.object "java/lang/Object")))) { frames := 2, cells := 1, slots := 100, locals := 90 } [.ref a, .int (nI M)] h (pNA ca h M (fun k => if k < N then f k else none)) noX := by
  refine FM.of [some (.ref a), some (.int (nI M))] (by decide) (Nat.le_of_ble_eq_true rfl) rfl ?_
  rintro K X rfl rfl rfl
  refine J_aload_0 X dJ7_copyOf_1904c_0 ?_
  refine J_iload_1 X dJ7_copyOf_1904c_1 ?_
  refine J_aload_0 X dJ7_copyOf_1904c_2 ?_
  refine J_getC X he gw_1_174 rfl dJ7_copyOf_1904c_3 ?_
  refine J_callS X (c_copy3 he h1 h2 hel) (And.intro gw_1_192 cw_J7_copyOf_6403c) rfl rfl (Nat.le_of_ble_eq_true rfl) dJ7_copyOf_1904c_6 rfl (fun v h2' e => ?_) JE.no
  obtain ⟨b, hb, e1, e2⟩ := e
  subst e1
  exact J_aret X rfl (Or.inr ⟨_, rfl⟩) rfl ⟨b, hb, rfl, e2⟩ dJ7_copyOf_1904c_9
end
