noncomputable section
theorem cw_Jx4a65c_remove_915e3 : Cond.instanceMethod yJx4a65c_remove_915e3 ∈ GW ∧ Cond.selects RJx4a65c yJx4a65c_remove_915e3 yJx4a65c_remove_915e3 ∈ GW ∧ Cond.initialized RJx4a65c ∈ GW ∧ Cond.code yJx4a65c_remove_915e3 cJx4a65c_remove_915e3 4 (some (.object "java/lang/Object")) ∈ GW ∧ yJx4a65c_remove_915e3.cls = RJx4a65c ∧ (yJx4a65c_remove_915e3.cls ≠ "java/lang/invoke/MethodHandle" ∧ yJx4a65c_remove_915e3.cls ≠ "java/lang/invoke/VarHandle") ∧ (parseMethodDescriptor yJx4a65c_remove_915e3.desc).map (fun d => d.parameters.length) = some 1 := ⟨gw_3_224, gw_3_225, gw_1_4, gw_3_226, rfl, ⟨by decide, by decide⟩, by decide +kernel⟩
theorem cw_Jx4a65c_fastRemove_b59b0 : Cond.instanceMethod yJx4a65c_fastRemove_b59b0 ∈ GW ∧ Cond.selects RJx4a65c yJx4a65c_fastRemove_b59b0 yJx4a65c_fastRemove_b59b0 ∈ GW ∧ Cond.initialized RJx4a65c ∈ GW ∧ Cond.code yJx4a65c_fastRemove_b59b0 cJx4a65c_fastRemove_b59b0 4 none ∈ GW ∧ yJx4a65c_fastRemove_b59b0.cls = RJx4a65c ∧ (yJx4a65c_fastRemove_b59b0.cls ≠ "java/lang/invoke/MethodHandle" ∧ yJx4a65c_fastRemove_b59b0.cls ≠ "java/lang/invoke/VarHandle") ∧ (parseMethodDescriptor yJx4a65c_fastRemove_b59b0.desc).map (fun d => d.parameters.length) = some 2 := ⟨gw_3_229, gws_16, gw_1_4, gw_3_230, rfl, ⟨by decide, by decide⟩, by decide +kernel⟩
/-- what remove(0) leaves of the array -/
def rmF (f : Nat → Option Nat) (n : Nat) : Nat → Option Nat := va_up (va_cpy f f 1 0 (n - 1)) (n - 1) none
theorem c_fastRem {l : Launch} {D : va_G} {ca : Nat → Nat} {h : fH} {L d c n : Nat} {mc : Int32} {f : Nat → Option Nat} (hL : h L = some (.inr (0, [.int mc, .ref d, .int (nI n)]))) (hd : h d = some (.inl (ca 2, c, fRefs f))) (h2 : 2 ≤ n) (hn : n ≤ c) (hc : c ≤ 100) (hel : ∀ i, i < n → ∀ y, f i = some y → oK h y) (hyL : ∀ i y, f i = some y → y ≠ L) : FM l D ca yJx4a65c_fastRemove_b59b0 (.code yJx4a65c_fastRemove_b59b0 cJx4a65c_fastRemove_b59b0 4 none) { frames := 3, cells := 0, slots := 0, locals := 80 } [.ref L, .ref d, .int 0] h (pVM (fun h2 => h2 = fU (fU h d (.inl (ca 2, c, fRefs (rmF f n)))) L (.inr (0, [.int (mc + 1), .ref d, .int (nI (n - 1))])))) noX := by
  have hLd : L ≠ d := fun z => by rw [z, hd] at hL; cases hL
  refine FM.of [some (.ref L), some (.ref d), some (.int 0), none] (by decide) (Nat.le_of_ble_eq_true rfl) rfl ?_
  rintro K X rfl rfl rfl
  refine J_aload_0 X dJx4a65c_fastRemove_b59b0_0 ?_
  refine J_dup X dJx4a65c_fastRemove_b59b0_1 rfl ?_
  refine J_get X (C := RJx4a65c) (T := TJx4a65c) (N := 3) (ref := "java/util/ArrayList") hL rfl 0 (by decide) rfl in_Jx4a65c gw_1_51 (fun x z => u_same (J.w X gw_1_52) x z) dJx4a65c_fastRemove_b59b0_2 ?_
  refine J_iconst (v := 1) X dJx4a65c_fastRemove_b59b0_5 rfl ?_
  refine J_iadd X dJx4a65c_fastRemove_b59b0_6 ?_
  refine J_put X (C := RJx4a65c) (T := TJx4a65c) (N := 3) (ref := "java/util/ArrayList") hL rfl 0 (by decide) (Nat.le_of_ble_eq_true rfl) in_Jx4a65c tyJx4a65c tyJx4a65c_ok nmJx4a65c rfl rfl rfl gw_1_51 (fun x z => u_same (J.w X gw_1_52) x z) dJx4a65c_fastRemove_b59b0_7 ?_
  have hL2 : fU h L (.inr (0, [.int (mc + 1), .ref d, .int (nI n)])) L = some (.inr (0, [.int (mc + 1), .ref d, .int (nI n)])) := fU_same _ _ _
  have hd2 : fU h L (.inr (0, [.int (mc + 1), .ref d, .int (nI n)])) d = some (.inl (kca K 2, c, fRefs f)) := by rw [fU_ne hLd.symm]; exact hd
  refine J_aload_0 X dJx4a65c_fastRemove_b59b0_10 ?_
  refine J_get X (C := RJx4a65c) (T := TJx4a65c) (N := 3) (ref := "java/util/ArrayList") hL2 rfl 2 (by decide) rfl in_Jx4a65c gw_1_49 (fun _ z => z) dJx4a65c_fastRemove_b59b0_11 ?_
  refine J_iconst (v := 1) X dJx4a65c_fastRemove_b59b0_14 rfl ?_
  refine J_isub X dJx4a65c_fastRemove_b59b0_15 ?_
  have e1 : nI n - 1 = nI (n - 1) := pk_sub (a := n) (b := 1) (by omega)
  rw [e1]
  refine J_dup X dJx4a65c_fastRemove_b59b0_16 rfl ?_
  refine J_istore_3 X dJx4a65c_fastRemove_b59b0_17 rfl (by decide) ?_
  refine J_iload_2 X dJx4a65c_fastRemove_b59b0_18 ?_
  refine J_icmp_le (tgt := 34) X dJx4a65c_fastRemove_b59b0_19 (by decide) (fun z => absurd ((nI_leI (a := n - 1) (b := 0) (by omega) (by omega)).mp z) (by omega)) (fun _ => ?_)
  refine J_aload_1 X dJx4a65c_fastRemove_b59b0_22 ?_
  refine J_iload_2 X dJx4a65c_fastRemove_b59b0_23 ?_
  refine J_iconst (v := 1) X dJx4a65c_fastRemove_b59b0_24 rfl ?_
  refine J_iadd X dJx4a65c_fastRemove_b59b0_25 ?_
  refine J_aload_1 X dJx4a65c_fastRemove_b59b0_26 ?_
  refine J_iload_2 X dJx4a65c_fastRemove_b59b0_27 ?_
  refine J_iload_3 X dJx4a65c_fastRemove_b59b0_28 ?_
  refine J_iload_2 X dJx4a65c_fastRemove_b59b0_29 ?_
  refine J_isub X dJx4a65c_fastRemove_b59b0_30 ?_
  rw [show (0 : Int32) + 1 = 1 from rfl, show nI (n - 1) - 0 = nI (n - 1) from Int32.sub_zero _]
  have en : (nI (n - 1)).toNatClampNeg = n - 1 := ixn (by omega)
  have ko : ∀ y, y ≠ L → oK h y → oK (fU h L (.inr (0, [.int (mc + 1), .ref d, .int (nI n)]))) y := fun y hy ⟨ci, vs, r, o1, o2, o3⟩ => ⟨ci, vs, r, by rw [fU_ne hy]; exact o1, o2, o3⟩
  refine J_acopy X gw_3_231 gw_1_203 gw_1_202 gw_1_12 (N := c) (M := c) (f := f) (g := f) hd2 hd2 (by decide) (by decide) (nIlt (by omega)) (by rw [en]; show 1 + (n - 1) ≤ c; omega) (by rw [en]; show 0 + (n - 1) ≤ c; omega) (fun i hi y hy => ?_) rfl dJx4a65c_fastRemove_b59b0_31 ?_
  · rw [en] at hi
    exact ko y (hyL _ y hy) (hel (1 + i) (by omega) y hy)
  rw [en, show (1 : Int32).toNatClampNeg = 1 from rfl, show (0 : Int32).toNatClampNeg = 0 from rfl]
  refine J_aload_1 X dJx4a65c_fastRemove_b59b0_34 ?_
  refine J_aload_0 X dJx4a65c_fastRemove_b59b0_35 ?_
  refine J_iload_3 X dJx4a65c_fastRemove_b59b0_36 ?_
  refine J_dup_x1 X dJx4a65c_fastRemove_b59b0_37 rfl rfl ?_
  have hL3 : fU (fU h L (.inr (0, [.int (mc + 1), .ref d, .int (nI n)]))) d (.inl (kca K 2, c, fRefs (va_cpy f f 1 0 (n - 1)))) L = some (.inr (0, [.int (mc + 1), .ref d, .int (nI n)])) := by rw [fU_ne hLd]; exact fU_same _ _ _
  refine J_put X (C := RJx4a65c) (T := TJx4a65c) (N := 3) (ref := "java/util/ArrayList") hL3 rfl 2 (by decide) (Nat.le_of_ble_eq_true rfl) in_Jx4a65c tyJx4a65c tyJx4a65c_ok nmJx4a65c rfl rfl rfl gw_1_49 (fun _ z => z) dJx4a65c_fastRemove_b59b0_38 ?_
  refine J_null X dJx4a65c_fastRemove_b59b0_41 ?_
  refine J_aastN X (N := c) (f := va_cpy f f 1 0 (n - 1)) (by rw [fU_ne hLd.symm]; exact fU_same _ _ _) (vp_in_nI (by omega) (by omega)) dJx4a65c_fastRemove_b59b0_42 ?_
  rw [en]
  refine J_vret X rfl rfl ⟨rfl, ?_⟩ dJx4a65c_fastRemove_b59b0_43
  funext x
  by_cases w : x = L
  · rw [w, fU_same, fU_ne hLd, fU_same]
    rfl
  · by_cases v : x = d
    · rw [v, fU_same, fU_ne hLd.symm, fU_same]
      rfl
    · rw [fU_ne v, fU_ne w, fU_ne v, fU_ne w, fU_ne w, fU_ne v]
theorem c_rem {l : Launch} {D : va_G} {ca : Nat → Nat} {h : fH} {L d c n y0 : Nat} {mc : Int32} {f : Nat → Option Nat} (hL : h L = some (.inr (0, [.int mc, .ref d, .int (nI n)]))) (hd : h d = some (.inl (ca 2, c, fRefs f))) (h2 : 2 ≤ n) (hn : n ≤ c) (hc : c ≤ 100) (hel : ∀ i, i < n → ∀ y, f i = some y → oK h y) (hyL : ∀ i y, f i = some y → y ≠ L) (h0 : f 0 = some y0) : FM l D ca yJx4a65c_remove_915e3 (.code yJx4a65c_remove_915e3 cJx4a65c_remove_915e3 4 (some (.object "java/lang/Object"))) { frames := 4, cells := 0, slots := 0, locals := 110 } [.ref L, .int 0] h (fun v h2 => v = some (.ref y0) ∧ h2 = fU (fU h d (.inl (ca 2, c, fRefs (rmF f n)))) L (.inr (0, [.int (mc + 1), .ref d, .int (nI (n - 1))]))) noX := by
  refine FM.of [some (.ref L), some (.int 0), none, none] (by decide) (Nat.le_of_ble_eq_true rfl) rfl ?_
  rintro K X rfl rfl rfl
  refine J_iload_1 X dJx4a65c_remove_915e3_0 ?_
  refine J_aload_0 X dJx4a65c_remove_915e3_1 ?_
  refine J_get X (C := RJx4a65c) (T := TJx4a65c) (N := 3) (ref := "java/util/ArrayList") hL rfl 2 (by decide) rfl in_Jx4a65c gw_1_49 (fun _ z => z) dJx4a65c_remove_915e3_2 ?_
  refine J_callS X (c_ocheck (i := 0) (n := nI n) (by decide) (Classical.byContradiction fun z => absurd ((nI_leI (a := n) (b := 0) (by omega) (by omega)).mp (not_lt32.mp z)) (by omega))) (And.intro gw_2_108 cw_J15_checkIndex_7cf53) rfl rfl (Nat.le_of_ble_eq_true rfl) dJx4a65c_remove_915e3_5 rfl (J.pi ?_) JE.no
  refine J_pop X dJx4a65c_remove_915e3_8 rfl ?_
  refine J_aload_0 X dJx4a65c_remove_915e3_9 ?_
  refine J_get X (C := RJx4a65c) (T := TJx4a65c) (N := 3) (ref := "java/util/ArrayList") hL rfl 1 (by decide) rfl in_Jx4a65c gw_1_48 (fun _ z => z) dJx4a65c_remove_915e3_10 ?_
  refine J_astore_2 X dJx4a65c_remove_915e3_13 rfl (by decide) ?_
  refine J_aload_2 X dJx4a65c_remove_915e3_14 ?_
  refine J_iload_1 X dJx4a65c_remove_915e3_15 ?_
  refine J_aald X (N := c) (f := f) hd (by show vp_in (nI 0) c; exact vp_in_nI (by omega) (by omega)) dJx4a65c_remove_915e3_16 ?_
  rw [show (0 : Int32).toNatClampNeg = 0 from rfl, h0]
  refine J_astore_3 X dJx4a65c_remove_915e3_17 rfl (by decide) ?_
  refine J_aload_0 X dJx4a65c_remove_915e3_18 ?_
  refine J_aload_2 X dJx4a65c_remove_915e3_19 ?_
  refine J_iload_1 X dJx4a65c_remove_915e3_20 ?_
  refine J_callV X (c_fastRem hL hd h2 hn hc hel hyL) (And.intro gw_3_227 cw_Jx4a65c_fastRemove_b59b0) hL rfl rfl rfl (Nat.le_of_ble_eq_true rfl) dJx4a65c_remove_915e3_21 rfl (J.pvmX (fun h3 e3 => ?_)) JE.no
  refine J_aload_3 X dJx4a65c_remove_915e3_24 ?_
  exact J_aret X rfl (Or.inl ⟨_, rfl⟩) rfl ⟨rfl, e3⟩ dJx4a65c_remove_915e3_25
end
