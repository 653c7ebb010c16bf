noncomputable section
theorem cw_X1_init : Cond.instanceMethod yX1_init ∈ GW ∧ Cond.initialized yX1_init.cls ∈ GW ∧ Cond.code yX1_init cX1_init 1 none ∈ GW ∧ yX1_init.name = "<init>" ∧ (yX1_init.cls ≠ "java/lang/invoke/MethodHandle" ∧ yX1_init.cls ≠ "java/lang/invoke/VarHandle") ∧ (parseMethodDescriptor yX1_init.desc).map (fun d => d.parameters.length) = some 0 := ⟨gw_1_63, gw_1_5, gw_1_64, rfl, ⟨by decide, by decide⟩, by decide +kernel⟩
theorem c_newLabel {l : Launch} {D : va_G} {ca : Nat → Nat} {h : fH} {a : Nat} (he : h a = some (.inr (2, [.int 0, .int 0, .int 0]))) : FM l D ca yX1_init (.code yX1_init cX1_init 1 none) { frames := 1, cells := 0, slots := 0, locals := 20 } [.ref a] h (pVM (fun h2 => h2 = fU h a (.inr (2, [.int (1 : Int32), .int 0, .int 0])))) noX := by
  refine FM.of [some (.ref a)] (by decide) (Nat.le_of_ble_eq_true rfl) rfl ?_
  rintro K X rfl rfl rfl
  refine J_aload_0 X dX1_init_0 ?_
  refine J_objInit X gw_1_65 rfl dX1_init_1 ?_
  refine J_aload_0 X dX1_init_4 ?_
  refine J_iconst (v := 1) X dX1_init_5 rfl ?_
  refine J_put X (C := RX1) (T := TX1) (N := 3) (ref := "NightValley$Label") he rfl 0 (by decide) (Nat.le_of_ble_eq_true rfl) in_X1 tyX1 tyX1_ok nmX1 rfl (nar01 (by decide)) (fit01 (by decide)) gw_1_66 (fun _ z => z) dX1_init_6 ?_
  refine J_vret X rfl rfl ⟨rfl, ?_⟩ dX1_init_9
  repeat rw [fU_fU]
  rfl
theorem cw_Jxa1e45_init_da8c8 : Cond.instanceMethod yJxa1e45_init_da8c8 ∈ GW ∧ Cond.initialized yJxa1e45_init_da8c8.cls ∈ GW ∧ Cond.code yJxa1e45_init_da8c8 cJxa1e45_init_da8c8 1 none ∈ GW ∧ yJxa1e45_init_da8c8.name = "<init>" ∧ (yJxa1e45_init_da8c8.cls ≠ "java/lang/invoke/MethodHandle" ∧ yJxa1e45_init_da8c8.cls ≠ "java/lang/invoke/VarHandle") ∧ (parseMethodDescriptor yJxa1e45_init_da8c8.desc).map (fun d => d.parameters.length) = some 0 := ⟨gw_1_43, gw_1_2, gw_1_44, rfl, ⟨by decide, by decide⟩, by decide +kernel⟩
theorem cw_Jxc12de_init_da8c8 : Cond.instanceMethod yJxc12de_init_da8c8 ∈ GW ∧ Cond.initialized yJxc12de_init_da8c8.cls ∈ GW ∧ Cond.code yJxc12de_init_da8c8 cJxc12de_init_da8c8 1 none ∈ GW ∧ yJxc12de_init_da8c8.name = "<init>" ∧ (yJxc12de_init_da8c8.cls ≠ "java/lang/invoke/MethodHandle" ∧ yJxc12de_init_da8c8.cls ≠ "java/lang/invoke/VarHandle") ∧ (parseMethodDescriptor yJxc12de_init_da8c8.desc).map (fun d => d.parameters.length) = some 0 := ⟨gw_1_40, gw_1_3, gw_1_41, rfl, ⟨by decide, by decide⟩, by decide +kernel⟩
theorem cw_Jx4a65c_init_da8c8 : Cond.instanceMethod yJx4a65c_init_da8c8 ∈ GW ∧ Cond.initialized yJx4a65c_init_da8c8.cls ∈ GW ∧ Cond.code yJx4a65c_init_da8c8 cJx4a65c_init_da8c8 1 none ∈ GW ∧ yJx4a65c_init_da8c8.name = "<init>" ∧ (yJx4a65c_init_da8c8.cls ≠ "java/lang/invoke/MethodHandle" ∧ yJx4a65c_init_da8c8.cls ≠ "java/lang/invoke/VarHandle") ∧ (parseMethodDescriptor yJx4a65c_init_da8c8.desc).map (fun d => d.parameters.length) = some 0 := ⟨gw_1_37, gw_1_4, gw_1_38, rfl, ⟨by decide, by decide⟩, by decide +kernel⟩
theorem c_acInit {l : Launch} {D : va_G} {ca : Nat → Nat} {h : fH} {a : Nat} : FM l D ca yJxa1e45_init_da8c8 (.code yJxa1e45_init_da8c8 cJxa1e45_init_da8c8 1 none) { frames := 1, cells := 0, slots := 0, locals := 20 } [.ref a] h (pVM (fun h2 => h2 = h)) noX := by
  refine FM.of [some (.ref a)] (by decide) (Nat.le_of_ble_eq_true rfl) rfl ?_
  rintro K X rfl rfl rfl
  refine J_aload_0 X dJxa1e45_init_da8c8_0 ?_
  refine J_objInit X gw_1_45 rfl dJxa1e45_init_da8c8_1 ?_
  exact J_vret X rfl rfl ⟨rfl, rfl⟩ dJxa1e45_init_da8c8_4
theorem c_ablInit {l : Launch} {D : va_G} {ca : Nat → Nat} {h : fH} {a : Nat} {x : Int32} {v1 v2 : Value} (he : h a = some (.inr (0, [.int x, v1, v2]))) : FM l D ca yJxc12de_init_da8c8 (.code yJxc12de_init_da8c8 cJxc12de_init_da8c8 1 none) { frames := 2, cells := 0, slots := 0, locals := 50 } [.ref a] h (pVM (fun h2 => h2 = fU h a (.inr (0, [.int 0, v1, v2])))) noX := by
  refine FM.of [some (.ref a)] (by decide) (Nat.le_of_ble_eq_true rfl) rfl ?_
  rintro K X rfl rfl rfl
  refine J_aload_0 X dJxc12de_init_da8c8_0 ?_
  refine J_callI X c_acInit (And.intro gw_1_42 cw_Jxa1e45_init_da8c8) rfl rfl (Nat.le_of_ble_eq_true rfl) dJxc12de_init_da8c8_1 rfl (J.pvmX (fun h2 e => ?_)) JE.no
  rw [e]
  refine J_aload_0 X dJxc12de_init_da8c8_4 ?_
  refine J_iconst (v := 0) X dJxc12de_init_da8c8_5 rfl ?_
  refine J_put X (C := RJx4a65c) (T := TJx4a65c) (N := 3) (ref := "java/util/AbstractList") he rfl 0 (by decide) (Nat.le_of_ble_eq_true rfl) in_Jx4a65c tyJx4a65c tyJx4a65c_ok nmJx4a65c rfl rfl rfl gw_1_50 (fun _ z => z) dJxc12de_init_da8c8_6 ?_
  exact J_vret X rfl rfl ⟨rfl, rfl⟩ dJxc12de_init_da8c8_9
theorem c_alInit {l : Launch} {D : va_G} {ca : Nat → Nat} {h : fH} {a : Nat} {x : Int32} {v1 v2 : Value} (he : h a = some (.inr (0, [.int x, v1, v2]))) : FM l D ca yJx4a65c_init_da8c8 (.code yJx4a65c_init_da8c8 cJx4a65c_init_da8c8 1 none) { frames := 3, cells := 0, slots := 0, locals := 80 } [.ref a] h (pVM (fun h2 => h2 = fU h a (.inr (0, [.int 0, .ref (ca 4), v2])))) noX := by
  refine FM.of [some (.ref a)] (by decide) (Nat.le_of_ble_eq_true rfl) rfl ?_
  rintro K X rfl rfl rfl
  refine J_aload_0 X dJx4a65c_init_da8c8_0 ?_
  refine J_callI X (c_ablInit he) (And.intro gw_1_39 cw_Jxc12de_init_da8c8) rfl rfl (Nat.le_of_ble_eq_true rfl) dJx4a65c_init_da8c8_1 rfl (J.pvmX (fun h2 e => ?_)) JE.no
  rw [e]
  refine J_aload_0 X dJx4a65c_init_da8c8_4 ?_
  refine J_gempty X gw_1_46 dJx4a65c_init_da8c8_5 ?_
  refine J_put X (C := RJx4a65c) (T := TJx4a65c) (N := 3) (ref := "java/util/ArrayList") (fU_same _ _ _) rfl 1 (by decide) (Nat.le_of_ble_eq_true rfl) in_Jx4a65c tyJx4a65c tyJx4a65c_ok nmJx4a65c rfl rfl rfl gw_1_48 (fun _ z => z) dJx4a65c_init_da8c8_8 ?_
  exact J_vret X rfl rfl ⟨rfl, by rw [fU_fU]; rfl⟩ dJx4a65c_init_da8c8_11
end
