noncomputable section
theorem cw_X9_init : Cond.instanceMethod yX9_init ∈ GW ∧ Cond.initialized yX9_init.cls ∈ GW ∧ Cond.code yX9_init cX9_init 2 none ∈ GW ∧ yX9_init.name = "<init>" ∧ (yX9_init.cls ≠ "java/lang/invoke/MethodHandle" ∧ yX9_init.cls ≠ "java/lang/invoke/VarHandle") ∧ (parseMethodDescriptor yX9_init.desc).map (fun d => d.parameters.length) = some 1 := ⟨gw_1_116, gw_1_8, gw_1_117, rfl, ⟨by decide, by decide⟩, by decide +kernel⟩
theorem cw_X8_init : Cond.instanceMethod yX8_init ∈ GW ∧ Cond.initialized yX8_init.cls ∈ GW ∧ Cond.code yX8_init cX8_init 1 none ∈ GW ∧ yX8_init.name = "<init>" ∧ (yX8_init.cls ≠ "java/lang/invoke/MethodHandle" ∧ yX8_init.cls ≠ "java/lang/invoke/VarHandle") ∧ (parseMethodDescriptor yX8_init.desc).map (fun d => d.parameters.length) = some 0 := ⟨gw_1_80, gw_1_6, gw_1_81, rfl, ⟨by decide, by decide⟩, by decide +kernel⟩
theorem cw_X0_init : Cond.instanceMethod yX0_init ∈ GW ∧ Cond.initialized yX0_init.cls ∈ GW ∧ Cond.code yX0_init cX0_init 1 none ∈ GW ∧ yX0_init.name = "<init>" ∧ (yX0_init.cls ≠ "java/lang/invoke/MethodHandle" ∧ yX0_init.cls ≠ "java/lang/invoke/VarHandle") ∧ (parseMethodDescriptor yX0_init.desc).map (fun d => d.parameters.length) = some 0 := ⟨gw_1_100, gw_1_7, gw_1_101, rfl, ⟨by decide, by decide⟩, by decide +kernel⟩
abbrev zF (ca : Nat → Nat) : va_E := .inl (ca 1, 1000, .inl (fun _ => 0))
abbrev zI (ca : Nat → Nat) (n : Nat) : va_E := .inl (ca 0, n, .inl (fun _ => 0))
abbrev zZ (i : Int32) (b : Nat) : va_E := .inr (10, [.int i, .ref b, .int 0, .int 24, .int 2, .int 0])
theorem c_newZone {l : Launch} {D : va_G} {ca : Nat → Nat} {h : fH} {a : Nat} {p1 : Int32} (he : h a = some (.inr (10, [.int 0, .null, .int 0, .int 0, .int 0, .int 0]))) : FM l D ca yX9_init (.code yX9_init cX9_init 2 none) { frames := 1, cells := 1, slots := 1000, locals := 20 } [.ref a, .int p1] h (pVM (fun h2 => ∃ b, h b = none ∧ h2 = fU (fU h b (zF ca)) a (zZ p1 b))) noX := by
  refine FM.of [some (.ref a), some (.int p1)] (by decide) (Nat.le_of_ble_eq_true rfl) rfl ?_
  rintro K X rfl rfl rfl
  refine J_aload_0 X dX9_init_0 ?_
  refine J_objInit X gw_1_118 rfl dX9_init_1 ?_
  refine J_aload_0 X dX9_init_4 ?_
  refine J_sipush (v := 1000) X dX9_init_5 (by decide) ?_
  refine J_newZ X (N := 1000) (by decide) (by decide) (by decide) rfl dX9_init_8 (fun b hb => ?_)
  have hab : a ≠ b := fun z => by rw [← z, he] at hb; cases hb
  have he2 : fU h b (zF (kca K)) a = some (.inr (10, [.int 0, .null, .int 0, .int 0, .int 0, .int 0])) := by rw [fU_ne hab]; exact he
  refine J_putF X (C := RX9) (T := TX9) (N := 6) (ref := "NightValley$Zone") he2 rfl 1 (by decide) (Nat.le_of_ble_eq_true rfl) in_X9 tyX9 tyX9_ok nmX9 rfl rfl rfl rfl rfl gw_1_121 (fun _ z => z) dX9_init_10 ?_
  refine J_aload_0 X dX9_init_13 ?_
  refine J_bipush (v := 24) X dX9_init_14 (by decide) ?_
  refine J_put X (C := RX9) (T := TX9) (N := 6) (ref := "NightValley$Zone") (fU_same _ _ _) rfl 3 (by decide) (Nat.le_of_ble_eq_true rfl) in_X9 tyX9 tyX9_ok nmX9 rfl rfl rfl gw_1_124 (fun _ z => z) dX9_init_16 ?_
  refine J_aload_0 X dX9_init_19 ?_
  refine J_iconst (v := 2) X dX9_init_20 rfl ?_
  refine J_put X (C := RX9) (T := TX9) (N := 6) (ref := "NightValley$Zone") (fU_same _ _ _) rfl 4 (by decide) (Nat.le_of_ble_eq_true rfl) in_X9 tyX9 tyX9_ok nmX9 rfl rfl rfl gw_1_126 (fun _ z => z) dX9_init_21 ?_
  refine J_aload_0 X dX9_init_24 ?_
  refine J_iload_1 X dX9_init_25 ?_
  refine J_putF X (C := RX9) (T := TX9) (N := 6) (ref := "NightValley$Zone") (fU_same _ _ _) rfl 0 (by decide) (Nat.le_of_ble_eq_true rfl) in_X9 tyX9 tyX9_ok nmX9 rfl rfl rfl rfl rfl gw_1_119 (fun _ z => z) dX9_init_26 ?_
  refine J_vret X rfl rfl ⟨rfl, b, hb, ?_⟩ dX9_init_29
  repeat rw [fU_fU]
  rfl
theorem fU_swap {h : fH} {a b : Nat} {x y : va_E} (n : a ≠ b) : fU (fU h a x) b y = fU (fU h b y) a x := by
  funext q
  by_cases w : q = a
  · rw [w, fU_same, fU_ne n, fU_same]
  · by_cases v : q = b
    · rw [v, fU_same, fU_ne n.symm, fU_same]
    · rw [fU_ne v, fU_ne w, fU_ne w, fU_ne v]
theorem c_newWalk {l : Launch} {D : va_G} {ca : Nat → Nat} {h : fH} {a : Nat} (he : h a = some (.inr (9, [.null, .null, .null, .int 0]))) : FM l D ca yX8_init (.code yX8_init cX8_init 1 none) { frames := 1, cells := 3, slots := 192, locals := 20 } [.ref a] h (pVM (fun h2 => ∃ b0 b1 b2, h b0 = none ∧ fU h b0 (zI ca 64) b1 = none ∧ fU (fU h b0 (zI ca 64)) b1 (zI ca 64) b2 = none ∧ h2 = fU (fU (fU (fU h b0 (zI ca 64)) b1 (zI ca 64)) b2 (zI ca 64)) a (.inr (9, [.ref b0, .ref b1, .ref b2, .int 0])))) noX := by
  refine FM.of [some (.ref a)] (by decide) (Nat.le_of_ble_eq_true rfl) rfl ?_
  rintro K X rfl rfl rfl
  refine J_aload_0 X dX8_init_0 ?_
  refine J_objInit X gw_1_82 rfl dX8_init_1 ?_
  refine J_aload_0 X dX8_init_4 ?_
  refine J_bipush (v := 64) X dX8_init_5 (by decide) ?_
  refine J_newI X (N := 64) (by decide) (by decide) (by decide) rfl dX8_init_7 (fun b0 hb0 => ?_)
  have n0 : a ≠ b0 := fun z => by rw [← z, he] at hb0; cases hb0
  have he2 : fU h b0 (zI (kca K) 64) a = some (.inr (9, [.null, .null, .null, .int 0])) := by rw [fU_ne n0]; exact he
  refine J_putF X (C := RX8) (T := TX8) (N := 4) (ref := "NightValley$Walk") he2 rfl 0 (by decide) (Nat.le_of_ble_eq_true rfl) in_X8 tyX8 tyX8_ok nmX8 rfl rfl rfl rfl rfl gw_1_83 (fun _ z => z) dX8_init_9 ?_
  refine J_aload_0 X dX8_init_12 ?_
  refine J_bipush (v := 64) X dX8_init_13 (by decide) ?_
  refine J_newI X (N := 64) (by decide) (by decide) (by decide) rfl dX8_init_15 (fun b1 hb1 => ?_)
  have n1 : a ≠ b1 := fun z => by rw [← z, fU_same] at hb1; cases hb1
  rw [fU_ne n1.symm] at hb1
  rw [fU_swap n1]
  refine J_putF X (C := RX8) (T := TX8) (N := 4) (ref := "NightValley$Walk") (fU_same _ _ _) rfl 1 (by decide) (Nat.le_of_ble_eq_true rfl) in_X8 tyX8 tyX8_ok nmX8 rfl rfl rfl rfl rfl gw_1_84 (fun _ z => z) dX8_init_17 ?_
  rw [fU_fU]
  refine J_aload_0 X dX8_init_20 ?_
  refine J_bipush (v := 64) X dX8_init_21 (by decide) ?_
  refine J_newI X (N := 64) (by decide) (by decide) (by decide) rfl dX8_init_23 (fun b2 hb2 => ?_)
  have n2 : a ≠ b2 := fun z => by rw [← z, fU_same] at hb2; cases hb2
  rw [fU_ne n2.symm] at hb2
  rw [fU_swap n2]
  refine J_putF X (C := RX8) (T := TX8) (N := 4) (ref := "NightValley$Walk") (fU_same _ _ _) rfl 2 (by decide) (Nat.le_of_ble_eq_true rfl) in_X8 tyX8 tyX8_ok nmX8 rfl rfl rfl rfl rfl gw_1_85 (fun _ z => z) dX8_init_25 ?_
  rw [fU_fU]
  exact J_vret X rfl rfl ⟨rfl, b0, b1, b2, hb0, hb1, hb2, rfl⟩ dX8_init_28
theorem c_newChoice {l : Launch} {D : va_G} {ca : Nat → Nat} {h : fH} {a : Nat} (he : h a = some (.inr (1, [.null, .null, .int 0]))) : FM l D ca yX0_init (.code yX0_init cX0_init 1 none) { frames := 1, cells := 2, slots := 20, locals := 20 } [.ref a] h (pVM (fun h2 => ∃ b0 b1, h b0 = none ∧ fU h b0 (zI ca 10) b1 = none ∧ h2 = fU (fU (fU h b0 (zI ca 10)) b1 (zI ca 10)) a (.inr (1, [.ref b0, .ref b1, .int 0])))) noX := by
  refine FM.of [some (.ref a)] (by decide) (Nat.le_of_ble_eq_true rfl) rfl ?_
  rintro K X rfl rfl rfl
  refine J_aload_0 X dX0_init_0 ?_
  refine J_objInit X gw_1_102 rfl dX0_init_1 ?_
  refine J_aload_0 X dX0_init_4 ?_
  refine J_bipush (v := 10) X dX0_init_5 (by decide) ?_
  refine J_newI X (N := 10) (by decide) (by decide) (by decide) rfl dX0_init_7 (fun b0 hb0 => ?_)
  have n0 : a ≠ b0 := fun z => by rw [← z, he] at hb0; cases hb0
  have he2 : fU h b0 (zI (kca K) 10) a = some (.inr (1, [.null, .null, .int 0])) := by rw [fU_ne n0]; exact he
  refine J_putF X (C := RX0) (T := TX0) (N := 3) (ref := "NightValley$Choice") he2 rfl 0 (by decide) (Nat.le_of_ble_eq_true rfl) in_X0 tyX0 tyX0_ok nmX0 rfl rfl rfl rfl rfl gw_1_103 (fun _ z => z) dX0_init_9 ?_
  refine J_aload_0 X dX0_init_12 ?_
  refine J_bipush (v := 10) X dX0_init_13 (by decide) ?_
  refine J_newI X (N := 10) (by decide) (by decide) (by decide) rfl dX0_init_15 (fun b1 hb1 => ?_)
  have n1 : a ≠ b1 := fun z => by rw [← z, fU_same] at hb1; cases hb1
  rw [fU_ne n1.symm] at hb1
  rw [fU_swap n1]
  refine J_putF X (C := RX0) (T := TX0) (N := 3) (ref := "NightValley$Choice") (fU_same _ _ _) rfl 1 (by decide) (Nat.le_of_ble_eq_true rfl) in_X0 tyX0 tyX0_ok nmX0 rfl rfl rfl rfl rfl gw_1_104 (fun _ z => z) dX0_init_17 ?_
  rw [fU_fU]
  exact J_vret X rfl rfl ⟨rfl, b0, b1, hb0, hb1, rfl⟩ dX0_init_20
end
