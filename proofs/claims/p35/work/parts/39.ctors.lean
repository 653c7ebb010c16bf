noncomputable section
section OBJI
variable {K : KT} {mn own : String} {cc : ByteArray} {n : Nat} {ret : Option FieldType} {tb : List ExceptionTableEntry} {w0 : Cond} {rm : Room} {h0 : fH} {post : Option Value → fH → Prop} {px : String → fH → Prop}
variable {h : fH} {lv : LV} {st : List Value} {pc cells slots : Nat}
theorem J_objInit (X : JX K mn own cc n ret tb w0 rm h0 post px) {iz a : Nat} (hl' : Cond.methodLink own iz ⟨"java/lang/Object", "<init>", "()V"⟩ ∈ GW) (hR : (Nat.ble 1 rm.frames && Nat.ble ((st.map fun v => v.category).sum + 12) rm.locals) = true) (d : decode cc pc = .ok (.invokespecial iz, 3)) (k : J K h lv st (pc + 3) cells slots) : J K h lv (.ref a :: st) pc cells slots := fun H locs ls hP hD hS hl =>
  W.objInit X.1 X.2.1 X.2.2.2.1 (J.w X hl') (J.w X gw_1_32) (J.w X gw_1_33) rfl hl.1 rfl d (by rw [X.2.2.2.2.2.2.2.2.2.2.1]; exact (J.hR2 hR).1) (by rw [X.2.2.2.2.2.2.2.2.2.2.1]; have := (J.hR2 hR).2; show 2 * 0 + _ + _ ≤ _; omega) (k H locs ls hP hD hS hl)
end OBJI
theorem cw_X5_init : Cond.instanceMethod yX5_init ∈ GW ∧ Cond.initialized yX5_init.cls ∈ GW ∧ Cond.code yX5_init cX5_init 3 none ∈ GW ∧ yX5_init.name = "<init>" ∧ (yX5_init.cls ≠ "java/lang/invoke/MethodHandle" ∧ yX5_init.cls ≠ "java/lang/invoke/VarHandle") ∧ (parseMethodDescriptor yX5_init.desc).map (fun d => d.parameters.length) = some 2 := ⟨gw_3_204, gw_1_25, gw_3_205, rfl, ⟨by decide, by decide⟩, by decide +kernel⟩
theorem c_newReading {l : Launch} {D : va_G} {ca : Nat → Nat} {h : fH} {a : Nat} {p1 : Int32} {p2 : Int32} (he : h a = some (.inr (6, [.int 0, .int 0]))) : FM l D ca yX5_init (.code yX5_init cX5_init 3 none) { frames := 1, cells := 0, slots := 0, locals := 20 } [.ref a, .int p1, .int p2] h (pVM (fun h2 => h2 = fU h a (.inr (6, [.int p1, .int p2])))) noX := by
  refine FM.of [some (.ref a), some (.int p1), some (.int p2)] (by decide) (Nat.le_of_ble_eq_true rfl) rfl ?_
  rintro K X rfl rfl rfl
  refine J_aload_0 X dX5_init_0 ?_
  refine J_objInit X gw_3_206 rfl dX5_init_1 ?_
  refine J_aload_0 X dX5_init_4 ?_
  refine J_iload_1 X dX5_init_5 ?_
  refine J_putF X (C := RX5) (T := TX5) (N := 2) (ref := "NightValley$Reading") he rfl 0 (by decide) (Nat.le_of_ble_eq_true rfl) in_X5 tyX5 tyX5_ok nmX5 rfl rfl rfl rfl rfl gw_3_207 (fun _ z => z) dX5_init_6 ?_
  refine J_aload_0 X dX5_init_9 ?_
  refine J_iload_2 X dX5_init_10 ?_
  refine J_putF X (C := RX5) (T := TX5) (N := 2) (ref := "NightValley$Reading") (fU_same _ _ _) rfl 1 (by decide) (Nat.le_of_ble_eq_true rfl) in_X5 tyX5 tyX5_ok nmX5 rfl rfl rfl rfl rfl gw_3_210 (fun _ z => z) dX5_init_11 ?_
  refine J_vret X rfl rfl ⟨rfl, ?_⟩ dX5_init_14
  repeat rw [fU_fU]
  rfl
theorem cw_X7_init : Cond.instanceMethod yX7_init ∈ GW ∧ Cond.initialized yX7_init.cls ∈ GW ∧ Cond.code yX7_init cX7_init 3 none ∈ GW ∧ yX7_init.name = "<init>" ∧ (yX7_init.cls ≠ "java/lang/invoke/MethodHandle" ∧ yX7_init.cls ≠ "java/lang/invoke/VarHandle") ∧ (parseMethodDescriptor yX7_init.desc).map (fun d => d.parameters.length) = some 2 := ⟨gw_3_21, gw_1_22, gw_3_22, rfl, ⟨by decide, by decide⟩, by decide +kernel⟩
theorem c_newVillage {l : Launch} {D : va_G} {ca : Nat → Nat} {h : fH} {a : Nat} {p1 : Int32} {p2 : Int32} (he : h a = some (.inr (8, [.int 0, .int 0, .int 0, .int 0, .int 0]))) : FM l D ca yX7_init (.code yX7_init cX7_init 3 none) { frames := 1, cells := 0, slots := 0, locals := 20 } [.ref a, .int p1, .int p2] h (pVM (fun h2 => h2 = fU h a (.inr (8, [.int p1, .int p2, .int 0, .int 0, .int 0])))) noX := by
  refine FM.of [some (.ref a), some (.int p1), some (.int p2)] (by decide) (Nat.le_of_ble_eq_true rfl) rfl ?_
  rintro K X rfl rfl rfl
  refine J_aload_0 X dX7_init_0 ?_
  refine J_objInit X gw_3_23 rfl dX7_init_1 ?_
  refine J_aload_0 X dX7_init_4 ?_
  refine J_iload_1 X dX7_init_5 ?_
  refine J_putF X (C := RX7) (T := TX7) (N := 5) (ref := "NightValley$Village") he rfl 0 (by decide) (Nat.le_of_ble_eq_true rfl) in_X7 tyX7 tyX7_ok nmX7 rfl rfl rfl rfl rfl gw_3_24 (fun _ z => z) dX7_init_6 ?_
  refine J_aload_0 X dX7_init_9 ?_
  refine J_iload_2 X dX7_init_10 ?_
  refine J_put X (C := RX7) (T := TX7) (N := 5) (ref := "NightValley$Village") (fU_same _ _ _) rfl 1 (by decide) (Nat.le_of_ble_eq_true rfl) in_X7 tyX7 tyX7_ok nmX7 rfl rfl rfl gw_3_26 (fun _ z => z) dX7_init_11 ?_
  refine J_vret X rfl rfl ⟨rfl, ?_⟩ dX7_init_14
  repeat rw [fU_fU]
  rfl
theorem cw_X4_init : Cond.instanceMethod yX4_init ∈ GW ∧ Cond.initialized yX4_init.cls ∈ GW ∧ Cond.code yX4_init cX4_init 3 none ∈ GW ∧ yX4_init.name = "<init>" ∧ (yX4_init.cls ≠ "java/lang/invoke/MethodHandle" ∧ yX4_init.cls ≠ "java/lang/invoke/VarHandle") ∧ (parseMethodDescriptor yX4_init.desc).map (fun d => d.parameters.length) = some 2 := ⟨gw_1_209, gw_1_13, gw_1_210, rfl, ⟨by decide, by decide⟩, by decide +kernel⟩
theorem c_newPlace {l : Launch} {D : va_G} {ca : Nat → Nat} {h : fH} {a : Nat} {p1 : Int32} {z : Nat} (he : h a = some (.inr (5, [.int 0, .int 0, .null, .int 0]))) : FM l D ca yX4_init (.code yX4_init cX4_init 3 none) { frames := 1, cells := 0, slots := 0, locals := 20 } [.ref a, .int p1, .ref z] h (pVM (fun h2 => h2 = fU h a (.inr (5, [.int (p1 - p1 / (8 : Int32) * (8 : Int32)), .int (p1 / (8 : Int32)), .ref z, .int 0])))) noX := by
  refine FM.of [some (.ref a), some (.int p1), some (.ref z)] (by decide) (Nat.le_of_ble_eq_true rfl) rfl ?_
  rintro K X rfl rfl rfl
  refine J_aload_0 X dX4_init_0 ?_
  refine J_objInit X gw_1_211 rfl dX4_init_1 ?_
  refine J_aload_0 X dX4_init_4 ?_
  refine J_iload_1 X dX4_init_5 ?_
  refine J_bipush (v := 8) X dX4_init_6 (by decide) ?_
  refine J_irem X dX4_init_8 (by decide) ?_
  refine J_putF X (C := RX4) (T := TX4) (N := 4) (ref := "NightValley$Place") he rfl 0 (by decide) (Nat.le_of_ble_eq_true rfl) in_X4 tyX4 tyX4_ok nmX4 rfl rfl rfl rfl rfl gw_1_212 (fun _ z => z) dX4_init_9 ?_
  refine J_aload_0 X dX4_init_12 ?_
  refine J_iload_1 X dX4_init_13 ?_
  refine J_bipush (v := 8) X dX4_init_14 (by decide) ?_
  refine J_idiv X dX4_init_16 (by decide) ?_
  refine J_putF X (C := RX4) (T := TX4) (N := 4) (ref := "NightValley$Place") (fU_same _ _ _) rfl 1 (by decide) (Nat.le_of_ble_eq_true rfl) in_X4 tyX4 tyX4_ok nmX4 rfl rfl rfl rfl rfl gw_1_215 (fun _ z => z) dX4_init_17 ?_
  refine J_aload_0 X dX4_init_20 ?_
  refine J_aload_2 X dX4_init_21 ?_
  refine J_put X (C := RX4) (T := TX4) (N := 4) (ref := "NightValley$Place") (fU_same _ _ _) rfl 2 (by decide) (Nat.le_of_ble_eq_true rfl) in_X4 tyX4 tyX4_ok nmX4 rfl rfl rfl gw_1_218 (fun _ z => z) dX4_init_22 ?_
  refine J_vret X rfl rfl ⟨rfl, ?_⟩ dX4_init_25
  repeat rw [fU_fU]
  rfl
theorem cw_X2_init : Cond.instanceMethod yX2_init ∈ GW ∧ Cond.initialized yX2_init.cls ∈ GW ∧ Cond.code yX2_init cX2_init 6 none ∈ GW ∧ yX2_init.name = "<init>" ∧ (yX2_init.cls ≠ "java/lang/invoke/MethodHandle" ∧ yX2_init.cls ≠ "java/lang/invoke/VarHandle") ∧ (parseMethodDescriptor yX2_init.desc).map (fun d => d.parameters.length) = some 5 := ⟨gw_3_53, gw_1_23, gw_3_54, rfl, ⟨by decide, by decide⟩, by decide +kernel⟩
theorem c_newLamp {l : Launch} {D : va_G} {ca : Nat → Nat} {h : fH} {a : Nat} {v : Nat} {p : Nat} {p3 : Int32} {p4 : Int32} {p5 : Int32} (he : h a = some (.inr (3, [.null, .null, .int 0, .int 0, .int 0, .int 0, .int 0, .int 0, .int 0, .int 0, .int 0, .int 0]))) : FM l D ca yX2_init (.code yX2_init cX2_init 6 none) { frames := 1, cells := 0, slots := 0, locals := 20 } [.ref a, .ref v, .ref p, .int p3, .int p4, .int p5] h (pVM (fun h2 => h2 = fU h a (.inr (3, [.ref v, .ref p, .int p3, .int p4, .int p5, .int 0, .int (18 : Int32), .int (6 : Int32), .int 0, .int 0, .int 0, .int 0])))) noX := by
  refine FM.of [some (.ref a), some (.ref v), some (.ref p), some (.int p3), some (.int p4), some (.int p5)] (by decide) (Nat.le_of_ble_eq_true rfl) rfl ?_
  rintro K X rfl rfl rfl
  refine J_aload_0 X dX2_init_0 ?_
  refine J_objInit X gw_3_55 rfl dX2_init_1 ?_
  refine J_aload_0 X dX2_init_4 ?_
  refine J_bipush (v := 18) X dX2_init_5 (by decide) ?_
  refine J_put X (C := RX2) (T := TX2) (N := 12) (ref := "NightValley$Lamp") he rfl 6 (by decide) (Nat.le_of_ble_eq_true rfl) in_X2 tyX2 tyX2_ok nmX2 rfl rfl rfl gw_3_66 (fun _ z => z) dX2_init_7 ?_
  refine J_aload_0 X dX2_init_10 ?_
  refine J_bipush (v := 6) X dX2_init_11 (by decide) ?_
  refine J_put X (C := RX2) (T := TX2) (N := 12) (ref := "NightValley$Lamp") (fU_same _ _ _) rfl 7 (by decide) (Nat.le_of_ble_eq_true rfl) in_X2 tyX2 tyX2_ok nmX2 rfl rfl rfl gw_3_68 (fun _ z => z) dX2_init_13 ?_
  refine J_aload_0 X dX2_init_16 ?_
  refine J_aload_1 X dX2_init_17 ?_
  refine J_putF X (C := RX2) (T := TX2) (N := 12) (ref := "NightValley$Lamp") (fU_same _ _ _) rfl 0 (by decide) (Nat.le_of_ble_eq_true rfl) in_X2 tyX2 tyX2_ok nmX2 rfl rfl rfl rfl rfl gw_3_56 (fun _ z => z) dX2_init_18 ?_
  refine J_aload_0 X dX2_init_21 ?_
  refine J_aload_2 X dX2_init_22 ?_
  refine J_putF X (C := RX2) (T := TX2) (N := 12) (ref := "NightValley$Lamp") (fU_same _ _ _) rfl 1 (by decide) (Nat.le_of_ble_eq_true rfl) in_X2 tyX2 tyX2_ok nmX2 rfl rfl rfl rfl rfl gw_3_58 (fun _ z => z) dX2_init_23 ?_
  refine J_aload_0 X dX2_init_26 ?_
  refine J_iload_3 X dX2_init_27 ?_
  refine J_putF X (C := RX2) (T := TX2) (N := 12) (ref := "NightValley$Lamp") (fU_same _ _ _) rfl 2 (by decide) (Nat.le_of_ble_eq_true rfl) in_X2 tyX2 tyX2_ok nmX2 rfl rfl rfl rfl rfl gw_3_60 (fun _ z => z) dX2_init_28 ?_
  refine J_aload_0 X dX2_init_31 ?_
  refine J_iload_4 X dX2_init_32 ?_
  refine J_putF X (C := RX2) (T := TX2) (N := 12) (ref := "NightValley$Lamp") (fU_same _ _ _) rfl 3 (by decide) (Nat.le_of_ble_eq_true rfl) in_X2 tyX2 tyX2_ok nmX2 rfl rfl rfl rfl rfl gw_3_61 (fun _ z => z) dX2_init_34 ?_
  refine J_aload_0 X dX2_init_37 ?_
  refine J_iload_5 X dX2_init_38 ?_
  refine J_put X (C := RX2) (T := TX2) (N := 12) (ref := "NightValley$Lamp") (fU_same _ _ _) rfl 4 (by decide) (Nat.le_of_ble_eq_true rfl) in_X2 tyX2 tyX2_ok nmX2 rfl rfl rfl gw_3_62 (fun _ z => z) dX2_init_40 ?_
  refine J_vret X rfl rfl ⟨rfl, ?_⟩ dX2_init_43
  repeat rw [fU_fU]
  rfl
end
