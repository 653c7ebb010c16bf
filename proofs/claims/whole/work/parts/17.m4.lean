noncomputable section
def M_ofReading_j5 (σ : St) (p1 : Int32) (p2 : Int32) (p3 : Int32) : Int32 := (if (M_isMeter σ p1) = (0 : Int32) then (0 : Int32) else (if (M_isIn p2 (0 : Int32) ((σ 31 (ix p1)) - (1 : Int32))) = (0 : Int32) then (0 : Int32) else (1 : Int32)))
theorem M_ofReading_j5_b (σ : St) (p1 : Int32) (p2 : Int32) (p3 : Int32) : M_ofReading_j5 σ p1 p2 p3 = 0 ∨ M_ofReading_j5 σ p1 p2 p3 = 1 := by
  unfold M_ofReading_j5
  (repeat' split) <;> first | exact Or.inl rfl | exact Or.inr rfl
def M_ofReading_j34 (σ : St) (p1 : Int32) (p2 : Int32) (p3 : Int32) : Int32 := (if (M_ofReading_j5 σ p1 p2 p3) = (0 : Int32) then (1 : Int32) else (if (M_isIn p3 (0 : Int32) (2 : Int32)) = (0 : Int32) then (2 : Int32) else (0 : Int32)))
def M_ofReading_j64 (σ : St) (p1 : Int32) (p2 : Int32) (p3 : Int32) : Int32 := (if p3 = (0 : Int32) then ((M_fails_s σ (M_ofReading_j34 σ p1 p2 p3)) 32 (ix (((10 : Int32) * p1) + p2))) else (if p3 = (1 : Int32) then ((M_fails_s σ (M_ofReading_j34 σ p1 p2 p3)) 33 (ix (((10 : Int32) * p1) + p2))) else (M_corrected (M_fails_s σ (M_ofReading_j34 σ p1 p2 p3)) p1 p2)))
def M_ofReading (σ : St) (p1 : Int32) (p2 : Int32) (p3 : Int32) : Int32 := (if (M_fails σ (M_ofReading_j34 σ p1 p2 p3)) = (0 : Int32) then (M_ofReading_j64 σ p1 p2 p3) else (0 : Int32))
def M_ofReading_s (σ : St) (p1 : Int32) (p2 : Int32) (p3 : Int32) : St := (if (M_fails σ (M_ofReading_j34 σ p1 p2 p3)) = (0 : Int32) then (M_fails_s σ (M_ofReading_j34 σ p1 p2 p3)) else (M_fails_s σ (M_ofReading_j34 σ p1 p2 p3)))
theorem ok_ofReading0 {σ : St} {p1 p2 p3 : Int32} (hI : Inv σ) (c : M_fails σ (M_ofReading_j34 σ p1 p2 p3) = 0) : vp_in p1 8 ∧ vp_in p2 10 := by
  refine Classical.byContradiction (fun q => ?_)
  refine fz c (Or.inl ?_)
  unfold M_ofReading_j34
  rw [if_pos ?_]
  unfold M_ofReading_j5
  by_cases z : M_isMeter σ p1 = 0
  · rw [if_pos z]
  · rw [if_neg z]
    by_cases z2 : M_isIn p2 0 (σ 31 (ix p1) - 1) = 0
    · rw [if_pos z2]
    · exact absurd ⟨isMeter_in hI z, (isIn_cnt (N := 10) (hI 31 (ix p1)) (by decide) z2).1⟩ q
theorem cw_X11_ofReading : Cond.instanceMethod yX11_ofReading ∈ GW ∧ Cond.selects RX11 yX11_ofReading yX11_ofReading ∈ GW ∧ Cond.initialized RX11 ∈ GW ∧ Cond.code yX11_ofReading cX11_ofReading 5 (some .int) ∈ GW ∧ yX11_ofReading.cls = RX11 ∧ (yX11_ofReading.cls ≠ "java/lang/invoke/MethodHandle" ∧ yX11_ofReading.cls ≠ "java/lang/invoke/VarHandle") ∧ (parseMethodDescriptor yX11_ofReading.desc).map (fun d => d.parameters.length) = some 3 := ⟨gw_6_87, gw_6_88, gw_1_14, gw_6_89, rfl, ⟨by decide, by decide⟩, by decide +kernel⟩
set_option maxRecDepth 100000 in
set_option maxHeartbeats 4000000 in
theorem c_M_ofReading {l : Launch} {D : va_G} {ca : Nat → Nat} {h : fH} {m : Nat} {ρ : Nat → Nat} {σ : St} (hR : RM ca h m ρ σ) (hI : Inv σ) (p1 : Int32) (p2 : Int32) (p3 : Int32) : FM l D ca yX11_ofReading (.code yX11_ofReading cX11_ofReading 5 (some .int)) { frames := 4, cells := 0, slots := 0, locals := 85 } [.ref m, .int p1, .int p2, .int p3] h (pIM (M_ofReading σ p1 p2 p3) (fun h2 => RM ca h2 m ρ (M_ofReading_s σ p1 p2 p3))) noX := by
  refine FM.of [some (.ref m), some (.int p1), some (.int p2), some (.int p3), none] (by decide) (Nat.le_of_ble_eq_true rfl) rfl ?_
  rintro K X rfl rfl rfl
  have q_v : (M_ofReading σ p1 p2 p3) = (if (M_fails σ (M_ofReading_j34 σ p1 p2 p3)) = (0 : Int32) then (M_ofReading_j64 σ p1 p2 p3) else (0 : Int32)) := rfl
  have q_s : (M_ofReading_s σ p1 p2 p3) = (if (M_fails σ (M_ofReading_j34 σ p1 p2 p3)) = (0 : Int32) then (M_fails_s σ (M_ofReading_j34 σ p1 p2 p3)) else (M_fails_s σ (M_ofReading_j34 σ p1 p2 p3))) := rfl
  refine J_aload_0 X dX11_ofReading_0 ?_
  refine J_iload_1 X dX11_ofReading_1 ?_
  refine J_callV X (c_M_isMeter hR p1) (And.intro gw_5_239 cw_X11_isMeter) hR.1 rfl rfl rfl (Nat.le_of_ble_eq_true rfl) dX11_ofReading_2 rfl (J.pi ?_) JE.no
  have K5_29 : ∀ (v5_0 : Int32), v5_0 = (M_ofReading_j5 σ p1 p2 p3) → J K h [some (.ref m), some (.int p1), some (.int p2), some (.int p3), none] [.int v5_0] 29 0 0 := by
    intro v5_0 ev5_0
    try rw [ev5_0]
    clear ev5_0
    refine J_istore_4 X dX11_ofReading_29 rfl (by decide) ?_
    refine J_aload_0 X dX11_ofReading_31 ?_
    refine J_iload_4 X dX11_ofReading_32 ?_
    have K34_55 : ∀ (v34_0 : Int32), v34_0 = (M_ofReading_j34 σ p1 p2 p3) → J K h [some (.ref m), some (.int p1), some (.int p2), some (.int p3), some (.int (M_ofReading_j5 σ p1 p2 p3))] [.int v34_0, .ref m] 55 0 0 := by
      intro v34_0 ev34_0
      try rw [ev34_0]
      clear ev34_0
      refine J_callV X (c_M_fails hR (M_ofReading_j34 σ p1 p2 p3)) (And.intro gw_5_151 cw_X11_fails) hR.1 rfl rfl rfl (Nat.le_of_ble_eq_true rfl) dX11_ofReading_55 rfl (J.pim (fun h1 hR1 => ?_)) JE.no
      have hI1 : Inv (M_fails_s σ (M_ofReading_j34 σ p1 p2 p3)) := (Inv_fails hI)
      refine J_if_eq (tgt := 63) X dX11_ofReading_58 (by decide) (fun c58 => ?_) (fun c58 => ?_)
      · skip
        rw [if_pos c58] at q_v
        rw [if_pos c58] at q_s
        obtain ⟨hq, hp2⟩ := ok_ofReading0 hI c58
        refine J_iload_3 X dX11_ofReading_63 ?_
        have K64_106 : ∀ (v64_0 : Int32), v64_0 = (M_ofReading_j64 σ p1 p2 p3) → J K h1 [some (.ref m), some (.int p1), some (.int p2), some (.int p3), some (.int (M_ofReading_j5 σ p1 p2 p3))] [.int v64_0] 106 0 0 := by
          intro v64_0 ev64_0
          try rw [ev64_0]
          clear ev64_0
          exact J_iret X rfl rfl ⟨by rw [q_v], by rw [q_s]; exact hR1⟩ dX11_ofReading_106
        have j64_0 : M_ofReading_j64 σ p1 p2 p3 = (if p3 = (0 : Int32) then ((M_fails_s σ (M_ofReading_j34 σ p1 p2 p3)) 32 (ix (((10 : Int32) * p1) + p2))) else (if p3 = (1 : Int32) then ((M_fails_s σ (M_ofReading_j34 σ p1 p2 p3)) 33 (ix (((10 : Int32) * p1) + p2))) else (M_corrected (M_fails_s σ (M_ofReading_j34 σ p1 p2 p3)) p1 p2))) := rfl
        refine J_if_ne (tgt := 81) X dX11_ofReading_64 (by decide) (fun c64 => ?_) (fun c64 => ?_)
        · skip
          rw [if_neg c64] at j64_0
          refine J_iload_3 X dX11_ofReading_81 ?_
          refine J_iconst (v := 1) X dX11_ofReading_82 rfl ?_
          refine J_icmp_ne (tgt := 100) X dX11_ofReading_83 (by decide) (fun c83 => ?_) (fun c83 => ?_)
          · skip
            rw [if_neg c83] at j64_0
            refine J_aload_0 X dX11_ofReading_100 ?_
            refine J_iload_1 X dX11_ofReading_101 ?_
            refine J_iload_2 X dX11_ofReading_102 ?_
            refine J_callV X (c_M_corrected hR1 p1 p2 hq hp2) (And.intro gw_6_38 cw_X11_corrected) hR1.1 rfl rfl rfl (Nat.le_of_ble_eq_true rfl) dX11_ofReading_103 rfl (J.pi ?_) JE.no
            exact K64_106 _ j64_0.symm
          · skip
            rw [if_pos c83] at j64_0
            refine J_aload_0 X dX11_ofReading_86 ?_
            refine JM_get X hR1 33 (by decide) rfl rfl gw_5_43 dX11_ofReading_87 ?_
            refine J_bipush (v := (10 : Int32)) X dX11_ofReading_90 (by decide) ?_
            refine J_iload_1 X dX11_ofReading_92 ?_
            refine J_imul X dX11_ofReading_93 ?_
            refine J_iload_2 X dX11_ofReading_94 ?_
            refine J_iadd X dX11_ofReading_95 ?_
            refine JM_ald X hR1 33 rfl rfl (rowix hq hp2) dX11_ofReading_96 ?_
            refine J_goto (tgt := 106) X dX11_ofReading_97 (by decide) ?_
            exact K64_106 _ j64_0.symm
        · skip
          rw [if_pos c64] at j64_0
          refine J_aload_0 X dX11_ofReading_67 ?_
          refine JM_get X hR1 32 (by decide) rfl rfl gw_5_42 dX11_ofReading_68 ?_
          refine J_bipush (v := (10 : Int32)) X dX11_ofReading_71 (by decide) ?_
          refine J_iload_1 X dX11_ofReading_73 ?_
          refine J_imul X dX11_ofReading_74 ?_
          refine J_iload_2 X dX11_ofReading_75 ?_
          refine J_iadd X dX11_ofReading_76 ?_
          refine JM_ald X hR1 32 rfl rfl (rowix hq hp2) dX11_ofReading_77 ?_
          refine J_goto (tgt := 106) X dX11_ofReading_78 (by decide) ?_
          exact K64_106 _ j64_0.symm
      · skip
        rw [if_neg c58] at q_v
        rw [if_neg c58] at q_s
        refine J_iconst (v := 0) X dX11_ofReading_61 rfl ?_
        exact J_iret X rfl rfl ⟨by rw [q_v], by rw [q_s]; exact hR1⟩ dX11_ofReading_62
    have j34_0 : M_ofReading_j34 σ p1 p2 p3 = (if (M_ofReading_j5 σ p1 p2 p3) = (0 : Int32) then (1 : Int32) else (if (M_isIn p3 (0 : Int32) (2 : Int32)) = (0 : Int32) then (2 : Int32) else (0 : Int32))) := rfl
    refine J_if_ne (tgt := 41) X dX11_ofReading_34 (by decide) (fun c34 => ?_) (fun c34 => ?_)
    · skip
      rw [if_neg c34] at j34_0
      refine J_iload_3 X dX11_ofReading_41 ?_
      refine J_iconst (v := 0) X dX11_ofReading_42 rfl ?_
      refine J_iconst (v := 2) X dX11_ofReading_43 rfl ?_
      refine J_callS X (c_M_isIn p3 (0 : Int32) (2 : Int32)) (And.intro gw_5_148 cw_X11_isIn) rfl rfl (Nat.le_of_ble_eq_true rfl) dX11_ofReading_44 rfl (J.pi ?_) JE.no
      refine J_if_eq (tgt := 54) X dX11_ofReading_47 (by decide) (fun c47 => ?_) (fun c47 => ?_)
      · skip
        rw [if_pos c47] at j34_0
        refine J_iconst (v := 2) X dX11_ofReading_54 rfl ?_
        exact K34_55 _ j34_0.symm
      · skip
        rw [if_neg c47] at j34_0
        refine J_iconst (v := 0) X dX11_ofReading_50 rfl ?_
        refine J_goto (tgt := 55) X dX11_ofReading_51 (by decide) ?_
        exact K34_55 _ j34_0.symm
    · skip
      rw [if_pos c34] at j34_0
      refine J_iconst (v := 1) X dX11_ofReading_37 rfl ?_
      refine J_goto (tgt := 55) X dX11_ofReading_38 (by decide) ?_
      exact K34_55 _ j34_0.symm
  have j5_0 : M_ofReading_j5 σ p1 p2 p3 = (if (M_isMeter σ p1) = (0 : Int32) then (0 : Int32) else (if (M_isIn p2 (0 : Int32) ((σ 31 (ix p1)) - (1 : Int32))) = (0 : Int32) then (0 : Int32) else (1 : Int32))) := rfl
  refine J_if_eq (tgt := 28) X dX11_ofReading_5 (by decide) (fun c5 => ?_) (fun c5 => ?_)
  · skip
    rw [if_pos c5] at j5_0
    refine J_iconst (v := 0) X dX11_ofReading_28 rfl ?_
    exact K5_29 _ j5_0.symm
  · skip
    rw [if_neg c5] at j5_0
    have hq := isMeter_in hI c5
    refine J_iload_2 X dX11_ofReading_8 ?_
    refine J_iconst (v := 0) X dX11_ofReading_9 rfl ?_
    refine J_aload_0 X dX11_ofReading_10 ?_
    refine JM_get X hR 31 (by decide) rfl rfl gw_5_41 dX11_ofReading_11 ?_
    refine J_iload_1 X dX11_ofReading_14 ?_
    refine JM_ald X hR 31 rfl rfl hq dX11_ofReading_15 ?_
    refine J_iconst (v := 1) X dX11_ofReading_16 rfl ?_
    refine J_isub X dX11_ofReading_17 ?_
    refine J_callS X (c_M_isIn p2 (0 : Int32) ((σ 31 (ix p1)) - (1 : Int32))) (And.intro gw_5_148 cw_X11_isIn) rfl rfl (Nat.le_of_ble_eq_true rfl) dX11_ofReading_18 rfl (J.pi ?_) JE.no
    refine J_if_eq (tgt := 28) X dX11_ofReading_21 (by decide) (fun c21 => ?_) (fun c21 => ?_)
    · skip
      rw [if_pos c21] at j5_0
      refine J_iconst (v := 0) X dX11_ofReading_28 rfl ?_
      exact K5_29 _ j5_0.symm
    · skip
      rw [if_neg c21] at j5_0
      refine J_iconst (v := 1) X dX11_ofReading_24 rfl ?_
      refine J_goto (tgt := 29) X dX11_ofReading_25 (by decide) ?_
      exact K5_29 _ j5_0.symm
def M_audit_j8 (σ : St) (p1 : Int32) : Int32 := (if (M_isIn p1 (0 : Int32) (100000 : Int32)) = (0 : Int32) then (1 : Int32) else (0 : Int32))
theorem M_audit_j8_b (σ : St) (p1 : Int32) : M_audit_j8 σ p1 = 0 ∨ M_audit_j8 σ p1 = 1 := by
  unfold M_audit_j8
  (repeat' split) <;> first | exact Or.inl rfl | exact Or.inr rfl
def M_audit_j37 (σ : St) (p1 : Int32) (k28 : Nat) (a28_2 : Int32) : Int32 := (if a28_2 = (0 : Int32) then (0 : Int32) else (if ((M_fails_s σ (M_audit_j8 σ p1)) 31 (ix (nI k28))) = (0 : Int32) then (1 : Int32) else (if p1 < (M_corrected (M_fails_s σ (M_audit_j8 σ p1)) (nI k28) (((M_fails_s σ (M_audit_j8 σ p1)) 31 (ix (nI k28))) - (1 : Int32))) then (0 : Int32) else (1 : Int32))))
theorem M_audit_j37_b (σ : St) (p1 : Int32) (k28 : Nat) (a28_2 : Int32) : M_audit_j37 σ p1 k28 a28_2 = 0 ∨ M_audit_j37 σ p1 k28 a28_2 = 1 := by
  unfold M_audit_j37
  (repeat' split) <;> first | exact Or.inl rfl | exact Or.inr rfl
def M_audit_L28 (σ : St) (p1 : Int32) (K28 : Int32 → Int32) : Nat → Nat → Int32 → Int32
  | 0, _, a28_2 => K28 a28_2
  | n28 + 1, k28, a28_2 => (M_audit_L28 σ p1 K28 n28 (k28 + 1) (M_audit_j37 σ p1 k28 a28_2))
def M_audit_L28_s (σ : St) (p1 : Int32) (K28s : Int32 → St) : Nat → Nat → Int32 → St
  | 0, _, a28_2 => K28s a28_2
  | n28 + 1, k28, a28_2 => (M_audit_L28_s σ p1 K28s n28 (k28 + 1) (M_audit_j37 σ p1 k28 a28_2))
def M_audit_j80 (σ : St) (p1 : Int32) (a28_2 : Int32) : Int32 := (if a28_2 = (0 : Int32) then (((M_fails_s σ (M_audit_j8 σ p1)) 35 0) + (1 : Int32)) else (0 : Int32))
def M_audit_j98 (σ : St) (p1 : Int32) (a28_2 : Int32) : Int32 := (if a28_2 = (0 : Int32) then (0 : Int32) else (((sC (M_fails_s σ (M_audit_j8 σ p1)) 35 (M_audit_j80 σ p1 a28_2)) 36 0) + (1 : Int32)))
def M_audit_j120 (σ : St) (p1 : Int32) (a28_2 : Int32) : Int32 := (if (2 : Int32) ≤ ((sC (sC (M_fails_s σ (M_audit_j8 σ p1)) 35 (M_audit_j80 σ p1 a28_2)) 36 (M_audit_j98 σ p1 a28_2)) 35 0) then (1 : Int32) else (if ((sC (sC (M_fails_s σ (M_audit_j8 σ p1)) 35 (M_audit_j80 σ p1 a28_2)) 36 (M_audit_j98 σ p1 a28_2)) 34 0) = (0 : Int32) then (0 : Int32) else (if (3 : Int32) ≤ ((sC (sC (M_fails_s σ (M_audit_j8 σ p1)) 35 (M_audit_j80 σ p1 a28_2)) 36 (M_audit_j98 σ p1 a28_2)) 36 0) then (0 : Int32) else (1 : Int32))))
theorem M_audit_j120_b (σ : St) (p1 : Int32) (a28_2 : Int32) : M_audit_j120 σ p1 a28_2 = 0 ∨ M_audit_j120 σ p1 a28_2 = 1 := by
  unfold M_audit_j120
  (repeat' split) <;> first | exact Or.inl rfl | exact Or.inr rfl
def M_audit (σ : St) (p1 : Int32) : Int32 := (if (M_fails σ (M_audit_j8 σ p1)) = (0 : Int32) then (M_audit_L28 σ p1 (fun a28_2 => a28_2) (ix (σ 26 0)) 0 (1 : Int32)) else (0 : Int32))
def M_audit_s (σ : St) (p1 : Int32) : St := (if (M_fails σ (M_audit_j8 σ p1)) = (0 : Int32) then (M_audit_L28_s σ p1 (fun a28_2 => (sC (sC (sC (M_fails_s σ (M_audit_j8 σ p1)) 35 (M_audit_j80 σ p1 a28_2)) 36 (M_audit_j98 σ p1 a28_2)) 34 (M_audit_j120 σ p1 a28_2))) (ix (σ 26 0)) 0 (1 : Int32)) else (M_fails_s σ (M_audit_j8 σ p1)))
theorem cw_X11_audit : Cond.instanceMethod yX11_audit ∈ GW ∧ Cond.selects RX11 yX11_audit yX11_audit ∈ GW ∧ Cond.initialized RX11 ∈ GW ∧ Cond.code yX11_audit cX11_audit 4 (some .boolean) ∈ GW ∧ yX11_audit.cls = RX11 ∧ (yX11_audit.cls ≠ "java/lang/invoke/MethodHandle" ∧ yX11_audit.cls ≠ "java/lang/invoke/VarHandle") ∧ (parseMethodDescriptor yX11_audit.desc).map (fun d => d.parameters.length) = some 1 := ⟨gw_6_34, gw_6_35, gw_1_14, gw_6_36, rfl, ⟨by decide, by decide⟩, by decide +kernel⟩
set_option maxRecDepth 100000 in
set_option maxHeartbeats 4000000 in
theorem c_M_audit {l : Launch} {D : va_G} {ca : Nat → Nat} {h : fH} {m : Nat} {ρ : Nat → Nat} {σ : St} (hR : RM ca h m ρ σ) (hI : Inv σ) (p1 : Int32) : FM l D ca yX11_audit (.code yX11_audit cX11_audit 4 (some .boolean)) { frames := 4, cells := 0, slots := 0, locals := 85 } [.ref m, .int p1] h (pIM (M_audit σ p1) (fun h2 => RM ca h2 m ρ (M_audit_s σ p1))) noX := by
  refine FM.of [some (.ref m), some (.int p1), none, none] (by decide) (Nat.le_of_ble_eq_true rfl) rfl ?_
  rintro K X rfl rfl rfl
  have q_v : (M_audit σ p1) = (if (M_fails σ (M_audit_j8 σ p1)) = (0 : Int32) then (M_audit_L28 σ p1 (fun a28_2 => a28_2) (ix (σ 26 0)) 0 (1 : Int32)) else (0 : Int32)) := rfl
  have q_s : (M_audit_s σ p1) = (if (M_fails σ (M_audit_j8 σ p1)) = (0 : Int32) then (M_audit_L28_s σ p1 (fun a28_2 => (sC (sC (sC (M_fails_s σ (M_audit_j8 σ p1)) 35 (M_audit_j80 σ p1 a28_2)) 36 (M_audit_j98 σ p1 a28_2)) 34 (M_audit_j120 σ p1 a28_2))) (ix (σ 26 0)) 0 (1 : Int32)) else (M_fails_s σ (M_audit_j8 σ p1))) := rfl
  refine J_aload_0 X dX11_audit_0 ?_
  refine J_iload_1 X dX11_audit_1 ?_
  refine J_iconst (v := 0) X dX11_audit_2 rfl ?_
  refine J_ldc (v := (100000 : Int32)) X dX11_audit_3 gw_6_37 ?_
  refine J_callS X (c_M_isIn p1 (0 : Int32) (100000 : Int32)) (And.intro gw_5_148 cw_X11_isIn) rfl rfl (Nat.le_of_ble_eq_true rfl) dX11_audit_5 rfl (J.pi ?_) JE.no
  have K8_16 : ∀ (v8_0 : Int32), v8_0 = (M_audit_j8 σ p1) → J K h [some (.ref m), some (.int p1), none, none] [.int v8_0, .ref m] 16 0 0 := by
    intro v8_0 ev8_0
    try rw [ev8_0]
    clear ev8_0
    refine J_callV X (c_M_fails hR (M_audit_j8 σ p1)) (And.intro gw_5_151 cw_X11_fails) hR.1 rfl rfl rfl (Nat.le_of_ble_eq_true rfl) dX11_audit_16 rfl (J.pim (fun h1 hR1 => ?_)) JE.no
    have hI1 : Inv (M_fails_s σ (M_audit_j8 σ p1)) := (Inv_fails hI)
    refine J_if_eq (tgt := 24) X dX11_audit_19 (by decide) (fun c19 => ?_) (fun c19 => ?_)
    · skip
      rw [if_pos c19] at q_v
      rw [if_pos c19] at q_s
      refine J_iconst (v := 1) X dX11_audit_24 rfl ?_
      refine J_istore_2 X dX11_audit_25 rfl (by decide) ?_
      refine J_iconst (v := 0) X dX11_audit_26 rfl ?_
      refine J_istore_3 X dX11_audit_27 rfl (by decide) ?_
      have hle := (cnt (N := 8) (hI 26 0) (by decide)).2
      obtain ⟨K28, hK28⟩ : ∃ f : Int32 → Int32, f = (fun a28_2 => a28_2) := ⟨_, rfl⟩
      obtain ⟨K28s, hK28s⟩ : ∃ f : Int32 → St, f = (fun a28_2 => (sC (sC (sC (M_fails_s σ (M_audit_j8 σ p1)) 35 (M_audit_j80 σ p1 a28_2)) 36 (M_audit_j98 σ p1 a28_2)) 34 (M_audit_j120 σ p1 a28_2))) := ⟨_, rfl⟩
      have X28 : ∀ (a28_2 : Int32) (_ : True), a28_2 = 0 ∨ a28_2 = 1 → (M_audit σ p1) = a28_2 → (M_audit_s σ p1) = (sC (sC (sC (M_fails_s σ (M_audit_j8 σ p1)) 35 (M_audit_j80 σ p1 a28_2)) 36 (M_audit_j98 σ p1 a28_2)) 34 (M_audit_j120 σ p1 a28_2)) → J K h1 [some (.ref m), some (.int p1), some (.int a28_2), none] [] 78 0 0 := by
        intro a28_2  _ hb28 q_v q_s
        refine J_aload_0 X dX11_audit_78 ?_
        refine J_iload_2 X dX11_audit_79 ?_
        have K80_93 : ∀ (v80_0 : Int32), v80_0 = (M_audit_j80 σ p1 a28_2) → J K h1 [some (.ref m), some (.int p1), some (.int a28_2), none] [.int v80_0, .ref m] 93 0 0 := by
          intro v80_0 ev80_0
          try rw [ev80_0]
          clear ev80_0
          refine JM_put X hR1 35 (by decide) rfl rfl rfl rfl rfl rfl gw_5_45 dX11_audit_93 (fun h2 hR2 => ?_)
          refine J_aload_0 X dX11_audit_96 ?_
          refine J_iload_2 X dX11_audit_97 ?_
          have K98_111 : ∀ (v98_0 : Int32), v98_0 = (M_audit_j98 σ p1 a28_2) → J K h2 [some (.ref m), some (.int p1), some (.int a28_2), none] [.int v98_0, .ref m] 111 0 0 := by
            intro v98_0 ev98_0
            try rw [ev98_0]
            clear ev98_0
            refine JM_put X hR2 36 (by decide) rfl rfl rfl rfl rfl rfl gw_5_46 dX11_audit_111 (fun h3 hR3 => ?_)
            refine J_aload_0 X dX11_audit_114 ?_
            refine J_aload_0 X dX11_audit_115 ?_
            refine JM_get X hR3 35 (by decide) rfl rfl gw_5_45 dX11_audit_116 ?_
            refine J_iconst (v := 2) X dX11_audit_119 rfl ?_
            have K120_143 : ∀ (v120_0 : Int32), v120_0 = (M_audit_j120 σ p1 a28_2) → J K h3 [some (.ref m), some (.int p1), some (.int a28_2), none] [.int v120_0, .ref m] 143 0 0 := by
              intro v120_0 ev120_0
              try rw [ev120_0]
              clear ev120_0
              refine JM_put X hR3 34 (by decide) rfl rfl rfl rfl (nar01 (M_audit_j120_b ..)) (fit01 (M_audit_j120_b ..)) gw_5_44 dX11_audit_143 (fun h4 hR4 => ?_)
              refine J_iload_2 X dX11_audit_146 ?_
              exact J_zret X rfl hb28 rfl ⟨by rw [q_v], by rw [q_s]; exact hR4⟩ dX11_audit_147
            have j120_0 : M_audit_j120 σ p1 a28_2 = (if (2 : Int32) ≤ ((sC (sC (M_fails_s σ (M_audit_j8 σ p1)) 35 (M_audit_j80 σ p1 a28_2)) 36 (M_audit_j98 σ p1 a28_2)) 35 0) then (1 : Int32) else (if ((sC (sC (M_fails_s σ (M_audit_j8 σ p1)) 35 (M_audit_j80 σ p1 a28_2)) 36 (M_audit_j98 σ p1 a28_2)) 34 0) = (0 : Int32) then (0 : Int32) else (if (3 : Int32) ≤ ((sC (sC (M_fails_s σ (M_audit_j8 σ p1)) 35 (M_audit_j80 σ p1 a28_2)) 36 (M_audit_j98 σ p1 a28_2)) 36 0) then (0 : Int32) else (1 : Int32)))) := rfl
            refine J_icmp_ge (tgt := 138) X dX11_audit_120 (by decide) (fun c120 => ?_) (fun c120 => ?_)
            · skip
              rw [if_pos c120] at j120_0
              refine J_iconst (v := 1) X dX11_audit_138 rfl ?_
              refine J_goto (tgt := 143) X dX11_audit_139 (by decide) ?_
              exact K120_143 _ j120_0.symm
            · skip
              rw [if_neg c120] at j120_0
              refine J_aload_0 X dX11_audit_123 ?_
              refine JM_get X hR3 34 (by decide) rfl rfl gw_5_44 dX11_audit_124 ?_
              refine J_if_eq (tgt := 142) X dX11_audit_127 (by decide) (fun c127 => ?_) (fun c127 => ?_)
              · skip
                rw [if_pos c127] at j120_0
                refine J_iconst (v := 0) X dX11_audit_142 rfl ?_
                exact K120_143 _ j120_0.symm
              · skip
                rw [if_neg c127] at j120_0
                refine J_aload_0 X dX11_audit_130 ?_
                refine JM_get X hR3 36 (by decide) rfl rfl gw_5_46 dX11_audit_131 ?_
                refine J_iconst (v := 3) X dX11_audit_134 rfl ?_
                refine J_icmp_ge (tgt := 142) X dX11_audit_135 (by decide) (fun c135 => ?_) (fun c135 => ?_)
                · skip
                  rw [if_pos c135] at j120_0
                  refine J_iconst (v := 0) X dX11_audit_142 rfl ?_
                  exact K120_143 _ j120_0.symm
                · skip
                  rw [if_neg c135] at j120_0
                  refine J_iconst (v := 1) X dX11_audit_138 rfl ?_
                  refine J_goto (tgt := 143) X dX11_audit_139 (by decide) ?_
                  exact K120_143 _ j120_0.symm
          have j98_0 : M_audit_j98 σ p1 a28_2 = (if a28_2 = (0 : Int32) then (0 : Int32) else (((sC (M_fails_s σ (M_audit_j8 σ p1)) 35 (M_audit_j80 σ p1 a28_2)) 36 0) + (1 : Int32))) := rfl
          refine J_if_eq (tgt := 110) X dX11_audit_98 (by decide) (fun c98 => ?_) (fun c98 => ?_)
          · skip
            rw [if_pos c98] at j98_0
            refine J_iconst (v := 0) X dX11_audit_110 rfl ?_
            exact K98_111 _ j98_0.symm
          · skip
            rw [if_neg c98] at j98_0
            refine J_aload_0 X dX11_audit_101 ?_
            refine JM_get X hR2 36 (by decide) rfl rfl gw_5_46 dX11_audit_102 ?_
            refine J_iconst (v := 1) X dX11_audit_105 rfl ?_
            refine J_iadd X dX11_audit_106 ?_
            refine J_goto (tgt := 111) X dX11_audit_107 (by decide) ?_
            exact K98_111 _ j98_0.symm
        have j80_0 : M_audit_j80 σ p1 a28_2 = (if a28_2 = (0 : Int32) then (((M_fails_s σ (M_audit_j8 σ p1)) 35 0) + (1 : Int32)) else (0 : Int32)) := rfl
        refine J_if_eq (tgt := 87) X dX11_audit_80 (by decide) (fun c80 => ?_) (fun c80 => ?_)
        · skip
          rw [if_pos c80] at j80_0
          refine J_aload_0 X dX11_audit_87 ?_
          refine JM_get X hR1 35 (by decide) rfl rfl gw_5_45 dX11_audit_88 ?_
          refine J_iconst (v := 1) X dX11_audit_91 rfl ?_
          refine J_iadd X dX11_audit_92 ?_
          exact K80_93 _ j80_0.symm
        · skip
          rw [if_neg c80] at j80_0
          refine J_iconst (v := 0) X dX11_audit_83 rfl ?_
          refine J_goto (tgt := 93) X dX11_audit_84 (by decide) ?_
          exact K80_93 _ j80_0.symm
      have L28 : ∀ (n28 k28 : Nat) (a28_2 : Int32), k28 + n28 = ix (σ 26 0) → a28_2 = 0 ∨ a28_2 = 1 → (M_audit σ p1) = (M_audit_L28 σ p1 K28 n28 k28 a28_2) → (M_audit_s σ p1) = (M_audit_L28_s σ p1 K28s n28 k28 a28_2) → J K h1 [some (.ref m), some (.int p1), some (.int a28_2), some (.int (nI k28))] [] 28 0 0 := by
        intro n28
        induction n28 with
        | zero =>
          intro k28 a28_2  hk28 hb28 q_v q_s
          rw [M_audit_L28] at q_v
          rw [M_audit_L28_s] at q_s
          refine J_iload_3 X dX11_audit_28 ?_
          refine J_aload_0 X dX11_audit_29 ?_
          refine JM_get X hR1 26 (by decide) rfl rfl gw_5_36 dX11_audit_30 ?_
          refine J_icmp_ge (tgt := 78) X dX11_audit_33 (by decide) (fun _ => ?_) (fun c => absurd (lp_exit (cnt (N := 8) (hI 26 0) (by decide)).1 (by omega) hk28) c)
          rw [hK28] at q_v
          rw [hK28s] at q_s
          refine J.subL (lv' := [some (.ref m), some (.int p1), some (.int a28_2), none]) (And.intro rfl (And.intro rfl (And.intro rfl trivial))) ?_
          exact X28 a28_2  trivial hb28 q_v q_s
        | succ n28 ih28 =>
          intro k28 a28_2  hk28 hb28 q_v q_s
          rw [M_audit_L28] at q_v
          rw [M_audit_L28_s] at q_s
          have hlt28 : k28 < ix (σ 26 0) := by omega
          refine J_iload_3 X dX11_audit_28 ?_
          refine J_aload_0 X dX11_audit_29 ?_
          refine JM_get X hR1 26 (by decide) rfl rfl gw_5_36 dX11_audit_30 ?_
          refine J_icmp_ge (tgt := 78) X dX11_audit_33 (by decide) (fun c => absurd c (lp_stay (cnt (N := 8) (hI 26 0) (by decide)).1 (by omega) hk28)) (fun _ => ?_)
          refine J_iload_2 X dX11_audit_36 ?_
          have K37_71 : ∀ (v37_0 : Int32), v37_0 = (M_audit_j37 σ p1 k28 a28_2) → J K h1 [some (.ref m), some (.int p1), some (.int a28_2), some (.int (nI k28))] [.int v37_0] 71 0 0 := by
            intro v37_0 ev37_0
            try rw [ev37_0]
            clear ev37_0
            refine J_istore_2 X dX11_audit_71 rfl (by decide) ?_
            refine J_iinc_3 (v := (nI (k28 + 1))) X dX11_audit_72 (nI_1 _) rfl (by decide) ?_
            refine J_goto (tgt := 28) X dX11_audit_75 (by decide) ?_
            exact ih28 (k28 + 1) (M_audit_j37 σ p1 k28 a28_2)  (by omega) (M_audit_j37_b ..) q_v q_s
          have j37_0 : M_audit_j37 σ p1 k28 a28_2 = (if a28_2 = (0 : Int32) then (0 : Int32) else (if ((M_fails_s σ (M_audit_j8 σ p1)) 31 (ix (nI k28))) = (0 : Int32) then (1 : Int32) else (if p1 < (M_corrected (M_fails_s σ (M_audit_j8 σ p1)) (nI k28) (((M_fails_s σ (M_audit_j8 σ p1)) 31 (ix (nI k28))) - (1 : Int32))) then (0 : Int32) else (1 : Int32)))) := rfl
          refine J_if_eq (tgt := 70) X dX11_audit_37 (by decide) (fun c37 => ?_) (fun c37 => ?_)
          · skip
            rw [if_pos c37] at j37_0
            refine J_iconst (v := 0) X dX11_audit_70 rfl ?_
            exact K37_71 _ j37_0.symm
          · skip
            rw [if_neg c37] at j37_0
            refine J_aload_0 X dX11_audit_40 ?_
            refine JM_get X hR1 31 (by decide) rfl rfl gw_5_41 dX11_audit_41 ?_
            refine J_iload_3 X dX11_audit_44 ?_
            refine JM_ald X hR1 31 rfl rfl (vp_in_nI (N := 8) (by omega) (by decide)) dX11_audit_45 ?_
            refine J_if_eq (tgt := 66) X dX11_audit_46 (by decide) (fun c46 => ?_) (fun c46 => ?_)
            · skip
              rw [if_pos c46] at j37_0
              refine J_iconst (v := 1) X dX11_audit_66 rfl ?_
              refine J_goto (tgt := 71) X dX11_audit_67 (by decide) ?_
              exact K37_71 _ j37_0.symm
            · skip
              rw [if_neg c46] at j37_0
              refine J_aload_0 X dX11_audit_49 ?_
              refine J_iload_3 X dX11_audit_50 ?_
              refine J_aload_0 X dX11_audit_51 ?_
              refine JM_get X hR1 31 (by decide) rfl rfl gw_5_41 dX11_audit_52 ?_
              refine J_iload_3 X dX11_audit_55 ?_
              refine JM_ald X hR1 31 rfl rfl (vp_in_nI (N := 8) (by omega) (by decide)) dX11_audit_56 ?_
              refine J_iconst (v := 1) X dX11_audit_57 rfl ?_
              refine J_isub X dX11_audit_58 ?_
              refine J_callV X (c_M_corrected hR1 (nI k28) (((M_fails_s σ (M_audit_j8 σ p1)) 31 (ix (nI k28))) - (1 : Int32)) (vp_in_nI (N := 8) (by omega) (by decide)) (rdm1 (hI 31 (ix (nI k28))) c46)) (And.intro gw_6_38 cw_X11_corrected) hR1.1 rfl rfl rfl (Nat.le_of_ble_eq_true rfl) dX11_audit_59 rfl (J.pi ?_) JE.no
              refine J_iload_1 X dX11_audit_62 ?_
              refine J_icmp_gt (tgt := 70) X dX11_audit_63 (by decide) (fun c63 => ?_) (fun c63 => ?_)
              · skip
                rw [if_pos c63] at j37_0
                refine J_iconst (v := 0) X dX11_audit_70 rfl ?_
                exact K37_71 _ j37_0.symm
              · skip
                rw [if_neg c63] at j37_0
                refine J_iconst (v := 1) X dX11_audit_66 rfl ?_
                refine J_goto (tgt := 71) X dX11_audit_67 (by decide) ?_
                exact K37_71 _ j37_0.symm
      have q_v : (M_audit σ p1) = (M_audit_L28 σ p1 K28 (ix (σ 26 0)) 0 (1 : Int32)) := by rw [hK28]; exact q_v
      have q_s : (M_audit_s σ p1) = (M_audit_L28_s σ p1 K28s (ix (σ 26 0)) 0 (1 : Int32)) := by rw [hK28s]; exact q_s
      exact L28 (ix (σ 26 0)) 0 (1 : Int32)  (Nat.zero_add _) (Or.inr rfl) q_v q_s
    · skip
      rw [if_neg c19] at q_v
      rw [if_neg c19] at q_s
      refine J_iconst (v := 0) X dX11_audit_22 rfl ?_
      exact J_zret X rfl (by first | exact Or.inl rfl | exact Or.inr rfl) rfl ⟨by rw [q_v], by rw [q_s]; exact hR1⟩ dX11_audit_23
  have j8_0 : M_audit_j8 σ p1 = (if (M_isIn p1 (0 : Int32) (100000 : Int32)) = (0 : Int32) then (1 : Int32) else (0 : Int32)) := rfl
  refine J_if_eq (tgt := 15) X dX11_audit_8 (by decide) (fun c8 => ?_) (fun c8 => ?_)
  · skip
    rw [if_pos c8] at j8_0
    refine J_iconst (v := 1) X dX11_audit_15 rfl ?_
    exact K8_16 _ j8_0.symm
  · skip
    rw [if_neg c8] at j8_0
    refine J_iconst (v := 0) X dX11_audit_11 rfl ?_
    refine J_goto (tgt := 16) X dX11_audit_12 (by decide) ?_
    exact K8_16 _ j8_0.symm
def M_feast_j5 (σ : St) (p1 : Int32) (p2 : Int32) : Int32 := (if (M_isZone p1) = (0 : Int32) then (1 : Int32) else (if (M_isIn p2 (0 : Int32) (999 : Int32)) = (0 : Int32) then (2 : Int32) else (0 : Int32)))
def M_feast_j80 (σ : St) (p1 : Int32) (p2 : Int32) (k58 : Nat) (a58_3 : Int32) : Int32 := (if ((sS (M_fails_s σ (M_feast_j5 σ p1 p2)) 7 (ix (((1000 : Int32) * p1) + p2)) (1 : Int32)) 7 (ix (nI k58))) = (0 : Int32) then (0 : Int32) else (1 : Int32))
theorem M_feast_j80_b (σ : St) (p1 : Int32) (p2 : Int32) (k58 : Nat) (a58_3 : Int32) : M_feast_j80 σ p1 p2 k58 a58_3 = 0 ∨ M_feast_j80 σ p1 p2 k58 a58_3 = 1 := by
  unfold M_feast_j80
  (repeat' split) <;> first | exact Or.inl rfl | exact Or.inr rfl
def M_feast_L58 (σ : St) (p1 : Int32) (p2 : Int32) (K58 : Int32 → Int32) : Nat → Nat → Int32 → Int32
  | 0, _, a58_3 => K58 a58_3
  | n58 + 1, k58, a58_3 => (M_feast_L58 σ p1 p2 K58 n58 (k58 + 1) (a58_3 + (M_feast_j80 σ p1 p2 k58 a58_3)))
def M_feast_L58_s (σ : St) (p1 : Int32) (p2 : Int32) (K58s : Int32 → St) : Nat → Nat → Int32 → St
  | 0, _, a58_3 => K58s a58_3
  | n58 + 1, k58, a58_3 => (M_feast_L58_s σ p1 p2 K58s n58 (k58 + 1) (a58_3 + (M_feast_j80 σ p1 p2 k58 a58_3)))
def M_feast (σ : St) (p1 : Int32) (p2 : Int32) : Int32 := (if (M_fails σ (M_feast_j5 σ p1 p2)) = (0 : Int32) then (M_feast_L58 σ p1 p2 (fun a58_3 => a58_3) n1000 (1000 * ix p1) (0 : Int32)) else (0 : Int32))
def M_feast_s (σ : St) (p1 : Int32) (p2 : Int32) : St := (if (M_fails σ (M_feast_j5 σ p1 p2)) = (0 : Int32) then (M_feast_L58_s σ p1 p2 (fun a58_3 => (sS (M_fails_s σ (M_feast_j5 σ p1 p2)) 7 (ix (((1000 : Int32) * p1) + p2)) (1 : Int32))) n1000 (1000 * ix p1) (0 : Int32)) else (M_fails_s σ (M_feast_j5 σ p1 p2)))
theorem ok_feast0 {σ : St} {p1 p2 : Int32} (hI : Inv σ) (c : M_fails σ (M_feast_j5 σ p1 p2) = 0) : vp_in p1 4 := by
  refine isZone_in (fun q => ?_)
  exact fz c (by unfold M_feast_j5; simp [q])
theorem ok_feast1 {σ : St} {p1 p2 : Int32} (hI : Inv σ) (c : M_fails σ (M_feast_j5 σ p1 p2) = 0) : vp_in p2 1000 := by
  refine isIn_in (N := 999) (b := 999) (by decide) (fun q => ?_)
  exact fz c (by unfold M_feast_j5; simp [q]; by_cases z : M_isZone p1 = 0 <;> simp [z])
theorem cw_X11_feast : Cond.instanceMethod yX11_feast ∈ GW ∧ Cond.selects RX11 yX11_feast yX11_feast ∈ GW ∧ Cond.initialized RX11 ∈ GW ∧ Cond.code yX11_feast cX11_feast 5 (some .int) ∈ GW ∧ yX11_feast.cls = RX11 ∧ (yX11_feast.cls ≠ "java/lang/invoke/MethodHandle" ∧ yX11_feast.cls ≠ "java/lang/invoke/VarHandle") ∧ (parseMethodDescriptor yX11_feast.desc).map (fun d => d.parameters.length) = some 2 := ⟨gw_5_167, gw_5_168, gw_1_14, gw_5_169, rfl, ⟨by decide, by decide⟩, by decide +kernel⟩
set_option maxRecDepth 100000 in
set_option maxHeartbeats 4000000 in
theorem c_M_feast {l : Launch} {D : va_G} {ca : Nat → Nat} {h : fH} {m : Nat} {ρ : Nat → Nat} {σ : St} (hR : RM ca h m ρ σ) (hI : Inv σ) (p1 : Int32) (p2 : Int32) : FM l D ca yX11_feast (.code yX11_feast cX11_feast 5 (some .int)) { frames := 3, cells := 0, slots := 0, locals := 62 } [.ref m, .int p1, .int p2] h (pIM (M_feast σ p1 p2) (fun h2 => RM ca h2 m ρ (M_feast_s σ p1 p2))) noX := by
  refine FM.of [some (.ref m), some (.int p1), some (.int p2), none, none] (by decide) (Nat.le_of_ble_eq_true rfl) rfl ?_
  rintro K X rfl rfl rfl
  have q_v : (M_feast σ p1 p2) = (if (M_fails σ (M_feast_j5 σ p1 p2)) = (0 : Int32) then (M_feast_L58 σ p1 p2 (fun a58_3 => a58_3) n1000 (1000 * ix p1) (0 : Int32)) else (0 : Int32)) := rfl
  have q_s : (M_feast_s σ p1 p2) = (if (M_fails σ (M_feast_j5 σ p1 p2)) = (0 : Int32) then (M_feast_L58_s σ p1 p2 (fun a58_3 => (sS (M_fails_s σ (M_feast_j5 σ p1 p2)) 7 (ix (((1000 : Int32) * p1) + p2)) (1 : Int32))) n1000 (1000 * ix p1) (0 : Int32)) else (M_fails_s σ (M_feast_j5 σ p1 p2))) := rfl
  refine J_aload_0 X dX11_feast_0 ?_
  refine J_iload_1 X dX11_feast_1 ?_
  refine J_callS X (c_M_isZone p1) (And.intro gw_5_159 cw_X11_isZone) rfl rfl (Nat.le_of_ble_eq_true rfl) dX11_feast_2 rfl (J.pi ?_) JE.no
  have K5_28 : ∀ (v5_0 : Int32), v5_0 = (M_feast_j5 σ p1 p2) → J K h [some (.ref m), some (.int p1), some (.int p2), none, none] [.int v5_0, .ref m] 28 0 0 := by
    intro v5_0 ev5_0
    try rw [ev5_0]
    clear ev5_0
    refine J_callV X (c_M_fails hR (M_feast_j5 σ p1 p2)) (And.intro gw_5_151 cw_X11_fails) hR.1 rfl rfl rfl (Nat.le_of_ble_eq_true rfl) dX11_feast_28 rfl (J.pim (fun h1 hR1 => ?_)) JE.no
    have hI1 : Inv (M_fails_s σ (M_feast_j5 σ p1 p2)) := (Inv_fails hI)
    refine J_if_eq (tgt := 36) X dX11_feast_31 (by decide) (fun c31 => ?_) (fun c31 => ?_)
    · skip
      rw [if_pos c31] at q_v
      rw [if_pos c31] at q_s
      have hp := ok_feast0 hI c31
      have hp2 := ok_feast1 hI c31
      refine J_aload_0 X dX11_feast_36 ?_
      refine JM_get X hR1 7 (by decide) rfl rfl gw_5_17 dX11_feast_37 ?_
      refine J_sipush (v := (1000 : Int32)) X dX11_feast_40 (by decide) ?_
      refine J_iload_1 X dX11_feast_43 ?_
      refine J_imul X dX11_feast_44 ?_
      refine J_iload_2 X dX11_feast_45 ?_
      refine J_iadd X dX11_feast_46 ?_
      refine J_iconst (v := 1) X dX11_feast_47 rfl ?_
      refine JM_zst X hR1 7 rfl rfl (by first | exact Or.inl rfl | exact Or.inr rfl) (feastix hp hp2) dX11_feast_48 (fun h2 hR2 => ?_)
      refine J_iconst (v := 0) X dX11_feast_49 rfl ?_
      refine J_istore_3 X dX11_feast_50 rfl (by decide) ?_
      refine J_sipush (v := (1000 : Int32)) X dX11_feast_51 (by decide) ?_
      refine J_iload_1 X dX11_feast_54 ?_
      refine J_imul X dX11_feast_55 ?_
      refine J_istore_4 X dX11_feast_56 rfl (by decide) ?_
      have hz := vp_lt hp
      have h1000 := n1000_eq
      obtain ⟨K58, hK58⟩ : ∃ f : Int32 → Int32, f = (fun a58_3 => a58_3) := ⟨_, rfl⟩
      obtain ⟨K58s, hK58s⟩ : ∃ f : Int32 → St, f = (fun a58_3 => (sS (M_fails_s σ (M_feast_j5 σ p1 p2)) 7 (ix (((1000 : Int32) * p1) + p2)) (1 : Int32))) := ⟨_, rfl⟩
      have X58 : ∀ (a58_3 : Int32) (_ : True), (M_feast σ p1 p2) = a58_3 → (M_feast_s σ p1 p2) = (sS (M_fails_s σ (M_feast_j5 σ p1 p2)) 7 (ix (((1000 : Int32) * p1) + p2)) (1 : Int32)) → J K h2 [some (.ref m), some (.int p1), some (.int p2), some (.int a58_3), none] [] 96 0 0 := by
        intro a58_3  _  q_v q_s
        refine J_iload_3 X dX11_feast_96 ?_
        exact J_iret X rfl rfl ⟨by rw [q_v], by rw [q_s]; exact hR2⟩ dX11_feast_97
      have L58 : ∀ (n58 k58 : Nat) (a58_3 : Int32), k58 + n58 = (1000 * ix p1 + 1000) → (M_feast σ p1 p2) = (M_feast_L58 σ p1 p2 K58 n58 k58 a58_3) → (M_feast_s σ p1 p2) = (M_feast_L58_s σ p1 p2 K58s n58 k58 a58_3) → J K h2 [some (.ref m), some (.int p1), some (.int p2), some (.int a58_3), some (.int (nI k58))] [] 58 0 0 := by
        intro n58
        induction n58 with
        | zero =>
          intro k58 a58_3  hk58  q_v q_s
          rw [M_feast_L58] at q_v
          rw [M_feast_L58_s] at q_s
          refine J_iload_4 X dX11_feast_58 ?_
          refine J_sipush (v := (1000 : Int32)) X dX11_feast_60 (by decide) ?_
          refine J_iload_1 X dX11_feast_63 ?_
          refine J_imul X dX11_feast_64 ?_
          refine J_sipush (v := (1000 : Int32)) X dX11_feast_65 (by decide) ?_
          refine J_iadd X dX11_feast_68 ?_
          refine J_icmp_ge (tgt := 96) X dX11_feast_69 (by decide) (fun _ => ?_) (fun c => absurd (lp_exit (by rw [← nI_add, ← pk_mul, ← vp_nI' hp (by decide)]; rfl) (by omega) hk58) c)
          rw [hK58] at q_v
          rw [hK58s] at q_s
          refine J.subL (lv' := [some (.ref m), some (.int p1), some (.int p2), some (.int a58_3), none]) (And.intro rfl (And.intro rfl (And.intro rfl (And.intro rfl trivial)))) ?_
          exact X58 a58_3  trivial  q_v q_s
        | succ n58 ih58 =>
          intro k58 a58_3  hk58  q_v q_s
          rw [M_feast_L58] at q_v
          rw [M_feast_L58_s] at q_s
          have hlt58 : k58 < (1000 * ix p1 + 1000) := by omega
          refine J_iload_4 X dX11_feast_58 ?_
          refine J_sipush (v := (1000 : Int32)) X dX11_feast_60 (by decide) ?_
          refine J_iload_1 X dX11_feast_63 ?_
          refine J_imul X dX11_feast_64 ?_
          refine J_sipush (v := (1000 : Int32)) X dX11_feast_65 (by decide) ?_
          refine J_iadd X dX11_feast_68 ?_
          refine J_icmp_ge (tgt := 96) X dX11_feast_69 (by decide) (fun c => absurd c (lp_stay (by rw [← nI_add, ← pk_mul, ← vp_nI' hp (by decide)]; rfl) (by omega) hk58)) (fun _ => ?_)
          refine J_iload_3 X dX11_feast_72 ?_
          refine J_aload_0 X dX11_feast_73 ?_
          refine JM_get X hR2 7 (by decide) rfl rfl gw_5_17 dX11_feast_74 ?_
          refine J_iload_4 X dX11_feast_77 ?_
          refine JM_zld X hR2 7 rfl rfl (vp_in_nI (N := 4000) (by omega) (by decide)) dX11_feast_79 ?_
          have K80_88 : ∀ (v80_0 : Int32), v80_0 = (M_feast_j80 σ p1 p2 k58 a58_3) → J K h2 [some (.ref m), some (.int p1), some (.int p2), some (.int a58_3), some (.int (nI k58))] [.int v80_0, .int a58_3] 88 0 0 := by
            intro v80_0 ev80_0
            try rw [ev80_0]
            clear ev80_0
            refine J_iadd X dX11_feast_88 ?_
            refine J_istore_3 X dX11_feast_89 rfl (by decide) ?_
            refine J_iinc_4 (v := (nI (k58 + 1))) X dX11_feast_90 (nI_1 _) rfl (by decide) ?_
            refine J_goto (tgt := 58) X dX11_feast_93 (by decide) ?_
            exact ih58 (k58 + 1) (a58_3 + (M_feast_j80 σ p1 p2 k58 a58_3))  (by omega)  q_v q_s
          have j80_0 : M_feast_j80 σ p1 p2 k58 a58_3 = (if ((sS (M_fails_s σ (M_feast_j5 σ p1 p2)) 7 (ix (((1000 : Int32) * p1) + p2)) (1 : Int32)) 7 (ix (nI k58))) = (0 : Int32) then (0 : Int32) else (1 : Int32)) := rfl
          refine J_if_eq (tgt := 87) X dX11_feast_80 (by decide) (fun c80 => ?_) (fun c80 => ?_)
          · skip
            rw [if_pos c80] at j80_0
            refine J_iconst (v := 0) X dX11_feast_87 rfl ?_
            exact K80_88 _ j80_0.symm
          · skip
            rw [if_neg c80] at j80_0
            refine J_iconst (v := 1) X dX11_feast_83 rfl ?_
            refine J_goto (tgt := 88) X dX11_feast_84 (by decide) ?_
            exact K80_88 _ j80_0.symm
      have q_v : (M_feast σ p1 p2) = (M_feast_L58 σ p1 p2 K58 n1000 (1000 * ix p1) (0 : Int32)) := by rw [hK58]; exact q_v
      have q_s : (M_feast_s σ p1 p2) = (M_feast_L58_s σ p1 p2 K58s n1000 (1000 * ix p1) (0 : Int32)) := by rw [hK58s]; exact q_s
      have ec58 : ((1000 : Int32) * p1) = nI (1000 * ix p1) := (by rw [← pk_mul, ← vp_nI' hp (by decide)]; rfl)
      have z58 := L58 n1000 (1000 * ix p1) (0 : Int32)  (by omega)  q_v q_s
      rw [← ec58] at z58
      exact z58
    · skip
      rw [if_neg c31] at q_v
      rw [if_neg c31] at q_s
      refine J_iconst (v := 0) X dX11_feast_34 rfl ?_
      exact J_iret X rfl rfl ⟨by rw [q_v], by rw [q_s]; exact hR1⟩ dX11_feast_35
  have j5_0 : M_feast_j5 σ p1 p2 = (if (M_isZone p1) = (0 : Int32) then (1 : Int32) else (if (M_isIn p2 (0 : Int32) (999 : Int32)) = (0 : Int32) then (2 : Int32) else (0 : Int32))) := rfl
  refine J_if_ne (tgt := 12) X dX11_feast_5 (by decide) (fun c5 => ?_) (fun c5 => ?_)
  · skip
    rw [if_neg c5] at j5_0
    refine J_iload_2 X dX11_feast_12 ?_
    refine J_iconst (v := 0) X dX11_feast_13 rfl ?_
    refine J_sipush (v := (999 : Int32)) X dX11_feast_14 (by decide) ?_
    refine J_callS X (c_M_isIn p2 (0 : Int32) (999 : Int32)) (And.intro gw_5_148 cw_X11_isIn) rfl rfl (Nat.le_of_ble_eq_true rfl) dX11_feast_17 rfl (J.pi ?_) JE.no
    refine J_if_eq (tgt := 27) X dX11_feast_20 (by decide) (fun c20 => ?_) (fun c20 => ?_)
    · skip
      rw [if_pos c20] at j5_0
      refine J_iconst (v := 2) X dX11_feast_27 rfl ?_
      exact K5_28 _ j5_0.symm
    · skip
      rw [if_neg c20] at j5_0
      refine J_iconst (v := 0) X dX11_feast_23 rfl ?_
      refine J_goto (tgt := 28) X dX11_feast_24 (by decide) ?_
      exact K5_28 _ j5_0.symm
  · skip
    rw [if_pos c5] at j5_0
    refine J_iconst (v := 1) X dX11_feast_8 rfl ?_
    refine J_goto (tgt := 28) X dX11_feast_9 (by decide) ?_
    exact K5_28 _ j5_0.symm
def M_inspect_j5 (σ : St) (p1 : Int32) : Int32 := (if (M_isZone p1) = (0 : Int32) then (1 : Int32) else (0 : Int32))
theorem M_inspect_j5_b (σ : St) (p1 : Int32) : M_inspect_j5 σ p1 = 0 ∨ M_inspect_j5 σ p1 = 1 := by
  unfold M_inspect_j5
  (repeat' split) <;> first | exact Or.inl rfl | exact Or.inr rfl
def M_inspect_j45l2 (σ : St) (p1 : Int32) (k25 : Nat) (a25_2 : Int32) (s25 : St) : Int32 := (if (s25 3 (ix (s25 15 (ix (nI k25))))) = p1 then (if (M_isUnlawful s25 (nI k25)) = (0 : Int32) then a25_2 else (if ((s25 0 0) - (s25 25 (ix (nI k25)))) < (720 : Int32) then a25_2 else (a25_2 + 1))) else a25_2)
def M_inspect_j45_s (σ : St) (p1 : Int32) (k25 : Nat) (a25_2 : Int32) (s25 : St) : St := (if (s25 3 (ix (s25 15 (ix (nI k25))))) = p1 then (if (M_isUnlawful s25 (nI k25)) = (0 : Int32) then s25 else (if ((s25 0 0) - (s25 25 (ix (nI k25)))) < (720 : Int32) then s25 else (sS (sS (sS s25 10 (ix (s25 14 (ix (nI k25)))) ((s25 10 (ix (s25 14 (ix (nI k25))))) - (10 : Int32))) 11 (ix ((sS s25 10 (ix (s25 14 (ix (nI k25)))) ((s25 10 (ix (s25 14 (ix (nI k25))))) - (10 : Int32))) 14 (ix (nI k25)))) (((sS s25 10 (ix (s25 14 (ix (nI k25)))) ((s25 10 (ix (s25 14 (ix (nI k25))))) - (10 : Int32))) 11 (ix ((sS s25 10 (ix (s25 14 (ix (nI k25)))) ((s25 10 (ix (s25 14 (ix (nI k25))))) - (10 : Int32))) 14 (ix (nI k25))))) + (10 : Int32))) 25 (ix (nI k25)) ((sS (sS s25 10 (ix (s25 14 (ix (nI k25)))) ((s25 10 (ix (s25 14 (ix (nI k25))))) - (10 : Int32))) 11 (ix ((sS s25 10 (ix (s25 14 (ix (nI k25)))) ((s25 10 (ix (s25 14 (ix (nI k25))))) - (10 : Int32))) 14 (ix (nI k25)))) (((sS s25 10 (ix (s25 14 (ix (nI k25)))) ((s25 10 (ix (s25 14 (ix (nI k25))))) - (10 : Int32))) 11 (ix ((sS s25 10 (ix (s25 14 (ix (nI k25)))) ((s25 10 (ix (s25 14 (ix (nI k25))))) - (10 : Int32))) 14 (ix (nI k25))))) + (10 : Int32))) 0 0)))) else s25)
def M_inspect_L25 (σ : St) (p1 : Int32) (K25 : Int32 → St → Int32) : Nat → Nat → Int32 → St → Int32
  | 0, _, a25_2, s25 => K25 a25_2 s25
  | n25 + 1, k25, a25_2, s25 => (M_inspect_L25 σ p1 K25 n25 (k25 + 1) (M_inspect_j45l2 σ p1 k25 a25_2 s25) (M_inspect_j45_s σ p1 k25 a25_2 s25))
def M_inspect_L25_s (σ : St) (p1 : Int32) (K25s : Int32 → St → St) : Nat → Nat → Int32 → St → St
  | 0, _, a25_2, s25 => K25s a25_2 s25
  | n25 + 1, k25, a25_2, s25 => (M_inspect_L25_s σ p1 K25s n25 (k25 + 1) (M_inspect_j45l2 σ p1 k25 a25_2 s25) (M_inspect_j45_s σ p1 k25 a25_2 s25))
def M_inspect (σ : St) (p1 : Int32) : Int32 := (if (M_fails σ (M_inspect_j5 σ p1)) = (0 : Int32) then (M_inspect_L25 σ p1 (fun a25_2 s25 => a25_2) (ix (σ 13 0)) 0 (0 : Int32) (M_fails_s σ (M_inspect_j5 σ p1))) else (0 : Int32))
def M_inspect_s (σ : St) (p1 : Int32) : St := (if (M_fails σ (M_inspect_j5 σ p1)) = (0 : Int32) then (M_inspect_L25_s σ p1 (fun a25_2 s25 => s25) (ix (σ 13 0)) 0 (0 : Int32) (M_fails_s σ (M_inspect_j5 σ p1))) else (M_fails_s σ (M_inspect_j5 σ p1)))
theorem ok_inspect0 {σ : St} {p1 : Int32} (hI : Inv σ) (c : M_fails σ (M_inspect_j5 σ p1) = 0) : vp_in p1 4 := by
  refine isZone_in (fun q => ?_)
  exact fz c (by unfold M_inspect_j5; simp [q])
theorem cw_X11_inspect : Cond.instanceMethod yX11_inspect ∈ GW ∧ Cond.selects RX11 yX11_inspect yX11_inspect ∈ GW ∧ Cond.initialized RX11 ∈ GW ∧ Cond.code yX11_inspect cX11_inspect 4 (some .int) ∈ GW ∧ yX11_inspect.cls = RX11 ∧ (yX11_inspect.cls ≠ "java/lang/invoke/MethodHandle" ∧ yX11_inspect.cls ≠ "java/lang/invoke/VarHandle") ∧ (parseMethodDescriptor yX11_inspect.desc).map (fun d => d.parameters.length) = some 1 := ⟨gw_5_224, gw_5_225, gw_1_14, gw_5_226, rfl, ⟨by decide, by decide⟩, by decide +kernel⟩
set_option maxRecDepth 100000 in
set_option maxHeartbeats 4000000 in
theorem c_M_inspect {l : Launch} {D : va_G} {ca : Nat → Nat} {h : fH} {m : Nat} {ρ : Nat → Nat} {σ : St} (hR : RM ca h m ρ σ) (hI : Inv σ) (p1 : Int32) : FM l D ca yX11_inspect (.code yX11_inspect cX11_inspect 4 (some .int)) { frames := 3, cells := 0, slots := 0, locals := 62 } [.ref m, .int p1] h (pIM (M_inspect σ p1) (fun h2 => RM ca h2 m ρ (M_inspect_s σ p1))) noX := by
  refine FM.of [some (.ref m), some (.int p1), none, none] (by decide) (Nat.le_of_ble_eq_true rfl) rfl ?_
  rintro K X rfl rfl rfl
  have q_v : (M_inspect σ p1) = (if (M_fails σ (M_inspect_j5 σ p1)) = (0 : Int32) then (M_inspect_L25 σ p1 (fun a25_2 s25 => a25_2) (ix (σ 13 0)) 0 (0 : Int32) (M_fails_s σ (M_inspect_j5 σ p1))) else (0 : Int32)) := rfl
  have q_s : (M_inspect_s σ p1) = (if (M_fails σ (M_inspect_j5 σ p1)) = (0 : Int32) then (M_inspect_L25_s σ p1 (fun a25_2 s25 => s25) (ix (σ 13 0)) 0 (0 : Int32) (M_fails_s σ (M_inspect_j5 σ p1))) else (M_fails_s σ (M_inspect_j5 σ p1))) := rfl
  refine J_aload_0 X dX11_inspect_0 ?_
  refine J_iload_1 X dX11_inspect_1 ?_
  refine J_callS X (c_M_isZone p1) (And.intro gw_5_159 cw_X11_isZone) rfl rfl (Nat.le_of_ble_eq_true rfl) dX11_inspect_2 rfl (J.pi ?_) JE.no
  have K5_13 : ∀ (v5_0 : Int32), v5_0 = (M_inspect_j5 σ p1) → J K h [some (.ref m), some (.int p1), none, none] [.int v5_0, .ref m] 13 0 0 := by
    intro v5_0 ev5_0
    try rw [ev5_0]
    clear ev5_0
    refine J_callV X (c_M_fails hR (M_inspect_j5 σ p1)) (And.intro gw_5_151 cw_X11_fails) hR.1 rfl rfl rfl (Nat.le_of_ble_eq_true rfl) dX11_inspect_13 rfl (J.pim (fun h1 hR1 => ?_)) JE.no
    have hI1 : Inv (M_fails_s σ (M_inspect_j5 σ p1)) := (Inv_fails hI)
    refine J_if_eq (tgt := 21) X dX11_inspect_16 (by decide) (fun c16 => ?_) (fun c16 => ?_)
    · skip
      rw [if_pos c16] at q_v
      rw [if_pos c16] at q_s
      have hp := ok_inspect0 hI c16
      refine J_iconst (v := 0) X dX11_inspect_21 rfl ?_
      refine J_istore_2 X dX11_inspect_22 rfl (by decide) ?_
      refine J_iconst (v := 0) X dX11_inspect_23 rfl ?_
      refine J_istore_3 X dX11_inspect_24 rfl (by decide) ?_
      have hle := (cnt (N := 40) (hI 13 0) (by decide)).2
      obtain ⟨K25, hK25⟩ : ∃ f : Int32 → St → Int32, f = (fun a25_2 s25 => a25_2) := ⟨_, rfl⟩
      obtain ⟨K25s, hK25s⟩ : ∃ f : Int32 → St → St, f = (fun a25_2 s25 => s25) := ⟨_, rfl⟩
      have X25 : ∀ (a25_2 : Int32) (s25 : St) (h25_ : fH) (_ : True), RM (kca K) h25_ m ρ s25 → Inv s25 → s25 13 0 = σ 13 0 → (M_inspect σ p1) = a25_2 → (M_inspect_s σ p1) = s25 → J K h25_ [some (.ref m), some (.int p1), some (.int a25_2), none] [] 124 0 0 := by
        intro a25_2 s25 h25_ _ hR25_ hI25_ hn25 q_v q_s
        refine J_iload_2 X dX11_inspect_124 ?_
        exact J_iret X rfl rfl ⟨by rw [q_v], by rw [q_s]; exact hR25_⟩ dX11_inspect_125
      have L25 : ∀ (n25 k25 : Nat) (a25_2 : Int32) (s25 : St) (h25_ : fH), k25 + n25 = ix (σ 13 0) → RM (kca K) h25_ m ρ s25 → Inv s25 → s25 13 0 = σ 13 0 → (M_inspect σ p1) = (M_inspect_L25 σ p1 K25 n25 k25 a25_2 s25) → (M_inspect_s σ p1) = (M_inspect_L25_s σ p1 K25s n25 k25 a25_2 s25) → J K h25_ [some (.ref m), some (.int p1), some (.int a25_2), some (.int (nI k25))] [] 25 0 0 := by
        intro n25
        induction n25 with
        | zero =>
          intro k25 a25_2 s25 h25_ hk25 hR25_ hI25_ hn25 q_v q_s
          rw [M_inspect_L25] at q_v
          rw [M_inspect_L25_s] at q_s
          refine J_iload_3 X dX11_inspect_25 ?_
          refine J_aload_0 X dX11_inspect_26 ?_
          refine JM_get X hR25_ 13 (by decide) rfl rfl gw_5_23 dX11_inspect_27 ?_
          refine J_icmp_ge (tgt := 124) X dX11_inspect_30 (by decide) (fun _ => ?_) (fun c => absurd (lp_exit (hn25.trans (cnt (N := 40) (hI 13 0) (by decide)).1) (by omega) hk25) c)
          rw [hK25] at q_v
          rw [hK25s] at q_s
          refine J.subL (lv' := [some (.ref m), some (.int p1), some (.int a25_2), none]) (And.intro rfl (And.intro rfl (And.intro rfl trivial))) ?_
          exact X25 a25_2 s25 h25_ trivial hR25_ hI25_ hn25 q_v q_s
        | succ n25 ih25 =>
          intro k25 a25_2 s25 h25_ hk25 hR25_ hI25_ hn25 q_v q_s
          rw [M_inspect_L25] at q_v
          rw [M_inspect_L25_s] at q_s
          have hlt25 : k25 < ix (σ 13 0) := by omega
          refine J_iload_3 X dX11_inspect_25 ?_
          refine J_aload_0 X dX11_inspect_26 ?_
          refine JM_get X hR25_ 13 (by decide) rfl rfl gw_5_23 dX11_inspect_27 ?_
          refine J_icmp_ge (tgt := 124) X dX11_inspect_30 (by decide) (fun c => absurd c (lp_stay (hn25.trans (cnt (N := 40) (hI 13 0) (by decide)).1) (by omega) hk25)) (fun _ => ?_)
          refine J_aload_0 X dX11_inspect_33 ?_
          refine JM_get X hR25_ 3 (by decide) rfl rfl gw_5_13 dX11_inspect_34 ?_
          refine J_aload_0 X dX11_inspect_37 ?_
          refine JM_get X hR25_ 15 (by decide) rfl rfl gw_5_25 dX11_inspect_38 ?_
          refine J_iload_3 X dX11_inspect_41 ?_
          refine JM_ald X hR25_ 15 rfl rfl (vp_in_nI (N := 40) (by omega) (by decide)) dX11_inspect_42 ?_
          refine JM_ald X hR25_ 3 rfl rfl (Inv_place hI25_ (vp_lt (vp_in_nI (N := 40) (by omega) (by decide)))) dX11_inspect_43 ?_
          refine J_iload_1 X dX11_inspect_44 ?_
          have K45_118 : ∀ (v45_0 : Int32), v45_0 = (M_inspect_j45l2 σ p1 k25 a25_2 s25) → ∀ hj2 : fH, RM (kca K) hj2 m ρ (M_inspect_j45_s σ p1 k25 a25_2 s25) → J K hj2 [some (.ref m), some (.int p1), some (.int v45_0), some (.int (nI k25))] [] 118 0 0 := by
            intro v45_0 ev45_0
            try rw [ev45_0]
            clear ev45_0
            intro hj2 hRj2
            have hI2 : Inv (M_inspect_j45_s σ p1 k25 a25_2 s25) := (by unfold M_inspect_j45_s; (repeat' split) <;> first | exact hI25_ | exact Inv_sS (Inv_sS (Inv_sS hI25_ trivial) trivial) (Or.inr (hI25_ 0 0)))
            refine J_iinc_3 (v := (nI (k25 + 1))) X dX11_inspect_118 (nI_1 _) rfl (by decide) ?_
            refine J_goto (tgt := 25) X dX11_inspect_121 (by decide) ?_
            exact ih25 (k25 + 1) (M_inspect_j45l2 σ p1 k25 a25_2 s25) (M_inspect_j45_s σ p1 k25 a25_2 s25) hj2 (by omega) hRj2 hI2 (by unfold M_inspect_j45_s; (repeat' split) <;> exact hn25) q_v q_s
          have j45_0 : M_inspect_j45l2 σ p1 k25 a25_2 s25 = (if (s25 3 (ix (s25 15 (ix (nI k25))))) = p1 then (if (M_isUnlawful s25 (nI k25)) = (0 : Int32) then a25_2 else (if ((s25 0 0) - (s25 25 (ix (nI k25)))) < (720 : Int32) then a25_2 else (a25_2 + 1))) else a25_2) := rfl
          have j45_1 : M_inspect_j45_s σ p1 k25 a25_2 s25 = (if (s25 3 (ix (s25 15 (ix (nI k25))))) = p1 then (if (M_isUnlawful s25 (nI k25)) = (0 : Int32) then s25 else (if ((s25 0 0) - (s25 25 (ix (nI k25)))) < (720 : Int32) then s25 else (sS (sS (sS s25 10 (ix (s25 14 (ix (nI k25)))) ((s25 10 (ix (s25 14 (ix (nI k25))))) - (10 : Int32))) 11 (ix ((sS s25 10 (ix (s25 14 (ix (nI k25)))) ((s25 10 (ix (s25 14 (ix (nI k25))))) - (10 : Int32))) 14 (ix (nI k25)))) (((sS s25 10 (ix (s25 14 (ix (nI k25)))) ((s25 10 (ix (s25 14 (ix (nI k25))))) - (10 : Int32))) 11 (ix ((sS s25 10 (ix (s25 14 (ix (nI k25)))) ((s25 10 (ix (s25 14 (ix (nI k25))))) - (10 : Int32))) 14 (ix (nI k25))))) + (10 : Int32))) 25 (ix (nI k25)) ((sS (sS s25 10 (ix (s25 14 (ix (nI k25)))) ((s25 10 (ix (s25 14 (ix (nI k25))))) - (10 : Int32))) 11 (ix ((sS s25 10 (ix (s25 14 (ix (nI k25)))) ((s25 10 (ix (s25 14 (ix (nI k25))))) - (10 : Int32))) 14 (ix (nI k25)))) (((sS s25 10 (ix (s25 14 (ix (nI k25)))) ((s25 10 (ix (s25 14 (ix (nI k25))))) - (10 : Int32))) 11 (ix ((sS s25 10 (ix (s25 14 (ix (nI k25)))) ((s25 10 (ix (s25 14 (ix (nI k25))))) - (10 : Int32))) 14 (ix (nI k25))))) + (10 : Int32))) 0 0)))) else s25) := rfl
          refine J_icmp_ne (tgt := 118) X dX11_inspect_45 (by decide) (fun c45 => ?_) (fun c45 => ?_)
          · skip
            rw [if_neg c45] at j45_0
            rw [if_neg c45] at j45_1
            exact K45_118 _ j45_0.symm _ (by rw [j45_1]; exact hR25_)
          · skip
            rw [if_pos c45] at j45_0
            rw [if_pos c45] at j45_1
            refine J_aload_0 X dX11_inspect_48 ?_
            refine J_iload_3 X dX11_inspect_49 ?_
            refine J_callV X (c_M_isUnlawful hR25_ hI25_ (nI k25) (vp_in_nI (N := 40) (by omega) (by decide))) (And.intro gw_5_227 cw_X11_isUnlawful) hR25_.1 rfl rfl rfl (Nat.le_of_ble_eq_true rfl) dX11_inspect_50 rfl (J.pi ?_) JE.no
            refine J_if_eq (tgt := 118) X dX11_inspect_53 (by decide) (fun c53 => ?_) (fun c53 => ?_)
            · skip
              rw [if_pos c53] at j45_0
              rw [if_pos c53] at j45_1
              exact K45_118 _ j45_0.symm _ (by rw [j45_1]; exact hR25_)
            · skip
              rw [if_neg c53] at j45_0
              rw [if_neg c53] at j45_1
              refine J_aload_0 X dX11_inspect_56 ?_
              refine JM_get X hR25_ 0 (by decide) rfl rfl gw_5_10 dX11_inspect_57 ?_
              refine J_aload_0 X dX11_inspect_60 ?_
              refine JM_get X hR25_ 25 (by decide) rfl rfl gw_5_35 dX11_inspect_61 ?_
              refine J_iload_3 X dX11_inspect_64 ?_
              refine JM_ald X hR25_ 25 rfl rfl (vp_in_nI (N := 40) (by omega) (by decide)) dX11_inspect_65 ?_
              refine J_isub X dX11_inspect_66 ?_
              refine J_sipush (v := (720 : Int32)) X dX11_inspect_67 (by decide) ?_
              refine J_icmp_lt (tgt := 118) X dX11_inspect_70 (by decide) (fun c70 => ?_) (fun c70 => ?_)
              · skip
                rw [if_pos c70] at j45_0
                rw [if_pos c70] at j45_1
                exact K45_118 _ j45_0.symm _ (by rw [j45_1]; exact hR25_)
              · skip
                rw [if_neg c70] at j45_0
                rw [if_neg c70] at j45_1
                refine J_aload_0 X dX11_inspect_73 ?_
                refine JM_get X hR25_ 10 (by decide) rfl rfl gw_5_20 dX11_inspect_74 ?_
                refine J_aload_0 X dX11_inspect_77 ?_
                refine JM_get X hR25_ 14 (by decide) rfl rfl gw_5_24 dX11_inspect_78 ?_
                refine J_iload_3 X dX11_inspect_81 ?_
                refine JM_ald X hR25_ 14 rfl rfl (vp_in_nI (N := 40) (by omega) (by decide)) dX11_inspect_82 ?_
                refine J_dup2 X dX11_inspect_83 rfl rfl ?_
                refine JM_ald X hR25_ 10 rfl rfl (Inv_owner hI25_ (vp_lt (vp_in_nI (N := 40) (by omega) (by decide)))) dX11_inspect_84 ?_
                refine J_bipush (v := (10 : Int32)) X dX11_inspect_85 (by decide) ?_
                refine J_isub X dX11_inspect_87 ?_
                refine JM_ast X hR25_ 10 rfl rfl (Inv_owner hI25_ (vp_lt (vp_in_nI (N := 40) (by omega) (by decide)))) dX11_inspect_88 (fun h3 hR3 => ?_)
                have hI3 : Inv (sS s25 10 (ix (s25 14 (ix (nI k25)))) ((s25 10 (ix (s25 14 (ix (nI k25))))) - (10 : Int32))) := (Inv_sS hI25_ trivial)
                refine J_aload_0 X dX11_inspect_89 ?_
                refine JM_get X hR3 11 (by decide) rfl rfl gw_5_21 dX11_inspect_90 ?_
                refine J_aload_0 X dX11_inspect_93 ?_
                refine JM_get X hR3 14 (by decide) rfl rfl gw_5_24 dX11_inspect_94 ?_
                refine J_iload_3 X dX11_inspect_97 ?_
                refine JM_ald X hR3 14 rfl rfl (vp_in_nI (N := 40) (by omega) (by decide)) dX11_inspect_98 ?_
                refine J_dup2 X dX11_inspect_99 rfl rfl ?_
                refine JM_ald X hR3 11 rfl rfl (Inv_owner hI3 (vp_lt (vp_in_nI (N := 40) (by omega) (by decide)))) dX11_inspect_100 ?_
                refine J_bipush (v := (10 : Int32)) X dX11_inspect_101 (by decide) ?_
                refine J_iadd X dX11_inspect_103 ?_
                refine JM_ast X hR3 11 rfl rfl (Inv_owner hI3 (vp_lt (vp_in_nI (N := 40) (by omega) (by decide)))) dX11_inspect_104 (fun h4 hR4 => ?_)
                have hI4 : Inv (sS (sS s25 10 (ix (s25 14 (ix (nI k25)))) ((s25 10 (ix (s25 14 (ix (nI k25))))) - (10 : Int32))) 11 (ix ((sS s25 10 (ix (s25 14 (ix (nI k25)))) ((s25 10 (ix (s25 14 (ix (nI k25))))) - (10 : Int32))) 14 (ix (nI k25)))) (((sS s25 10 (ix (s25 14 (ix (nI k25)))) ((s25 10 (ix (s25 14 (ix (nI k25))))) - (10 : Int32))) 11 (ix ((sS s25 10 (ix (s25 14 (ix (nI k25)))) ((s25 10 (ix (s25 14 (ix (nI k25))))) - (10 : Int32))) 14 (ix (nI k25))))) + (10 : Int32))) := (Inv_sS hI3 trivial)
                refine J_aload_0 X dX11_inspect_105 ?_
                refine JM_get X hR4 25 (by decide) rfl rfl gw_5_35 dX11_inspect_106 ?_
                refine J_iload_3 X dX11_inspect_109 ?_
                refine J_aload_0 X dX11_inspect_110 ?_
                refine JM_get X hR4 0 (by decide) rfl rfl gw_5_10 dX11_inspect_111 ?_
                refine JM_ast X hR4 25 rfl rfl (vp_in_nI (N := 40) (by omega) (by decide)) dX11_inspect_114 (fun h5 hR5 => ?_)
                have hI5 : Inv (sS (sS (sS s25 10 (ix (s25 14 (ix (nI k25)))) ((s25 10 (ix (s25 14 (ix (nI k25))))) - (10 : Int32))) 11 (ix ((sS s25 10 (ix (s25 14 (ix (nI k25)))) ((s25 10 (ix (s25 14 (ix (nI k25))))) - (10 : Int32))) 14 (ix (nI k25)))) (((sS s25 10 (ix (s25 14 (ix (nI k25)))) ((s25 10 (ix (s25 14 (ix (nI k25))))) - (10 : Int32))) 11 (ix ((sS s25 10 (ix (s25 14 (ix (nI k25)))) ((s25 10 (ix (s25 14 (ix (nI k25))))) - (10 : Int32))) 14 (ix (nI k25))))) + (10 : Int32))) 25 (ix (nI k25)) ((sS (sS s25 10 (ix (s25 14 (ix (nI k25)))) ((s25 10 (ix (s25 14 (ix (nI k25))))) - (10 : Int32))) 11 (ix ((sS s25 10 (ix (s25 14 (ix (nI k25)))) ((s25 10 (ix (s25 14 (ix (nI k25))))) - (10 : Int32))) 14 (ix (nI k25)))) (((sS s25 10 (ix (s25 14 (ix (nI k25)))) ((s25 10 (ix (s25 14 (ix (nI k25))))) - (10 : Int32))) 11 (ix ((sS s25 10 (ix (s25 14 (ix (nI k25)))) ((s25 10 (ix (s25 14 (ix (nI k25))))) - (10 : Int32))) 14 (ix (nI k25))))) + (10 : Int32))) 0 0)) := (Inv_sS hI4 (Or.inr (hI4 0 0)))
                refine J_iinc_2 (v := (a25_2 + 1)) X dX11_inspect_115 rfl rfl (by decide) ?_
                exact K45_118 _ j45_0.symm _ (by rw [j45_1]; exact hR5)
      have q_v : (M_inspect σ p1) = (M_inspect_L25 σ p1 K25 (ix (σ 13 0)) 0 (0 : Int32) (M_fails_s σ (M_inspect_j5 σ p1))) := by rw [hK25]; exact q_v
      have q_s : (M_inspect_s σ p1) = (M_inspect_L25_s σ p1 K25s (ix (σ 13 0)) 0 (0 : Int32) (M_fails_s σ (M_inspect_j5 σ p1))) := by rw [hK25s]; exact q_s
      exact L25 (ix (σ 13 0)) 0 (0 : Int32) (M_fails_s σ (M_inspect_j5 σ p1)) h1 (Nat.zero_add _) hR1 hI1 rfl q_v q_s
    · skip
      rw [if_neg c16] at q_v
      rw [if_neg c16] at q_s
      refine J_iconst (v := 0) X dX11_inspect_19 rfl ?_
      exact J_iret X rfl rfl ⟨by rw [q_v], by rw [q_s]; exact hR1⟩ dX11_inspect_20
  have j5_0 : M_inspect_j5 σ p1 = (if (M_isZone p1) = (0 : Int32) then (1 : Int32) else (0 : Int32)) := rfl
  refine J_if_eq (tgt := 12) X dX11_inspect_5 (by decide) (fun c5 => ?_) (fun c5 => ?_)
  · skip
    rw [if_pos c5] at j5_0
    refine J_iconst (v := 1) X dX11_inspect_12 rfl ?_
    exact K5_13 _ j5_0.symm
  · skip
    rw [if_neg c5] at j5_0
    refine J_iconst (v := 0) X dX11_inspect_8 rfl ?_
    refine J_goto (tgt := 13) X dX11_inspect_9 (by decide) ?_
    exact K5_13 _ j5_0.symm
def M_pass_j9 (σ : St) (p1 : Int32) : Int32 := (if (M_isIn p1 (1 : Int32) (500 : Int32)) = (0 : Int32) then (1 : Int32) else (if ((σ 0 0) + p1) ≤ (20000 : Int32) then (0 : Int32) else (2 : Int32)))
def M_pass_j70 (σ : St) (p1 : Int32) (k43 : Nat) (s43 : St) (k50 : Nat) (s50 : St) : Int32 := (if (M_burns s50 (nI k50)) = (0 : Int32) then (0 : Int32) else (1 : Int32))
theorem M_pass_j70_b (σ : St) (p1 : Int32) (k43 : Nat) (s43 : St) (k50 : Nat) (s50 : St) : M_pass_j70 σ p1 k43 s43 k50 s50 = 0 ∨ M_pass_j70 σ p1 k43 s43 k50 s50 = 1 := by
  unfold M_pass_j70
  (repeat' split) <;> first | exact Or.inl rfl | exact Or.inr rfl
def M_pass_L50 (σ : St) (p1 : Int32) (k43 : Nat) (s43 : St) (K50 : St → Int32) : Nat → Nat → St → Int32
  | 0, _, s50 => K50 s50
  | n50 + 1, k50, s50 => (M_pass_L50 σ p1 k43 s43 K50 n50 (k50 + 1) (sS s50 23 (ix (nI k50)) ((s50 23 (ix (nI k50))) + (M_pass_j70 σ p1 k43 s43 k50 s50))))
def M_pass_L50_s (σ : St) (p1 : Int32) (k43 : Nat) (s43 : St) (K50s : St → St) : Nat → Nat → St → St
  | 0, _, s50 => K50s s50
  | n50 + 1, k50, s50 => (M_pass_L50_s σ p1 k43 s43 K50s n50 (k50 + 1) (sS s50 23 (ix (nI k50)) ((s50 23 (ix (nI k50))) + (M_pass_j70 σ p1 k43 s43 k50 s50))))
def M_pass_L43 (σ : St) (p1 : Int32) (K43 : St → Int32) : Nat → Nat → St → Int32
  | 0, _, s43 => K43 s43
  | n43 + 1, k43, s43 => (M_pass_L50 σ p1 k43 s43 (fun s50 => (M_pass_L43 σ p1 K43 n43 (k43 + 1) (sC s50 0 ((s50 0 0) + (1 : Int32))))) (ix (σ 13 0)) 0 s43)
def M_pass_L43_s (σ : St) (p1 : Int32) (K43s : St → St) : Nat → Nat → St → St
  | 0, _, s43 => K43s s43
  | n43 + 1, k43, s43 => (M_pass_L50_s σ p1 k43 s43 (fun s50 => (M_pass_L43_s σ p1 K43s n43 (k43 + 1) (sC s50 0 ((s50 0 0) + (1 : Int32))))) (ix (σ 13 0)) 0 s43)
def M_pass (σ : St) (p1 : Int32) : Int32 := (if (M_fails σ (M_pass_j9 σ p1)) = (0 : Int32) then (M_pass_L43 σ p1 (fun s43 => (s43 0 0)) (ix p1) 0 (M_fails_s σ (M_pass_j9 σ p1))) else (0 : Int32))
def M_pass_s (σ : St) (p1 : Int32) : St := (if (M_fails σ (M_pass_j9 σ p1)) = (0 : Int32) then (M_pass_L43_s σ p1 (fun s43 => s43) (ix p1) 0 (M_fails_s σ (M_pass_j9 σ p1))) else (M_fails_s σ (M_pass_j9 σ p1)))
theorem ok_pass0 {σ : St} {p1 : Int32} (hI : Inv σ) (c : M_fails σ (M_pass_j9 σ p1) = 0) : vp_in p1 501 ∧ ix (σ 0 0) + ix p1 ≤ 20000 := by
  have h1 : ¬ M_isIn p1 1 500 = 0 := fun q => fz c (by unfold M_pass_j9; simp [q])
  have h2 := isIn_iff.mp h1
  rw [show (1 : Int32).toInt = 1 from rfl, show (500 : Int32).toInt = 500 from rfl] at h2
  have h3 : vp_in p1 501 := vp_in_iff.mpr ⟨by omega, by omega⟩
  refine ⟨h3, ?_⟩
  have h4 : σ 0 0 + p1 ≤ 20000 := Classical.byContradiction fun q => fz c (by unfold M_pass_j9; simp [h1, q])
  obtain ⟨e1, l1⟩ := cnt (N := 20000) (hI 0 0) (by decide)
  obtain ⟨e2, l2⟩ := cnt (N := 500) h3 (by decide)
  rw [e1, e2, nI_add, show (20000 : Int32) = nI 20000 from rfl] at h4
  exact (nI_leI (by omega) (by decide)).mp h4
theorem cw_X11_pass : Cond.instanceMethod yX11_pass ∈ GW ∧ Cond.selects RX11 yX11_pass yX11_pass ∈ GW ∧ Cond.initialized RX11 ∈ GW ∧ Cond.code yX11_pass cX11_pass 4 (some .int) ∈ GW ∧ yX11_pass.cls = RX11 ∧ (yX11_pass.cls ≠ "java/lang/invoke/MethodHandle" ∧ yX11_pass.cls ≠ "java/lang/invoke/VarHandle") ∧ (parseMethodDescriptor yX11_pass.desc).map (fun d => d.parameters.length) = some 1 := ⟨gw_5_175, gw_5_176, gw_1_14, gw_5_177, rfl, ⟨by decide, by decide⟩, by decide +kernel⟩
set_option maxRecDepth 100000 in
set_option maxHeartbeats 4000000 in
theorem c_M_pass {l : Launch} {D : va_G} {ca : Nat → Nat} {h : fH} {m : Nat} {ρ : Nat → Nat} {σ : St} (hR : RM ca h m ρ σ) (hI : Inv σ) (p1 : Int32) : FM l D ca yX11_pass (.code yX11_pass cX11_pass 4 (some .int)) { frames := 2, cells := 0, slots := 0, locals := 46 } [.ref m, .int p1] h (pIM (M_pass σ p1) (fun h2 => RM ca h2 m ρ (M_pass_s σ p1))) noX := by
  refine FM.of [some (.ref m), some (.int p1), none, none] (by decide) (Nat.le_of_ble_eq_true rfl) rfl ?_
  rintro K X rfl rfl rfl
  have q_v : (M_pass σ p1) = (if (M_fails σ (M_pass_j9 σ p1)) = (0 : Int32) then (M_pass_L43 σ p1 (fun s43 => (s43 0 0)) (ix p1) 0 (M_fails_s σ (M_pass_j9 σ p1))) else (0 : Int32)) := rfl
  have q_s : (M_pass_s σ p1) = (if (M_fails σ (M_pass_j9 σ p1)) = (0 : Int32) then (M_pass_L43_s σ p1 (fun s43 => s43) (ix p1) 0 (M_fails_s σ (M_pass_j9 σ p1))) else (M_fails_s σ (M_pass_j9 σ p1))) := rfl
  refine J_aload_0 X dX11_pass_0 ?_
  refine J_iload_1 X dX11_pass_1 ?_
  refine J_iconst (v := 1) X dX11_pass_2 rfl ?_
  refine J_sipush (v := (500 : Int32)) X dX11_pass_3 (by decide) ?_
  refine J_callS X (c_M_isIn p1 (1 : Int32) (500 : Int32)) (And.intro gw_5_148 cw_X11_isIn) rfl rfl (Nat.le_of_ble_eq_true rfl) dX11_pass_6 rfl (J.pi ?_) JE.no
  have K9_33 : ∀ (v9_0 : Int32), v9_0 = (M_pass_j9 σ p1) → J K h [some (.ref m), some (.int p1), none, none] [.int v9_0, .ref m] 33 0 0 := by
    intro v9_0 ev9_0
    try rw [ev9_0]
    clear ev9_0
    refine J_callV X (c_M_fails hR (M_pass_j9 σ p1)) (And.intro gw_5_151 cw_X11_fails) hR.1 rfl rfl rfl (Nat.le_of_ble_eq_true rfl) dX11_pass_33 rfl (J.pim (fun h1 hR1 => ?_)) JE.no
    have hI1 : Inv (M_fails_s σ (M_pass_j9 σ p1)) := (Inv_fails hI)
    refine J_if_eq (tgt := 41) X dX11_pass_36 (by decide) (fun c36 => ?_) (fun c36 => ?_)
    · skip
      rw [if_pos c36] at q_v
      rw [if_pos c36] at q_s
      obtain ⟨hp, hsum⟩ := ok_pass0 hI c36
      have hle := (cnt (N := 40) (hI 13 0) (by decide)).2
      refine J_iconst (v := 0) X dX11_pass_41 rfl ?_
      refine J_istore_2 X dX11_pass_42 rfl (by decide) ?_
      obtain ⟨K43, hK43⟩ : ∃ f : St → Int32, f = (fun s43 => (s43 0 0)) := ⟨_, rfl⟩
      obtain ⟨K43s, hK43s⟩ : ∃ f : St → St, f = (fun s43 => s43) := ⟨_, rfl⟩
      have X43 : ∀ (s43 : St) (h43_ : fH) (_ : True), RM (kca K) h43_ m ρ s43 → Inv s43 → s43 0 0 = nI (ix (σ 0 0) + (ix p1)) → s43 13 0 = σ 13 0 → (M_pass σ p1) = (s43 0 0) → (M_pass_s σ p1) = s43 → J K h43_ [some (.ref m), some (.int p1), none, none] [] 102 0 0 := by
        intro s43 h43_ _ hR43_ hI43_ ht43 hn43 q_v q_s
        refine J_aload_0 X dX11_pass_102 ?_
        refine JM_get X hR43_ 0 (by decide) rfl rfl gw_5_10 dX11_pass_103 ?_
        exact J_iret X rfl rfl ⟨by rw [q_v], by rw [q_s]; exact hR43_⟩ dX11_pass_106
      have L43 : ∀ (n43 k43 : Nat) (s43 : St) (h43_ : fH), k43 + n43 = ix p1 → RM (kca K) h43_ m ρ s43 → Inv s43 → s43 0 0 = nI (ix (σ 0 0) + k43) → s43 13 0 = σ 13 0 → (M_pass σ p1) = (M_pass_L43 σ p1 K43 n43 k43 s43) → (M_pass_s σ p1) = (M_pass_L43_s σ p1 K43s n43 k43 s43) → J K h43_ [some (.ref m), some (.int p1), some (.int (nI k43)), none] [] 43 0 0 := by
        intro n43
        induction n43 with
        | zero =>
          intro k43 s43 h43_ hk43 hR43_ hI43_ ht43 hn43 q_v q_s
          rw [M_pass_L43] at q_v
          rw [M_pass_L43_s] at q_s
          have ek43 : k43 = ix p1 := by omega
          subst ek43
          refine J_iload_2 X dX11_pass_43 ?_
          refine J_iload_1 X dX11_pass_44 ?_
          refine J_icmp_ge (tgt := 102) X dX11_pass_45 (by decide) (fun _ => ?_) (fun c => absurd (lp_exit (vp_nI' hp (by decide)) (by omega) hk43) c)
          rw [hK43] at q_v
          rw [hK43s] at q_s
          refine J.subL (lv' := [some (.ref m), some (.int p1), none, none]) (And.intro rfl (And.intro rfl trivial)) ?_
          exact X43 s43 h43_ trivial hR43_ hI43_ ht43 hn43 q_v q_s
        | succ n43 ih43 =>
          intro k43 s43 h43_ hk43 hR43_ hI43_ ht43 hn43 q_v q_s
          rw [M_pass_L43] at q_v
          rw [M_pass_L43_s] at q_s
          have hlt43 : k43 < ix p1 := by omega
          refine J_iload_2 X dX11_pass_43 ?_
          refine J_iload_1 X dX11_pass_44 ?_
          refine J_icmp_ge (tgt := 102) X dX11_pass_45 (by decide) (fun c => absurd c (lp_stay (vp_nI' hp (by decide)) (by omega) hk43)) (fun _ => ?_)
          refine J_iconst (v := 0) X dX11_pass_48 rfl ?_
          refine J_istore_3 X dX11_pass_49 rfl (by decide) ?_
          obtain ⟨K50, hK50⟩ : ∃ f : St → Int32, f = (fun s50 => (M_pass_L43 σ p1 K43 n43 (k43 + 1) (sC s50 0 ((s50 0 0) + (1 : Int32))))) := ⟨_, rfl⟩
          obtain ⟨K50s, hK50s⟩ : ∃ f : St → St, f = (fun s50 => (M_pass_L43_s σ p1 K43s n43 (k43 + 1) (sC s50 0 ((s50 0 0) + (1 : Int32))))) := ⟨_, rfl⟩
          have X50 : ∀ (s50 : St) (h50_ : fH) (_ : True), RM (kca K) h50_ m ρ s50 → Inv s50 → s50 13 0 = σ 13 0 → s50 0 0 = s43 0 0 → (M_pass σ p1) = (M_pass_L43 σ p1 K43 n43 (k43 + 1) (sC s50 0 ((s50 0 0) + (1 : Int32)))) → (M_pass_s σ p1) = (M_pass_L43_s σ p1 K43s n43 (k43 + 1) (sC s50 0 ((s50 0 0) + (1 : Int32)))) → J K h50_ [some (.ref m), some (.int p1), some (.int (nI k43)), none] [] 86 0 0 := by
            intro s50 h50_ _ hR50_ hI50_ hn50 ht50 q_v q_s
            refine J_aload_0 X dX11_pass_86 ?_
            refine J_dup X dX11_pass_87 rfl ?_
            refine JM_get X hR50_ 0 (by decide) rfl rfl gw_5_10 dX11_pass_88 ?_
            refine J_iconst (v := 1) X dX11_pass_91 rfl ?_
            refine J_iadd X dX11_pass_92 ?_
            refine JM_put X hR50_ 0 (by decide) rfl rfl rfl rfl rfl rfl gw_5_10 dX11_pass_93 (fun h2 hR2 => ?_)
            have hI2 : Inv (sC s50 0 ((s50 0 0) + (1 : Int32))) := (Inv_sC hI50_ (by show vp_in (s50 0 0 + 1) 20001; rw [ht50, ht43, nI_1]; exact vp_in_nI (by omega) (by decide)))
            refine J_iinc_2 (v := (nI (k43 + 1))) X dX11_pass_96 (nI_1 _) rfl (by decide) ?_
            refine J_goto (tgt := 43) X dX11_pass_99 (by decide) ?_
            exact ih43 (k43 + 1) (sC s50 0 ((s50 0 0) + (1 : Int32))) h2 (by omega) hR2 hI2 (by show s50 0 0 + 1 = _; rw [ht50, ht43, nI_1]; rfl) hn50 q_v q_s
          have L50 : ∀ (n50 k50 : Nat) (s50 : St) (h50_ : fH), k50 + n50 = ix (σ 13 0) → RM (kca K) h50_ m ρ s50 → Inv s50 → s50 13 0 = σ 13 0 → s50 0 0 = s43 0 0 → (M_pass σ p1) = (M_pass_L50 σ p1 k43 s43 K50 n50 k50 s50) → (M_pass_s σ p1) = (M_pass_L50_s σ p1 k43 s43 K50s n50 k50 s50) → J K h50_ [some (.ref m), some (.int p1), some (.int (nI k43)), some (.int (nI k50))] [] 50 0 0 := by
            intro n50
            induction n50 with
            | zero =>
              intro k50 s50 h50_ hk50 hR50_ hI50_ hn50 ht50 q_v q_s
              rw [M_pass_L50] at q_v
              rw [M_pass_L50_s] at q_s
              refine J_iload_3 X dX11_pass_50 ?_
              refine J_aload_0 X dX11_pass_51 ?_
              refine JM_get X hR50_ 13 (by decide) rfl rfl gw_5_23 dX11_pass_52 ?_
              refine J_icmp_ge (tgt := 86) X dX11_pass_55 (by decide) (fun _ => ?_) (fun c => absurd (lp_exit (hn50.trans (cnt (N := 40) (hI 13 0) (by decide)).1) (by omega) hk50) c)
              rw [hK50] at q_v
              rw [hK50s] at q_s
              refine J.subL (lv' := [some (.ref m), some (.int p1), some (.int (nI k43)), none]) (And.intro rfl (And.intro rfl (And.intro rfl trivial))) ?_
              exact X50 s50 h50_ trivial hR50_ hI50_ hn50 ht50 q_v q_s
            | succ n50 ih50 =>
              intro k50 s50 h50_ hk50 hR50_ hI50_ hn50 ht50 q_v q_s
              rw [M_pass_L50] at q_v
              rw [M_pass_L50_s] at q_s
              have hlt50 : k50 < ix (σ 13 0) := by omega
              refine J_iload_3 X dX11_pass_50 ?_
              refine J_aload_0 X dX11_pass_51 ?_
              refine JM_get X hR50_ 13 (by decide) rfl rfl gw_5_23 dX11_pass_52 ?_
              refine J_icmp_ge (tgt := 86) X dX11_pass_55 (by decide) (fun c => absurd c (lp_stay (hn50.trans (cnt (N := 40) (hI 13 0) (by decide)).1) (by omega) hk50)) (fun _ => ?_)
              refine J_aload_0 X dX11_pass_58 ?_
              refine JM_get X hR50_ 23 (by decide) rfl rfl gw_5_33 dX11_pass_59 ?_
              refine J_iload_3 X dX11_pass_62 ?_
              refine J_dup2 X dX11_pass_63 rfl rfl ?_
              refine JM_ald X hR50_ 23 rfl rfl (vp_in_nI (N := 40) (by omega) (by decide)) dX11_pass_64 ?_
              refine J_aload_0 X dX11_pass_65 ?_
              refine J_iload_3 X dX11_pass_66 ?_
              refine J_callV X (c_M_burns hR50_ hI50_ (nI k50) (vp_in_nI (N := 40) (by omega) (by decide))) (And.intro gw_5_178 cw_X11_burns) hR50_.1 rfl rfl rfl (Nat.le_of_ble_eq_true rfl) dX11_pass_67 rfl (J.pi ?_) JE.no
              have K70_78 : ∀ (v70_0 : Int32), v70_0 = (M_pass_j70 σ p1 k43 s43 k50 s50) → J K h50_ [some (.ref m), some (.int p1), some (.int (nI k43)), some (.int (nI k50))] [.int v70_0, .int (s50 23 (ix (nI k50))), .int (nI k50), .ref (ρ 23)] 78 0 0 := by
                intro v70_0 ev70_0
                try rw [ev70_0]
                clear ev70_0
                refine J_iadd X dX11_pass_78 ?_
                refine JM_ast X hR50_ 23 rfl rfl (vp_in_nI (N := 40) (by omega) (by decide)) dX11_pass_79 (fun h3 hR3 => ?_)
                have hI3 : Inv (sS s50 23 (ix (nI k50)) ((s50 23 (ix (nI k50))) + (M_pass_j70 σ p1 k43 s43 k50 s50))) := (Inv_sS hI50_ trivial)
                refine J_iinc_3 (v := (nI (k50 + 1))) X dX11_pass_80 (nI_1 _) rfl (by decide) ?_
                refine J_goto (tgt := 50) X dX11_pass_83 (by decide) ?_
                exact ih50 (k50 + 1) (sS s50 23 (ix (nI k50)) ((s50 23 (ix (nI k50))) + (M_pass_j70 σ p1 k43 s43 k50 s50))) h3 (by omega) hR3 hI3 hn50 ht50 q_v q_s
              have j70_0 : M_pass_j70 σ p1 k43 s43 k50 s50 = (if (M_burns s50 (nI k50)) = (0 : Int32) then (0 : Int32) else (1 : Int32)) := rfl
              refine J_if_eq (tgt := 77) X dX11_pass_70 (by decide) (fun c70 => ?_) (fun c70 => ?_)
              · skip
                rw [if_pos c70] at j70_0
                refine J_iconst (v := 0) X dX11_pass_77 rfl ?_
                exact K70_78 _ j70_0.symm
              · skip
                rw [if_neg c70] at j70_0
                refine J_iconst (v := 1) X dX11_pass_73 rfl ?_
                refine J_goto (tgt := 78) X dX11_pass_74 (by decide) ?_
                exact K70_78 _ j70_0.symm
          have q_v : (M_pass σ p1) = (M_pass_L50 σ p1 k43 s43 K50 (ix (σ 13 0)) 0 s43) := by rw [hK50]; exact q_v
          have q_s : (M_pass_s σ p1) = (M_pass_L50_s σ p1 k43 s43 K50s (ix (σ 13 0)) 0 s43) := by rw [hK50s]; exact q_s
          exact L50 (ix (σ 13 0)) 0 s43 h43_ (Nat.zero_add _) hR43_ hI43_ hn43 rfl q_v q_s
      have q_v : (M_pass σ p1) = (M_pass_L43 σ p1 K43 (ix p1) 0 (M_fails_s σ (M_pass_j9 σ p1))) := by rw [hK43]; exact q_v
      have q_s : (M_pass_s σ p1) = (M_pass_L43_s σ p1 K43s (ix p1) 0 (M_fails_s σ (M_pass_j9 σ p1))) := by rw [hK43s]; exact q_s
      exact L43 (ix p1) 0 (M_fails_s σ (M_pass_j9 σ p1)) h1 (Nat.zero_add _) hR1 hI1 (cnt (N := 20000) (hI 0 0) (by decide)).1 rfl q_v q_s
    · skip
      rw [if_neg c36] at q_v
      rw [if_neg c36] at q_s
      refine J_iconst (v := 0) X dX11_pass_39 rfl ?_
      exact J_iret X rfl rfl ⟨by rw [q_v], by rw [q_s]; exact hR1⟩ dX11_pass_40
  have j9_0 : M_pass_j9 σ p1 = (if (M_isIn p1 (1 : Int32) (500 : Int32)) = (0 : Int32) then (1 : Int32) else (if ((σ 0 0) + p1) ≤ (20000 : Int32) then (0 : Int32) else (2 : Int32))) := rfl
  refine J_if_ne (tgt := 16) X dX11_pass_9 (by decide) (fun c9 => ?_) (fun c9 => ?_)
  · skip
    rw [if_neg c9] at j9_0
    refine J_aload_0 X dX11_pass_16 ?_
    refine JM_get X hR 0 (by decide) rfl rfl gw_5_10 dX11_pass_17 ?_
    refine J_iload_1 X dX11_pass_20 ?_
    refine J_iadd X dX11_pass_21 ?_
    refine J_sipush (v := (20000 : Int32)) X dX11_pass_22 (by decide) ?_
    refine J_icmp_le (tgt := 32) X dX11_pass_25 (by decide) (fun c25 => ?_) (fun c25 => ?_)
    · skip
      rw [if_pos c25] at j9_0
      refine J_iconst (v := 0) X dX11_pass_32 rfl ?_
      exact K9_33 _ j9_0.symm
    · skip
      rw [if_neg c25] at j9_0
      refine J_iconst (v := 2) X dX11_pass_28 rfl ?_
      refine J_goto (tgt := 33) X dX11_pass_29 (by decide) ?_
      exact K9_33 _ j9_0.symm
  · skip
    rw [if_pos c9] at j9_0
    refine J_iconst (v := 1) X dX11_pass_12 rfl ?_
    refine J_goto (tgt := 33) X dX11_pass_13 (by decide) ?_
    exact K9_33 _ j9_0.symm
end
