noncomputable section
def M_given_j53 (σ : St) (p1 : Int32) (p2 : Int32) : Int32 := (if (M_isShaded σ p1 p2) = (0 : Int32) then (((((M_light σ p1) * ((10 : Int32) - (σ 18 (ix p1)))) / (10 : Int32)) * ((1 : Int32) <<< ((σ 17 (ix p1)) &&& 31))) / (M_distance σ p1 p2)) else ((((((M_light σ p1) * ((10 : Int32) - (σ 18 (ix p1)))) / (10 : Int32)) * ((1 : Int32) <<< ((σ 17 (ix p1)) &&& 31))) / (M_distance σ p1 p2)) / (2 : Int32)))
def M_given_j70 (σ : St) (p1 : Int32) (p2 : Int32) : Int32 := (if (σ 1 0) = (2 : Int32) then (5 : Int32) else ((1 : Int32) + (σ 1 0)))
def M_given (σ : St) (p1 : Int32) (p2 : Int32) : Int32 := (if (M_burns σ p1) = (0 : Int32) then (0 : Int32) else ((M_given_j53 σ p1 p2) * (M_given_j70 σ p1 p2)))
theorem cw_X11_given : Cond.instanceMethod yX11_given ∈ GW ∧ Cond.selects RX11 yX11_given yX11_given ∈ GW ∧ Cond.initialized RX11 ∈ GW ∧ Cond.code yX11_given cX11_given 4 (some .int) ∈ GW ∧ yX11_given.cls = RX11 ∧ (yX11_given.cls ≠ "java/lang/invoke/MethodHandle" ∧ yX11_given.cls ≠ "java/lang/invoke/VarHandle") ∧ (parseMethodDescriptor yX11_given.desc).map (fun d => d.parameters.length) = some 2 := ⟨gw_6_9, gws_32, gw_1_14, gw_6_10, rfl, ⟨by decide, by decide⟩, by decide +kernel⟩
set_option maxRecDepth 100000 in
set_option maxHeartbeats 4000000 in
theorem c_M_given {l : Launch} {D : va_G} {ca : Nat → Nat} {h : fH} {m : Nat} {ρ : Nat → Nat} {σ : St} (hR : RM ca h m ρ σ) (hI : Inv σ) (p1 : Int32) (p2 : Int32) (hp1 : vp_in p1 40) (hp2 : vp_in p2 64) : FM l D ca yX11_given (.code yX11_given cX11_given 4 (some .int)) { frames := 3, cells := 0, slots := 0, locals := 72 } [.ref m, .int p1, .int p2] h (pI (M_given σ p1 p2) h) noX := by
  refine FM.of [some (.ref m), some (.int p1), some (.int p2), none] (by decide) (Nat.le_of_ble_eq_true rfl) rfl ?_
  rintro K X rfl rfl rfl
  have q_v : (M_given σ p1 p2) = (if (M_burns σ p1) = (0 : Int32) then (0 : Int32) else ((M_given_j53 σ p1 p2) * (M_given_j70 σ p1 p2))) := rfl
  refine J_aload_0 X dX11_given_0 ?_
  refine J_iload_1 X dX11_given_1 ?_
  refine J_callV X (c_M_burns hR hI p1 hp1) (And.intro gw_5_178 cw_X11_burns) hR.1 rfl rfl rfl (Nat.le_of_ble_eq_true rfl) dX11_given_2 rfl (J.pi ?_) JE.no
  refine J_if_ne (tgt := 10) X dX11_given_5 (by decide) (fun c5 => ?_) (fun c5 => ?_)
  · skip
    rw [if_neg c5] at q_v
    refine J_aload_0 X dX11_given_10 ?_
    refine J_iload_1 X dX11_given_11 ?_
    refine J_callV X (c_M_light hR p1 hp1) (And.intro gw_6_11 cw_X11_light) hR.1 rfl rfl rfl (Nat.le_of_ble_eq_true rfl) dX11_given_12 rfl (J.pi ?_) JE.no
    refine J_bipush (v := (10 : Int32)) X dX11_given_15 (by decide) ?_
    refine J_aload_0 X dX11_given_17 ?_
    refine JM_get X hR 18 (by decide) rfl rfl gw_5_28 dX11_given_18 ?_
    refine J_iload_1 X dX11_given_21 ?_
    refine JM_ald X hR 18 rfl rfl hp1 dX11_given_22 ?_
    refine J_isub X dX11_given_23 ?_
    refine J_imul X dX11_given_24 ?_
    refine J_bipush (v := (10 : Int32)) X dX11_given_25 (by decide) ?_
    refine J_idiv X dX11_given_27 (by decide) ?_
    refine J_istore_3 X dX11_given_28 rfl (by decide) ?_
    refine J_iload_3 X dX11_given_29 ?_
    refine J_iconst (v := 1) X dX11_given_30 rfl ?_
    refine J_aload_0 X dX11_given_31 ?_
    refine JM_get X hR 17 (by decide) rfl rfl gw_5_27 dX11_given_32 ?_
    refine J_iload_1 X dX11_given_35 ?_
    refine JM_ald X hR 17 rfl rfl hp1 dX11_given_36 ?_
    refine J_ishl X dX11_given_37 ?_
    refine J_imul X dX11_given_38 ?_
    refine J_aload_0 X dX11_given_39 ?_
    refine J_iload_1 X dX11_given_40 ?_
    refine J_iload_2 X dX11_given_41 ?_
    refine J_callV X (c_M_distance hR p1 p2 hp1) (And.intro gw_6_15 cw_X11_distance) hR.1 rfl rfl rfl (Nat.le_of_ble_eq_true rfl) dX11_given_42 rfl (J.pi ?_) JE.no
    refine J_idiv X dX11_given_45 (distance_nz hI hp1 hp2) ?_
    refine J_istore_3 X dX11_given_46 rfl (by decide) ?_
    refine J_aload_0 X dX11_given_47 ?_
    refine J_iload_1 X dX11_given_48 ?_
    refine J_iload_2 X dX11_given_49 ?_
    refine J_callV X (c_M_isShaded hR hI p1 p2 hp1) (And.intro gw_6_19 cw_X11_isShaded) hR.1 rfl rfl rfl (Nat.le_of_ble_eq_true rfl) dX11_given_50 rfl (J.pi ?_) JE.no
    have K53_63 : ∀ (v53_0 : Int32), v53_0 = (M_given_j53 σ p1 p2) → J K h [some (.ref m), some (.int p1), some (.int p2), some (.int (((((M_light σ p1) * ((10 : Int32) - (σ 18 (ix p1)))) / (10 : Int32)) * ((1 : Int32) <<< ((σ 17 (ix p1)) &&& 31))) / (M_distance σ p1 p2)))] [.int v53_0] 63 0 0 := by
      intro v53_0 ev53_0
      try rw [ev53_0]
      clear ev53_0
      refine J_istore_3 X dX11_given_63 rfl (by decide) ?_
      refine J_iload_3 X dX11_given_64 ?_
      refine J_aload_0 X dX11_given_65 ?_
      refine JM_get X hR 1 (by decide) rfl rfl gw_5_11 dX11_given_66 ?_
      refine J_iconst (v := 2) X dX11_given_69 rfl ?_
      have K70_83 : ∀ (v70_0 : Int32), v70_0 = (M_given_j70 σ p1 p2) → J K h [some (.ref m), some (.int p1), some (.int p2), some (.int (M_given_j53 σ p1 p2))] [.int v70_0, .int (M_given_j53 σ p1 p2)] 83 0 0 := by
        intro v70_0 ev70_0
        try rw [ev70_0]
        clear ev70_0
        refine J_imul X dX11_given_83 ?_
        exact J_iret X rfl rfl ⟨by rw [q_v], rfl⟩ dX11_given_84
      have j70_0 : M_given_j70 σ p1 p2 = (if (σ 1 0) = (2 : Int32) then (5 : Int32) else ((1 : Int32) + (σ 1 0))) := rfl
      refine J_icmp_ne (tgt := 77) X dX11_given_70 (by decide) (fun c70 => ?_) (fun c70 => ?_)
      · skip
        rw [if_neg c70] at j70_0
        refine J_iconst (v := 1) X dX11_given_77 rfl ?_
        refine J_aload_0 X dX11_given_78 ?_
        refine JM_get X hR 1 (by decide) rfl rfl gw_5_11 dX11_given_79 ?_
        refine J_iadd X dX11_given_82 ?_
        exact K70_83 _ j70_0.symm
      · skip
        rw [if_pos c70] at j70_0
        refine J_iconst (v := 5) X dX11_given_73 rfl ?_
        refine J_goto (tgt := 83) X dX11_given_74 (by decide) ?_
        exact K70_83 _ j70_0.symm
    have j53_0 : M_given_j53 σ p1 p2 = (if (M_isShaded σ p1 p2) = (0 : Int32) then (((((M_light σ p1) * ((10 : Int32) - (σ 18 (ix p1)))) / (10 : Int32)) * ((1 : Int32) <<< ((σ 17 (ix p1)) &&& 31))) / (M_distance σ p1 p2)) else ((((((M_light σ p1) * ((10 : Int32) - (σ 18 (ix p1)))) / (10 : Int32)) * ((1 : Int32) <<< ((σ 17 (ix p1)) &&& 31))) / (M_distance σ p1 p2)) / (2 : Int32))) := rfl
    refine J_if_eq (tgt := 62) X dX11_given_53 (by decide) (fun c53 => ?_) (fun c53 => ?_)
    · skip
      rw [if_pos c53] at j53_0
      refine J_iload_3 X dX11_given_62 ?_
      exact K53_63 _ j53_0.symm
    · skip
      rw [if_neg c53] at j53_0
      refine J_iload_3 X dX11_given_56 ?_
      refine J_iconst (v := 2) X dX11_given_57 rfl ?_
      refine J_idiv X dX11_given_58 (by decide) ?_
      refine J_goto (tgt := 63) X dX11_given_59 (by decide) ?_
      exact K53_63 _ j53_0.symm
  · skip
    rw [if_pos c5] at q_v
    refine J_iconst (v := 0) X dX11_given_8 rfl ?_
    exact J_iret X rfl rfl ⟨by rw [q_v], rfl⟩ dX11_given_9
def M_direction_j51 (σ : St) (p1 : Int32) (p2 : Int32) : Int32 := (if (M_size (((σ 15 (ix p1)) - (σ 15 (ix p1)) / (8 : Int32) * (8 : Int32)) - (p2 - p2 / (8 : Int32) * (8 : Int32)))) < (M_size (((σ 15 (ix p1)) / (8 : Int32)) - (p2 / (8 : Int32)))) then (if (((σ 15 (ix p1)) / (8 : Int32)) - (p2 / (8 : Int32))) ≤ (0 : Int32) then (3 : Int32) else (2 : Int32)) else (if (((σ 15 (ix p1)) - (σ 15 (ix p1)) / (8 : Int32) * (8 : Int32)) - (p2 - p2 / (8 : Int32) * (8 : Int32))) ≤ (0 : Int32) then (1 : Int32) else (0 : Int32)))
def M_direction (σ : St) (p1 : Int32) (p2 : Int32) : Int32 := (if (((σ 15 (ix p1)) - (σ 15 (ix p1)) / (8 : Int32) * (8 : Int32)) - (p2 - p2 / (8 : Int32) * (8 : Int32))) = (0 : Int32) then (if (((σ 15 (ix p1)) / (8 : Int32)) - (p2 / (8 : Int32))) = (0 : Int32) then (4 : Int32) else (M_direction_j51 σ p1 p2)) else (M_direction_j51 σ p1 p2))
theorem cw_X11_direction : Cond.instanceMethod yX11_direction ∈ GW ∧ Cond.selects RX11 yX11_direction yX11_direction ∈ GW ∧ Cond.initialized RX11 ∈ GW ∧ Cond.code yX11_direction cX11_direction 5 (some .int) ∈ GW ∧ yX11_direction.cls = RX11 ∧ (yX11_direction.cls ≠ "java/lang/invoke/MethodHandle" ∧ yX11_direction.cls ≠ "java/lang/invoke/VarHandle") ∧ (parseMethodDescriptor yX11_direction.desc).map (fun d => d.parameters.length) = some 2 := ⟨gw_6_72, gws_37, gw_1_14, gw_6_73, rfl, ⟨by decide, by decide⟩, by decide +kernel⟩
set_option maxRecDepth 100000 in
set_option maxHeartbeats 4000000 in
theorem c_M_direction {l : Launch} {D : va_G} {ca : Nat → Nat} {h : fH} {m : Nat} {ρ : Nat → Nat} {σ : St} (hR : RM ca h m ρ σ) (hI : Inv σ) (p1 : Int32) (p2 : Int32) (hp1 : vp_in p1 40) : FM l D ca yX11_direction (.code yX11_direction cX11_direction 5 (some .int)) { frames := 2, cells := 0, slots := 0, locals := 40 } [.ref m, .int p1, .int p2] h (pI (M_direction σ p1 p2) h) noX := by
  refine FM.of [some (.ref m), some (.int p1), some (.int p2), none, none] (by decide) (Nat.le_of_ble_eq_true rfl) rfl ?_
  rintro K X rfl rfl rfl
  have q_v : (M_direction σ p1 p2) = (if (((σ 15 (ix p1)) - (σ 15 (ix p1)) / (8 : Int32) * (8 : Int32)) - (p2 - p2 / (8 : Int32) * (8 : Int32))) = (0 : Int32) then (if (((σ 15 (ix p1)) / (8 : Int32)) - (p2 / (8 : Int32))) = (0 : Int32) then (4 : Int32) else (M_direction_j51 σ p1 p2)) else (M_direction_j51 σ p1 p2)) := rfl
  refine J_aload_0 X dX11_direction_0 ?_
  refine JM_get X hR 15 (by decide) rfl rfl gw_5_25 dX11_direction_1 ?_
  refine J_iload_1 X dX11_direction_4 ?_
  refine JM_ald X hR 15 rfl rfl hp1 dX11_direction_5 ?_
  refine J_bipush (v := (8 : Int32)) X dX11_direction_6 (by decide) ?_
  refine J_irem X dX11_direction_8 (by decide) ?_
  refine J_iload_2 X dX11_direction_9 ?_
  refine J_bipush (v := (8 : Int32)) X dX11_direction_10 (by decide) ?_
  refine J_irem X dX11_direction_12 (by decide) ?_
  refine J_isub X dX11_direction_13 ?_
  refine J_istore_3 X dX11_direction_14 rfl (by decide) ?_
  refine J_aload_0 X dX11_direction_15 ?_
  refine JM_get X hR 15 (by decide) rfl rfl gw_5_25 dX11_direction_16 ?_
  refine J_iload_1 X dX11_direction_19 ?_
  refine JM_ald X hR 15 rfl rfl hp1 dX11_direction_20 ?_
  refine J_bipush (v := (8 : Int32)) X dX11_direction_21 (by decide) ?_
  refine J_idiv X dX11_direction_23 (by decide) ?_
  refine J_iload_2 X dX11_direction_24 ?_
  refine J_bipush (v := (8 : Int32)) X dX11_direction_25 (by decide) ?_
  refine J_idiv X dX11_direction_27 (by decide) ?_
  refine J_isub X dX11_direction_28 ?_
  refine J_istore_4 X dX11_direction_29 rfl (by decide) ?_
  refine J_iload_3 X dX11_direction_31 ?_
  refine J_if_ne (tgt := 42) X dX11_direction_32 (by decide) (fun c32 => ?_) (fun c32 => ?_)
  · skip
    rw [if_neg c32] at q_v
    refine J_iload_4 X dX11_direction_42 ?_
    refine J_callS X (c_M_size (((σ 15 (ix p1)) / (8 : Int32)) - (p2 / (8 : Int32)))) (And.intro gw_6_23 cw_X11_size) rfl rfl (Nat.le_of_ble_eq_true rfl) dX11_direction_44 rfl (J.pi ?_) JE.no
    refine J_iload_3 X dX11_direction_47 ?_
    refine J_callS X (c_M_size (((σ 15 (ix p1)) - (σ 15 (ix p1)) / (8 : Int32) * (8 : Int32)) - (p2 - p2 / (8 : Int32) * (8 : Int32)))) (And.intro gw_6_23 cw_X11_size) rfl rfl (Nat.le_of_ble_eq_true rfl) dX11_direction_48 rfl (J.pi ?_) JE.no
    have K51_76 : ∀ (v51_0 : Int32), v51_0 = (M_direction_j51 σ p1 p2) → J K h [some (.ref m), some (.int p1), some (.int p2), some (.int (((σ 15 (ix p1)) - (σ 15 (ix p1)) / (8 : Int32) * (8 : Int32)) - (p2 - p2 / (8 : Int32) * (8 : Int32)))), some (.int (((σ 15 (ix p1)) / (8 : Int32)) - (p2 / (8 : Int32))))] [.int v51_0] 76 0 0 := by
      intro v51_0 ev51_0
      try rw [ev51_0]
      clear ev51_0
      exact J_iret X rfl rfl ⟨by rw [q_v], rfl⟩ dX11_direction_76
    have j51_0 : M_direction_j51 σ p1 p2 = (if (M_size (((σ 15 (ix p1)) - (σ 15 (ix p1)) / (8 : Int32) * (8 : Int32)) - (p2 - p2 / (8 : Int32) * (8 : Int32)))) < (M_size (((σ 15 (ix p1)) / (8 : Int32)) - (p2 / (8 : Int32)))) then (if (((σ 15 (ix p1)) / (8 : Int32)) - (p2 / (8 : Int32))) ≤ (0 : Int32) then (3 : Int32) else (2 : Int32)) else (if (((σ 15 (ix p1)) - (σ 15 (ix p1)) / (8 : Int32) * (8 : Int32)) - (p2 - p2 / (8 : Int32) * (8 : Int32))) ≤ (0 : Int32) then (1 : Int32) else (0 : Int32))) := rfl
    refine J_icmp_gt (tgt := 66) X dX11_direction_51 (by decide) (fun c51 => ?_) (fun c51 => ?_)
    · skip
      rw [if_pos c51] at j51_0
      refine J_iload_4 X dX11_direction_66 ?_
      refine J_if_le (tgt := 75) X dX11_direction_68 (by decide) (fun c68 => ?_) (fun c68 => ?_)
      · skip
        rw [if_pos c68] at j51_0
        refine J_iconst (v := 3) X dX11_direction_75 rfl ?_
        exact K51_76 _ j51_0.symm
      · skip
        rw [if_neg c68] at j51_0
        refine J_iconst (v := 2) X dX11_direction_71 rfl ?_
        refine J_goto (tgt := 76) X dX11_direction_72 (by decide) ?_
        exact K51_76 _ j51_0.symm
    · skip
      rw [if_neg c51] at j51_0
      refine J_iload_3 X dX11_direction_54 ?_
      refine J_if_le (tgt := 62) X dX11_direction_55 (by decide) (fun c55 => ?_) (fun c55 => ?_)
      · skip
        rw [if_pos c55] at j51_0
        refine J_iconst (v := 1) X dX11_direction_62 rfl ?_
        refine J_goto (tgt := 76) X dX11_direction_63 (by decide) ?_
        exact K51_76 _ j51_0.symm
      · skip
        rw [if_neg c55] at j51_0
        refine J_iconst (v := 0) X dX11_direction_58 rfl ?_
        refine J_goto (tgt := 76) X dX11_direction_59 (by decide) ?_
        exact K51_76 _ j51_0.symm
  · skip
    rw [if_pos c32] at q_v
    refine J_iload_4 X dX11_direction_35 ?_
    refine J_if_ne (tgt := 42) X dX11_direction_37 (by decide) (fun c37 => ?_) (fun c37 => ?_)
    · skip
      rw [if_neg c37] at q_v
      refine J_iload_4 X dX11_direction_42 ?_
      refine J_callS X (c_M_size (((σ 15 (ix p1)) / (8 : Int32)) - (p2 / (8 : Int32)))) (And.intro gw_6_23 cw_X11_size) rfl rfl (Nat.le_of_ble_eq_true rfl) dX11_direction_44 rfl (J.pi ?_) JE.no
      refine J_iload_3 X dX11_direction_47 ?_
      refine J_callS X (c_M_size (((σ 15 (ix p1)) - (σ 15 (ix p1)) / (8 : Int32) * (8 : Int32)) - (p2 - p2 / (8 : Int32) * (8 : Int32)))) (And.intro gw_6_23 cw_X11_size) rfl rfl (Nat.le_of_ble_eq_true rfl) dX11_direction_48 rfl (J.pi ?_) JE.no
      have K51_76 : ∀ (v51_0 : Int32), v51_0 = (M_direction_j51 σ p1 p2) → J K h [some (.ref m), some (.int p1), some (.int p2), some (.int (((σ 15 (ix p1)) - (σ 15 (ix p1)) / (8 : Int32) * (8 : Int32)) - (p2 - p2 / (8 : Int32) * (8 : Int32)))), some (.int (((σ 15 (ix p1)) / (8 : Int32)) - (p2 / (8 : Int32))))] [.int v51_0] 76 0 0 := by
        intro v51_0 ev51_0
        try rw [ev51_0]
        clear ev51_0
        exact J_iret X rfl rfl ⟨by rw [q_v], rfl⟩ dX11_direction_76
      have j51_0 : M_direction_j51 σ p1 p2 = (if (M_size (((σ 15 (ix p1)) - (σ 15 (ix p1)) / (8 : Int32) * (8 : Int32)) - (p2 - p2 / (8 : Int32) * (8 : Int32)))) < (M_size (((σ 15 (ix p1)) / (8 : Int32)) - (p2 / (8 : Int32)))) then (if (((σ 15 (ix p1)) / (8 : Int32)) - (p2 / (8 : Int32))) ≤ (0 : Int32) then (3 : Int32) else (2 : Int32)) else (if (((σ 15 (ix p1)) - (σ 15 (ix p1)) / (8 : Int32) * (8 : Int32)) - (p2 - p2 / (8 : Int32) * (8 : Int32))) ≤ (0 : Int32) then (1 : Int32) else (0 : Int32))) := rfl
      refine J_icmp_gt (tgt := 66) X dX11_direction_51 (by decide) (fun c51 => ?_) (fun c51 => ?_)
      · skip
        rw [if_pos c51] at j51_0
        refine J_iload_4 X dX11_direction_66 ?_
        refine J_if_le (tgt := 75) X dX11_direction_68 (by decide) (fun c68 => ?_) (fun c68 => ?_)
        · skip
          rw [if_pos c68] at j51_0
          refine J_iconst (v := 3) X dX11_direction_75 rfl ?_
          exact K51_76 _ j51_0.symm
        · skip
          rw [if_neg c68] at j51_0
          refine J_iconst (v := 2) X dX11_direction_71 rfl ?_
          refine J_goto (tgt := 76) X dX11_direction_72 (by decide) ?_
          exact K51_76 _ j51_0.symm
      · skip
        rw [if_neg c51] at j51_0
        refine J_iload_3 X dX11_direction_54 ?_
        refine J_if_le (tgt := 62) X dX11_direction_55 (by decide) (fun c55 => ?_) (fun c55 => ?_)
        · skip
          rw [if_pos c55] at j51_0
          refine J_iconst (v := 1) X dX11_direction_62 rfl ?_
          refine J_goto (tgt := 76) X dX11_direction_63 (by decide) ?_
          exact K51_76 _ j51_0.symm
        · skip
          rw [if_neg c55] at j51_0
          refine J_iconst (v := 0) X dX11_direction_58 rfl ?_
          refine J_goto (tgt := 76) X dX11_direction_59 (by decide) ?_
          exact K51_76 _ j51_0.symm
    · skip
      rw [if_pos c37] at q_v
      refine J_iconst (v := 4) X dX11_direction_40 rfl ?_
      exact J_iret X rfl rfl ⟨by rw [q_v], rfl⟩ dX11_direction_41
def M_glowOf_L4 (σ : St) (p1 : Int32) (K4 : Int32 → Int32) : Nat → Nat → Int32 → Int32
  | 0, _, a4_2 => K4 a4_2
  | n4 + 1, k4, a4_2 => (M_glowOf_L4 σ p1 K4 n4 (k4 + 1) (a4_2 + (M_given σ (nI k4) p1)))
def M_glowOf (σ : St) (p1 : Int32) : Int32 := (M_glowOf_L4 σ p1 (fun a4_2 => a4_2) (ix (σ 13 0)) 0 (0 : Int32))
theorem cw_X11_glowOf : Cond.instanceMethod yX11_glowOf ∈ GW ∧ Cond.selects RX11 yX11_glowOf yX11_glowOf ∈ GW ∧ Cond.initialized RX11 ∈ GW ∧ Cond.code yX11_glowOf cX11_glowOf 4 (some .int) ∈ GW ∧ yX11_glowOf.cls = RX11 ∧ (yX11_glowOf.cls ≠ "java/lang/invoke/MethodHandle" ∧ yX11_glowOf.cls ≠ "java/lang/invoke/VarHandle") ∧ (parseMethodDescriptor yX11_glowOf.desc).map (fun d => d.parameters.length) = some 1 := ⟨gw_6_5, gws_31, gw_1_14, gw_6_6, rfl, ⟨by decide, by decide⟩, by decide +kernel⟩
set_option maxRecDepth 100000 in
set_option maxHeartbeats 4000000 in
theorem c_M_glowOf {l : Launch} {D : va_G} {ca : Nat → Nat} {h : fH} {m : Nat} {ρ : Nat → Nat} {σ : St} (hR : RM ca h m ρ σ) (hI : Inv σ) (p1 : Int32) (hp1 : vp_in p1 64) : FM l D ca yX11_glowOf (.code yX11_glowOf cX11_glowOf 4 (some .int)) { frames := 4, cells := 0, slots := 0, locals := 95 } [.ref m, .int p1] h (pI (M_glowOf σ p1) h) noX := by
  refine FM.of [some (.ref m), some (.int p1), none, none] (by decide) (Nat.le_of_ble_eq_true rfl) rfl ?_
  rintro K X rfl rfl rfl
  have q_v : (M_glowOf σ p1) = (M_glowOf_L4 σ p1 (fun a4_2 => a4_2) (ix (σ 13 0)) 0 (0 : Int32)) := rfl
  refine J_iconst (v := 0) X dX11_glowOf_0 rfl ?_
  refine J_istore_2 X dX11_glowOf_1 rfl (by decide) ?_
  refine J_iconst (v := 0) X dX11_glowOf_2 rfl ?_
  refine J_istore_3 X dX11_glowOf_3 rfl (by decide) ?_
  have hle := (cnt (N := 40) (hI 13 0) (by decide)).2
  obtain ⟨K4, hK4⟩ : ∃ f : Int32 → Int32, f = (fun a4_2 => a4_2) := ⟨_, rfl⟩
  have X4 : ∀ (a4_2 : Int32) (_ : True), (M_glowOf σ p1) = a4_2 → J K h [some (.ref m), some (.int p1), some (.int a4_2), none] [] 27 0 0 := by
    intro a4_2  _  q_v
    refine J_iload_2 X dX11_glowOf_27 ?_
    exact J_iret X rfl rfl ⟨by rw [q_v], rfl⟩ dX11_glowOf_28
  have L4 : ∀ (n4 k4 : Nat) (a4_2 : Int32), k4 + n4 = ix (σ 13 0) → (M_glowOf σ p1) = (M_glowOf_L4 σ p1 K4 n4 k4 a4_2) → J K h [some (.ref m), some (.int p1), some (.int a4_2), some (.int (nI k4))] [] 4 0 0 := by
    intro n4
    induction n4 with
    | zero =>
      intro k4 a4_2  hk4  q_v
      rw [M_glowOf_L4] at q_v
      refine J_iload_3 X dX11_glowOf_4 ?_
      refine J_aload_0 X dX11_glowOf_5 ?_
      refine JM_get X hR 13 (by decide) rfl rfl gw_5_23 dX11_glowOf_6 ?_
      refine J_icmp_ge (tgt := 27) X dX11_glowOf_9 (by decide) (fun _ => ?_) (fun c => absurd (lp_exit (cnt (N := 40) (hI 13 0) (by decide)).1 (by have := (cnt (N := 40) (hI 13 0) (by decide)).2; omega) hk4) c)
      rw [hK4] at q_v
      refine J.subL (lv' := [some (.ref m), some (.int p1), some (.int a4_2), none]) (And.intro rfl (And.intro rfl (And.intro rfl trivial))) ?_
      exact X4 a4_2  trivial  q_v
    | succ n4 ih4 =>
      intro k4 a4_2  hk4  q_v
      rw [M_glowOf_L4] at q_v
      have hlt4 : k4 < ix (σ 13 0) := by omega
      refine J_iload_3 X dX11_glowOf_4 ?_
      refine J_aload_0 X dX11_glowOf_5 ?_
      refine JM_get X hR 13 (by decide) rfl rfl gw_5_23 dX11_glowOf_6 ?_
      refine J_icmp_ge (tgt := 27) X dX11_glowOf_9 (by decide) (fun c => absurd c (lp_stay (cnt (N := 40) (hI 13 0) (by decide)).1 (by have := (cnt (N := 40) (hI 13 0) (by decide)).2; omega) hk4)) (fun _ => ?_)
      refine J_iload_2 X dX11_glowOf_12 ?_
      refine J_aload_0 X dX11_glowOf_13 ?_
      refine J_iload_3 X dX11_glowOf_14 ?_
      refine J_iload_1 X dX11_glowOf_15 ?_
      refine J_callV X (c_M_given hR hI (nI k4) p1 (vp_in_nI (N := 40) (by omega) (by decide)) hp1) (And.intro gw_6_7 cw_X11_given) hR.1 rfl rfl rfl (Nat.le_of_ble_eq_true rfl) dX11_glowOf_16 rfl (J.pi ?_) JE.no
      refine J_iadd X dX11_glowOf_19 ?_
      refine J_istore_2 X dX11_glowOf_20 rfl (by decide) ?_
      refine J_iinc_3 (v := (nI (k4 + 1))) X dX11_glowOf_21 (nI_1 _) rfl (by decide) ?_
      refine J_goto (tgt := 4) X dX11_glowOf_24 (by decide) ?_
      exact ih4 (k4 + 1) (a4_2 + (M_given σ (nI k4) p1))  (by omega)  q_v
  have q_v : (M_glowOf σ p1) = (M_glowOf_L4 σ p1 K4 (ix (σ 13 0)) 0 (0 : Int32)) := by rw [hK4]; exact q_v
  exact L4 (ix (σ 13 0)) 0 (0 : Int32)  (Nat.zero_add _)  q_v
def M_groundOf_j18 (σ : St) (p1 : Int32) (k4 : Nat) (a4_2 : Int32) : Int32 := (if (M_burns σ (nI k4)) = (0 : Int32) then (0 : Int32) else ((M_light σ (nI k4)) / (M_distance σ (nI k4) p1)))
def M_groundOf_L4 (σ : St) (p1 : Int32) (K4 : Int32 → Int32) : Nat → Nat → Int32 → Int32
  | 0, _, a4_2 => K4 a4_2
  | n4 + 1, k4, a4_2 => (M_groundOf_L4 σ p1 K4 n4 (k4 + 1) (a4_2 + (M_groundOf_j18 σ p1 k4 a4_2)))
def M_groundOf (σ : St) (p1 : Int32) : Int32 := (M_groundOf_L4 σ p1 (fun a4_2 => a4_2) (ix (σ 13 0)) 0 (0 : Int32))
theorem cw_X11_groundOf : Cond.instanceMethod yX11_groundOf ∈ GW ∧ Cond.selects RX11 yX11_groundOf yX11_groundOf ∈ GW ∧ Cond.initialized RX11 ∈ GW ∧ Cond.code yX11_groundOf cX11_groundOf 4 (some .int) ∈ GW ∧ yX11_groundOf.cls = RX11 ∧ (yX11_groundOf.cls ≠ "java/lang/invoke/MethodHandle" ∧ yX11_groundOf.cls ≠ "java/lang/invoke/VarHandle") ∧ (parseMethodDescriptor yX11_groundOf.desc).map (fun d => d.parameters.length) = some 1 := ⟨gw_6_80, gws_38, gw_1_14, gw_6_81, rfl, ⟨by decide, by decide⟩, by decide +kernel⟩
set_option maxRecDepth 100000 in
set_option maxHeartbeats 4000000 in
theorem c_M_groundOf {l : Launch} {D : va_G} {ca : Nat → Nat} {h : fH} {m : Nat} {ρ : Nat → Nat} {σ : St} (hR : RM ca h m ρ σ) (hI : Inv σ) (p1 : Int32) (hp1 : vp_in p1 64) : FM l D ca yX11_groundOf (.code yX11_groundOf cX11_groundOf 4 (some .int)) { frames := 2, cells := 0, slots := 0, locals := 46 } [.ref m, .int p1] h (pI (M_groundOf σ p1) h) noX := by
  refine FM.of [some (.ref m), some (.int p1), none, none] (by decide) (Nat.le_of_ble_eq_true rfl) rfl ?_
  rintro K X rfl rfl rfl
  have q_v : (M_groundOf σ p1) = (M_groundOf_L4 σ p1 (fun a4_2 => a4_2) (ix (σ 13 0)) 0 (0 : Int32)) := rfl
  refine J_iconst (v := 0) X dX11_groundOf_0 rfl ?_
  refine J_istore_2 X dX11_groundOf_1 rfl (by decide) ?_
  refine J_iconst (v := 0) X dX11_groundOf_2 rfl ?_
  refine J_istore_3 X dX11_groundOf_3 rfl (by decide) ?_
  have hle := (cnt (N := 40) (hI 13 0) (by decide)).2
  obtain ⟨K4, hK4⟩ : ∃ f : Int32 → Int32, f = (fun a4_2 => a4_2) := ⟨_, rfl⟩
  have X4 : ∀ (a4_2 : Int32) (_ : True), (M_groundOf σ p1) = a4_2 → J K h [some (.ref m), some (.int p1), some (.int a4_2), none] [] 45 0 0 := by
    intro a4_2  _  q_v
    refine J_iload_2 X dX11_groundOf_45 ?_
    exact J_iret X rfl rfl ⟨by rw [q_v], rfl⟩ dX11_groundOf_46
  have L4 : ∀ (n4 k4 : Nat) (a4_2 : Int32), k4 + n4 = ix (σ 13 0) → (M_groundOf σ p1) = (M_groundOf_L4 σ p1 K4 n4 k4 a4_2) → J K h [some (.ref m), some (.int p1), some (.int a4_2), some (.int (nI k4))] [] 4 0 0 := by
    intro n4
    induction n4 with
    | zero =>
      intro k4 a4_2  hk4  q_v
      rw [M_groundOf_L4] at q_v
      refine J_iload_3 X dX11_groundOf_4 ?_
      refine J_aload_0 X dX11_groundOf_5 ?_
      refine JM_get X hR 13 (by decide) rfl rfl gw_5_23 dX11_groundOf_6 ?_
      refine J_icmp_ge (tgt := 45) X dX11_groundOf_9 (by decide) (fun _ => ?_) (fun c => absurd (lp_exit (cnt (N := 40) (hI 13 0) (by decide)).1 (by have := (cnt (N := 40) (hI 13 0) (by decide)).2; omega) hk4) c)
      rw [hK4] at q_v
      refine J.subL (lv' := [some (.ref m), some (.int p1), some (.int a4_2), none]) (And.intro rfl (And.intro rfl (And.intro rfl trivial))) ?_
      exact X4 a4_2  trivial  q_v
    | succ n4 ih4 =>
      intro k4 a4_2  hk4  q_v
      rw [M_groundOf_L4] at q_v
      have hlt4 : k4 < ix (σ 13 0) := by omega
      refine J_iload_3 X dX11_groundOf_4 ?_
      refine J_aload_0 X dX11_groundOf_5 ?_
      refine JM_get X hR 13 (by decide) rfl rfl gw_5_23 dX11_groundOf_6 ?_
      refine J_icmp_ge (tgt := 45) X dX11_groundOf_9 (by decide) (fun c => absurd c (lp_stay (cnt (N := 40) (hI 13 0) (by decide)).1 (by have := (cnt (N := 40) (hI 13 0) (by decide)).2; omega) hk4)) (fun _ => ?_)
      refine J_iload_2 X dX11_groundOf_12 ?_
      refine J_aload_0 X dX11_groundOf_13 ?_
      refine J_iload_3 X dX11_groundOf_14 ?_
      refine J_callV X (c_M_burns hR hI (nI k4) (vp_in_nI (N := 40) (by omega) (by decide))) (And.intro gw_5_178 cw_X11_burns) hR.1 rfl rfl rfl (Nat.le_of_ble_eq_true rfl) dX11_groundOf_15 rfl (J.pi ?_) JE.no
      have K18_37 : ∀ (v18_0 : Int32), v18_0 = (M_groundOf_j18 σ p1 k4 a4_2) → J K h [some (.ref m), some (.int p1), some (.int a4_2), some (.int (nI k4))] [.int v18_0, .int a4_2] 37 0 0 := by
        intro v18_0 ev18_0
        try rw [ev18_0]
        clear ev18_0
        refine J_iadd X dX11_groundOf_37 ?_
        refine J_istore_2 X dX11_groundOf_38 rfl (by decide) ?_
        refine J_iinc_3 (v := (nI (k4 + 1))) X dX11_groundOf_39 (nI_1 _) rfl (by decide) ?_
        refine J_goto (tgt := 4) X dX11_groundOf_42 (by decide) ?_
        exact ih4 (k4 + 1) (a4_2 + (M_groundOf_j18 σ p1 k4 a4_2))  (by omega)  q_v
      have j18_0 : M_groundOf_j18 σ p1 k4 a4_2 = (if (M_burns σ (nI k4)) = (0 : Int32) then (0 : Int32) else ((M_light σ (nI k4)) / (M_distance σ (nI k4) p1))) := rfl
      refine J_if_eq (tgt := 36) X dX11_groundOf_18 (by decide) (fun c18 => ?_) (fun c18 => ?_)
      · skip
        rw [if_pos c18] at j18_0
        refine J_iconst (v := 0) X dX11_groundOf_36 rfl ?_
        exact K18_37 _ j18_0.symm
      · skip
        rw [if_neg c18] at j18_0
        refine J_aload_0 X dX11_groundOf_21 ?_
        refine J_iload_3 X dX11_groundOf_22 ?_
        refine J_callV X (c_M_light hR (nI k4) (vp_in_nI (N := 40) (by omega) (by decide))) (And.intro gw_6_11 cw_X11_light) hR.1 rfl rfl rfl (Nat.le_of_ble_eq_true rfl) dX11_groundOf_23 rfl (J.pi ?_) JE.no
        refine J_aload_0 X dX11_groundOf_26 ?_
        refine J_iload_3 X dX11_groundOf_27 ?_
        refine J_iload_1 X dX11_groundOf_28 ?_
        refine J_callV X (c_M_distance hR (nI k4) p1 (vp_in_nI (N := 40) (by omega) (by decide))) (And.intro gw_6_15 cw_X11_distance) hR.1 rfl rfl rfl (Nat.le_of_ble_eq_true rfl) dX11_groundOf_29 rfl (J.pi ?_) JE.no
        refine J_idiv X dX11_groundOf_32 (distance_nz hI (vp_in_nI (by omega) (by decide)) hp1) ?_
        refine J_goto (tgt := 37) X dX11_groundOf_33 (by decide) ?_
        exact K18_37 _ j18_0.symm
  have q_v : (M_groundOf σ p1) = (M_groundOf_L4 σ p1 K4 (ix (σ 13 0)) 0 (0 : Int32)) := by rw [hK4]; exact q_v
  exact L4 (ix (σ 13 0)) 0 (0 : Int32)  (Nat.zero_add _)  q_v
def M_moon_j13 (p1 : Int32) : Int32 := (if (M_isIn (p1 - p1 / (24 : Int32) * (24 : Int32)) (6 : Int32) (17 : Int32)) = (0 : Int32) then ((4 : Int32) * ((15 : Int32) - (M_size ((15 : Int32) - ((p1 / (24 : Int32)) - (p1 / (24 : Int32)) / (30 : Int32) * (30 : Int32)))))) else (0 : Int32))
def M_moon (p1 : Int32) : Int32 := (M_moon_j13 p1)
theorem cw_X11_moon : Cond.static yX11_moon ∈ GW ∧ Cond.initialized yX11_moon.cls ∈ GW ∧ Cond.code yX11_moon cX11_moon 2 (some .int) ∈ GW ∧ (yX11_moon.cls ≠ "java/lang/invoke/MethodHandle" ∧ yX11_moon.cls ≠ "java/lang/invoke/VarHandle") ∧ (parseMethodDescriptor yX11_moon.desc).map (fun d => d.parameters.length) = some 1 := ⟨gw_6_27, gw_1_14, gw_6_28, ⟨by decide, by decide⟩, by decide +kernel⟩
set_option maxRecDepth 100000 in
set_option maxHeartbeats 4000000 in
theorem c_M_moon {l : Launch} {D : va_G} {ca : Nat → Nat} {h : fH} (p1 : Int32) : FM l D ca yX11_moon (.code yX11_moon cX11_moon 2 (some .int)) { frames := 2, cells := 0, slots := 0, locals := 42 } [.int p1] h (pI (M_moon p1) h) noX := by
  refine FM.of [some (.int p1), none] (by decide) (Nat.le_of_ble_eq_true rfl) rfl ?_
  rintro K X rfl rfl rfl
  have q_v : (M_moon p1) = (M_moon_j13 p1) := rfl
  refine J_iload_0 X dX11_moon_0 ?_
  refine J_bipush (v := (24 : Int32)) X dX11_moon_1 (by decide) ?_
  refine J_irem X dX11_moon_3 (by decide) ?_
  refine J_istore_1 X dX11_moon_4 rfl (by decide) ?_
  refine J_iload_1 X dX11_moon_5 ?_
  refine J_bipush (v := (6 : Int32)) X dX11_moon_6 (by decide) ?_
  refine J_bipush (v := (17 : Int32)) X dX11_moon_8 (by decide) ?_
  refine J_callS X (c_M_isIn (p1 - p1 / (24 : Int32) * (24 : Int32)) (6 : Int32) (17 : Int32)) (And.intro gw_5_148 cw_X11_isIn) rfl rfl (Nat.le_of_ble_eq_true rfl) dX11_moon_10 rfl (J.pi ?_) JE.no
  have K13_38 : ∀ (v13_0 : Int32), v13_0 = (M_moon_j13 p1) → J K h [some (.int p1), some (.int (p1 - p1 / (24 : Int32) * (24 : Int32)))] [.int v13_0] 38 0 0 := by
    intro v13_0 ev13_0
    try rw [ev13_0]
    clear ev13_0
    exact J_iret X rfl rfl ⟨by rw [q_v], rfl⟩ dX11_moon_38
  have j13_0 : M_moon_j13 p1 = (if (M_isIn (p1 - p1 / (24 : Int32) * (24 : Int32)) (6 : Int32) (17 : Int32)) = (0 : Int32) then ((4 : Int32) * ((15 : Int32) - (M_size ((15 : Int32) - ((p1 / (24 : Int32)) - (p1 / (24 : Int32)) / (30 : Int32) * (30 : Int32)))))) else (0 : Int32)) := rfl
  refine J_if_eq (tgt := 20) X dX11_moon_13 (by decide) (fun c13 => ?_) (fun c13 => ?_)
  · skip
    rw [if_pos c13] at j13_0
    refine J_iconst (v := 4) X dX11_moon_20 rfl ?_
    refine J_bipush (v := (15 : Int32)) X dX11_moon_21 (by decide) ?_
    refine J_bipush (v := (15 : Int32)) X dX11_moon_23 (by decide) ?_
    refine J_iload_0 X dX11_moon_25 ?_
    refine J_bipush (v := (24 : Int32)) X dX11_moon_26 (by decide) ?_
    refine J_idiv X dX11_moon_28 (by decide) ?_
    refine J_bipush (v := (30 : Int32)) X dX11_moon_29 (by decide) ?_
    refine J_irem X dX11_moon_31 (by decide) ?_
    refine J_isub X dX11_moon_32 ?_
    refine J_callS X (c_M_size ((15 : Int32) - ((p1 / (24 : Int32)) - (p1 / (24 : Int32)) / (30 : Int32) * (30 : Int32)))) (And.intro gw_6_23 cw_X11_size) rfl rfl (Nat.le_of_ble_eq_true rfl) dX11_moon_33 rfl (J.pi ?_) JE.no
    refine J_isub X dX11_moon_36 ?_
    refine J_imul X dX11_moon_37 ?_
    exact K13_38 _ j13_0.symm
  · skip
    rw [if_neg c13] at j13_0
    refine J_iconst (v := 0) X dX11_moon_16 rfl ?_
    refine J_goto (tgt := 38) X dX11_moon_17 (by decide) ?_
    exact K13_38 _ j13_0.symm
theorem rowix {m k : Int32} (hm : vp_in m 8) (hk : vp_in k 10) : vp_in (10 * m + k) 80 := by
  rw [vp_nI' hm (by decide), vp_nI' hk (by decide)]
  have h1 := vp_lt hm
  have h2 := vp_lt hk
  rw [show (10 : Int32) = nI 10 from rfl, pk_mul, nI_add]
  exact vp_in_nI (by omega) (by decide)
def M_corrected (σ : St) (p1 : Int32) (p2 : Int32) : Int32 := ((((σ 33 (ix (((10 : Int32) * p1) + p2))) - (M_moon (σ 32 (ix (((10 : Int32) * p1) + p2))))) - (20 : Int32)) - (σ 30 (ix p1)))
theorem cw_X11_corrected : Cond.instanceMethod yX11_corrected ∈ GW ∧ Cond.selects RX11 yX11_corrected yX11_corrected ∈ GW ∧ Cond.initialized RX11 ∈ GW ∧ Cond.code yX11_corrected cX11_corrected 3 (some .int) ∈ GW ∧ yX11_corrected.cls = RX11 ∧ (yX11_corrected.cls ≠ "java/lang/invoke/MethodHandle" ∧ yX11_corrected.cls ≠ "java/lang/invoke/VarHandle") ∧ (parseMethodDescriptor yX11_corrected.desc).map (fun d => d.parameters.length) = some 2 := ⟨gw_6_40, gws_36, gw_1_14, gw_6_41, rfl, ⟨by decide, by decide⟩, by decide +kernel⟩
set_option maxRecDepth 100000 in
set_option maxHeartbeats 4000000 in
theorem c_M_corrected {l : Launch} {D : va_G} {ca : Nat → Nat} {h : fH} {m : Nat} {ρ : Nat → Nat} {σ : St} (hR : RM ca h m ρ σ) (p1 : Int32) (p2 : Int32) (hp1 : vp_in p1 8) (hp2 : vp_in p2 10) : FM l D ca yX11_corrected (.code yX11_corrected cX11_corrected 3 (some .int)) { frames := 3, cells := 0, slots := 0, locals := 63 } [.ref m, .int p1, .int p2] h (pI (M_corrected σ p1 p2) h) noX := by
  refine FM.of [some (.ref m), some (.int p1), some (.int p2)] (by decide) (Nat.le_of_ble_eq_true rfl) rfl ?_
  rintro K X rfl rfl rfl
  have q_v : (M_corrected σ p1 p2) = ((((σ 33 (ix (((10 : Int32) * p1) + p2))) - (M_moon (σ 32 (ix (((10 : Int32) * p1) + p2))))) - (20 : Int32)) - (σ 30 (ix p1))) := rfl
  refine J_aload_0 X dX11_corrected_0 ?_
  refine JM_get X hR 33 (by decide) rfl rfl gw_5_43 dX11_corrected_1 ?_
  refine J_bipush (v := (10 : Int32)) X dX11_corrected_4 (by decide) ?_
  refine J_iload_1 X dX11_corrected_6 ?_
  refine J_imul X dX11_corrected_7 ?_
  refine J_iload_2 X dX11_corrected_8 ?_
  refine J_iadd X dX11_corrected_9 ?_
  refine JM_ald X hR 33 rfl rfl (rowix hp1 hp2) dX11_corrected_10 ?_
  refine J_aload_0 X dX11_corrected_11 ?_
  refine JM_get X hR 32 (by decide) rfl rfl gw_5_42 dX11_corrected_12 ?_
  refine J_bipush (v := (10 : Int32)) X dX11_corrected_15 (by decide) ?_
  refine J_iload_1 X dX11_corrected_17 ?_
  refine J_imul X dX11_corrected_18 ?_
  refine J_iload_2 X dX11_corrected_19 ?_
  refine J_iadd X dX11_corrected_20 ?_
  refine JM_ald X hR 32 rfl rfl (rowix hp1 hp2) dX11_corrected_21 ?_
  refine J_callS X (c_M_moon (σ 32 (ix (((10 : Int32) * p1) + p2)))) (And.intro gw_6_26 cw_X11_moon) rfl rfl (Nat.le_of_ble_eq_true rfl) dX11_corrected_22 rfl (J.pi ?_) JE.no
  refine J_isub X dX11_corrected_25 ?_
  refine J_bipush (v := (20 : Int32)) X dX11_corrected_26 (by decide) ?_
  refine J_isub X dX11_corrected_28 ?_
  refine J_aload_0 X dX11_corrected_29 ?_
  refine JM_get X hR 30 (by decide) rfl rfl gw_5_40 dX11_corrected_30 ?_
  refine J_iload_1 X dX11_corrected_33 ?_
  refine JM_ald X hR 30 rfl rfl hp1 dX11_corrected_34 ?_
  refine J_isub X dX11_corrected_35 ?_
  exact J_iret X rfl rfl ⟨by rw [q_v], rfl⟩ dX11_corrected_36
end
