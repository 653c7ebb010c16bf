noncomputable section
def M_lampsOf_j20 (σ : St) (p1 : Int32) (k4 : Nat) (a4_2 : Int32) : Int32 := (if (σ 14 (ix (nI k4))) = p1 then (1 : Int32) else (0 : Int32))
theorem M_lampsOf_j20_b (σ : St) (p1 : Int32) (k4 : Nat) (a4_2 : Int32) : M_lampsOf_j20 σ p1 k4 a4_2 = 0 ∨ M_lampsOf_j20 σ p1 k4 a4_2 = 1 := by
  unfold M_lampsOf_j20
  (repeat' split) <;> first | exact Or.inl rfl | exact Or.inr rfl
def M_lampsOf_L4 (σ : St) (p1 : Int32) (K4 : Int32 → Int32) : Nat → Nat → Int32 → Int32
  | 0, _, a4_2 => K4 a4_2
  | n4 + 1, k4, a4_2 => (M_lampsOf_L4 σ p1 K4 n4 (k4 + 1) (a4_2 + (M_lampsOf_j20 σ p1 k4 a4_2)))
def M_lampsOf (σ : St) (p1 : Int32) : Int32 := (M_lampsOf_L4 σ p1 (fun a4_2 => a4_2) (ix (σ 13 0)) 0 (0 : Int32))
theorem cw_X11_lampsOf : Cond.instanceMethod yX11_lampsOf ∈ GW ∧ Cond.selects RX11 yX11_lampsOf yX11_lampsOf ∈ GW ∧ Cond.initialized RX11 ∈ GW ∧ Cond.code yX11_lampsOf cX11_lampsOf 4 (some .int) ∈ GW ∧ yX11_lampsOf.cls = RX11 ∧ (yX11_lampsOf.cls ≠ "java/lang/invoke/MethodHandle" ∧ yX11_lampsOf.cls ≠ "java/lang/invoke/VarHandle") ∧ (parseMethodDescriptor yX11_lampsOf.desc).map (fun d => d.parameters.length) = some 1 := ⟨gw_5_196, gws_26, gw_1_14, gw_5_197, rfl, ⟨by decide, by decide⟩, by decide +kernel⟩
set_option maxRecDepth 100000 in
set_option maxHeartbeats 4000000 in
theorem c_M_lampsOf {l : Launch} {D : va_G} {ca : Nat → Nat} {h : fH} {m : Nat} {ρ : Nat → Nat} {σ : St} (hR : RM ca h m ρ σ) (hI : Inv σ) (p1 : Int32) : FM l D ca yX11_lampsOf (.code yX11_lampsOf cX11_lampsOf 4 (some .int)) { frames := 1, cells := 0, slots := 0, locals := 20 } [.ref m, .int p1] h (pI (M_lampsOf σ p1) h) noX := by
  refine FM.of [some (.ref m), some (.int p1), none, none] (by decide) (Nat.le_of_ble_eq_true rfl) rfl ?_
  rintro K X rfl rfl rfl
  have q_v : (M_lampsOf σ p1) = (M_lampsOf_L4 σ p1 (fun a4_2 => a4_2) (ix (σ 13 0)) 0 (0 : Int32)) := rfl
  refine J_iconst (v := 0) X dX11_lampsOf_0 rfl ?_
  refine J_istore_2 X dX11_lampsOf_1 rfl (by decide) ?_
  refine J_iconst (v := 0) X dX11_lampsOf_2 rfl ?_
  refine J_istore_3 X dX11_lampsOf_3 rfl (by decide) ?_
  have hle := (cnt (N := 40) (hI 13 0) (by decide)).2
  obtain ⟨K4, hK4⟩ : ∃ f : Int32 → Int32, f = (fun a4_2 => a4_2) := ⟨_, rfl⟩
  have X4 : ∀ (a4_2 : Int32) (_ : True), (M_lampsOf σ p1) = a4_2 → J K h [some (.ref m), some (.int p1), some (.int a4_2), none] [] 36 0 0 := by
    intro a4_2  _  q_v
    refine J_iload_2 X dX11_lampsOf_36 ?_
    exact J_iret X rfl rfl ⟨by rw [q_v], rfl⟩ dX11_lampsOf_37
  have L4 : ∀ (n4 k4 : Nat) (a4_2 : Int32), k4 + n4 = ix (σ 13 0) → (M_lampsOf σ p1) = (M_lampsOf_L4 σ p1 K4 n4 k4 a4_2) → J K h [some (.ref m), some (.int p1), some (.int a4_2), some (.int (nI k4))] [] 4 0 0 := by
    intro n4
    induction n4 with
    | zero =>
      intro k4 a4_2  hk4  q_v
      rw [M_lampsOf_L4] at q_v
      refine J_iload_3 X dX11_lampsOf_4 ?_
      refine J_aload_0 X dX11_lampsOf_5 ?_
      refine JM_get X hR 13 (by decide) rfl rfl gw_5_23 dX11_lampsOf_6 ?_
      refine J_icmp_ge (tgt := 36) X dX11_lampsOf_9 (by decide) (fun _ => ?_) (fun c => absurd (lp_exit (cnt (N := 40) (hI 13 0) (by decide)).1 (by have := (cnt (N := 40) (hI 13 0) (by decide)).2; omega) hk4) c)
      rw [hK4] at q_v
      refine J.subL (lv' := [some (.ref m), some (.int p1), some (.int a4_2), none]) (And.intro rfl (And.intro rfl (And.intro rfl trivial))) ?_
      exact X4 a4_2  trivial  q_v
    | succ n4 ih4 =>
      intro k4 a4_2  hk4  q_v
      rw [M_lampsOf_L4] at q_v
      have hlt4 : k4 < ix (σ 13 0) := by omega
      refine J_iload_3 X dX11_lampsOf_4 ?_
      refine J_aload_0 X dX11_lampsOf_5 ?_
      refine JM_get X hR 13 (by decide) rfl rfl gw_5_23 dX11_lampsOf_6 ?_
      refine J_icmp_ge (tgt := 36) X dX11_lampsOf_9 (by decide) (fun c => absurd c (lp_stay (cnt (N := 40) (hI 13 0) (by decide)).1 (by have := (cnt (N := 40) (hI 13 0) (by decide)).2; omega) hk4)) (fun _ => ?_)
      refine J_iload_2 X dX11_lampsOf_12 ?_
      refine J_aload_0 X dX11_lampsOf_13 ?_
      refine JM_get X hR 14 (by decide) rfl rfl gw_5_24 dX11_lampsOf_14 ?_
      refine J_iload_3 X dX11_lampsOf_17 ?_
      refine JM_ald X hR 14 rfl rfl (vp_in_nI (N := 40) (by omega) (by decide)) dX11_lampsOf_18 ?_
      refine J_iload_1 X dX11_lampsOf_19 ?_
      have K20_28 : ∀ (v20_0 : Int32), v20_0 = (M_lampsOf_j20 σ p1 k4 a4_2) → J K h [some (.ref m), some (.int p1), some (.int a4_2), some (.int (nI k4))] [.int v20_0, .int a4_2] 28 0 0 := by
        intro v20_0 ev20_0
        try rw [ev20_0]
        clear ev20_0
        refine J_iadd X dX11_lampsOf_28 ?_
        refine J_istore_2 X dX11_lampsOf_29 rfl (by decide) ?_
        refine J_iinc_3 (v := (nI (k4 + 1))) X dX11_lampsOf_30 (nI_1 _) rfl (by decide) ?_
        refine J_goto (tgt := 4) X dX11_lampsOf_33 (by decide) ?_
        exact ih4 (k4 + 1) (a4_2 + (M_lampsOf_j20 σ p1 k4 a4_2))  (by omega)  q_v
      have j20_0 : M_lampsOf_j20 σ p1 k4 a4_2 = (if (σ 14 (ix (nI k4))) = p1 then (1 : Int32) else (0 : Int32)) := rfl
      refine J_icmp_ne (tgt := 27) X dX11_lampsOf_20 (by decide) (fun c20 => ?_) (fun c20 => ?_)
      · skip
        rw [if_neg c20] at j20_0
        refine J_iconst (v := 0) X dX11_lampsOf_27 rfl ?_
        exact K20_28 _ j20_0.symm
      · skip
        rw [if_pos c20] at j20_0
        refine J_iconst (v := 1) X dX11_lampsOf_23 rfl ?_
        refine J_goto (tgt := 28) X dX11_lampsOf_24 (by decide) ?_
        exact K20_28 _ j20_0.symm
  have q_v : (M_lampsOf σ p1) = (M_lampsOf_L4 σ p1 K4 (ix (σ 13 0)) 0 (0 : Int32)) := by rw [hK4]; exact q_v
  exact L4 (ix (σ 13 0)) 0 (0 : Int32)  (Nat.zero_add _)  q_v
def M_isUnlawful_j18 (σ : St) (p1 : Int32) : Int32 := (if (σ 22 (ix p1)) = (0 : Int32) then (if (σ 5 (ix (σ 3 (ix (σ 15 (ix p1)))))) < (σ 17 (ix p1)) then (1 : Int32) else (if (σ 6 (ix (σ 3 (ix (σ 15 (ix p1)))))) ≤ (σ 18 (ix p1)) then (0 : Int32) else (1 : Int32))) else (0 : Int32))
theorem M_isUnlawful_j18_b (σ : St) (p1 : Int32) : M_isUnlawful_j18 σ p1 = 0 ∨ M_isUnlawful_j18 σ p1 = 1 := by
  unfold M_isUnlawful_j18
  (repeat' split) <;> first | exact Or.inl rfl | exact Or.inr rfl
def M_isUnlawful (σ : St) (p1 : Int32) : Int32 := (M_isUnlawful_j18 σ p1)
theorem M_isUnlawful_b (σ : St) (p1 : Int32) : (M_isUnlawful σ p1) = 0 ∨ (M_isUnlawful σ p1) = 1 := by
  unfold M_isUnlawful
  (repeat' split) <;> first | exact Or.inl rfl | exact Or.inr rfl | exact M_isUnlawful_j18_b ..
theorem cw_X11_isUnlawful : Cond.instanceMethod yX11_isUnlawful ∈ GW ∧ Cond.selects RX11 yX11_isUnlawful yX11_isUnlawful ∈ GW ∧ Cond.initialized RX11 ∈ GW ∧ Cond.code yX11_isUnlawful cX11_isUnlawful 3 (some .boolean) ∈ GW ∧ yX11_isUnlawful.cls = RX11 ∧ (yX11_isUnlawful.cls ≠ "java/lang/invoke/MethodHandle" ∧ yX11_isUnlawful.cls ≠ "java/lang/invoke/VarHandle") ∧ (parseMethodDescriptor yX11_isUnlawful.desc).map (fun d => d.parameters.length) = some 1 := ⟨gw_5_229, gws_29, gw_1_14, gw_5_230, rfl, ⟨by decide, by decide⟩, by decide +kernel⟩
set_option maxRecDepth 100000 in
set_option maxHeartbeats 4000000 in
theorem c_M_isUnlawful {l : Launch} {D : va_G} {ca : Nat → Nat} {h : fH} {m : Nat} {ρ : Nat → Nat} {σ : St} (hR : RM ca h m ρ σ) (hI : Inv σ) (p1 : Int32) (hp1 : vp_in p1 40) : FM l D ca yX11_isUnlawful (.code yX11_isUnlawful cX11_isUnlawful 3 (some .boolean)) { frames := 1, cells := 0, slots := 0, locals := 20 } [.ref m, .int p1] h (pI (M_isUnlawful σ p1) h) noX := by
  refine FM.of [some (.ref m), some (.int p1), none] (by decide) (Nat.le_of_ble_eq_true rfl) rfl ?_
  rintro K X rfl rfl rfl
  have q_v : (M_isUnlawful σ p1) = (M_isUnlawful_j18 σ p1) := rfl
  refine J_aload_0 X dX11_isUnlawful_0 ?_
  refine JM_get X hR 3 (by decide) rfl rfl gw_5_13 dX11_isUnlawful_1 ?_
  refine J_aload_0 X dX11_isUnlawful_4 ?_
  refine JM_get X hR 15 (by decide) rfl rfl gw_5_25 dX11_isUnlawful_5 ?_
  refine J_iload_1 X dX11_isUnlawful_8 ?_
  refine JM_ald X hR 15 rfl rfl hp1 dX11_isUnlawful_9 ?_
  refine JM_ald X hR 3 rfl rfl (Inv_place hI (vp_lt hp1)) dX11_isUnlawful_10 ?_
  refine J_istore_2 X dX11_isUnlawful_11 rfl (by decide) ?_
  refine J_aload_0 X dX11_isUnlawful_12 ?_
  refine JM_get X hR 22 (by decide) rfl rfl gw_5_32 dX11_isUnlawful_13 ?_
  refine J_iload_1 X dX11_isUnlawful_16 ?_
  refine JM_zld X hR 22 rfl rfl hp1 dX11_isUnlawful_17 ?_
  have K18_56 : ∀ (v18_0 : Int32), v18_0 = (M_isUnlawful_j18 σ p1) → J K h [some (.ref m), some (.int p1), some (.int (σ 3 (ix (σ 15 (ix p1)))))] [.int v18_0] 56 0 0 := by
    intro v18_0 ev18_0
    try rw [ev18_0]
    clear ev18_0
    exact J_zret X rfl (M_isUnlawful_j18_b ..) rfl ⟨by rw [q_v], rfl⟩ dX11_isUnlawful_56
  have j18_0 : M_isUnlawful_j18 σ p1 = (if (σ 22 (ix p1)) = (0 : Int32) then (if (σ 5 (ix (σ 3 (ix (σ 15 (ix p1)))))) < (σ 17 (ix p1)) then (1 : Int32) else (if (σ 6 (ix (σ 3 (ix (σ 15 (ix p1)))))) ≤ (σ 18 (ix p1)) then (0 : Int32) else (1 : Int32))) else (0 : Int32)) := rfl
  refine J_if_ne (tgt := 55) X dX11_isUnlawful_18 (by decide) (fun c18 => ?_) (fun c18 => ?_)
  · skip
    rw [if_neg c18] at j18_0
    refine J_iconst (v := 0) X dX11_isUnlawful_55 rfl ?_
    exact K18_56 _ j18_0.symm
  · skip
    rw [if_pos c18] at j18_0
    refine J_aload_0 X dX11_isUnlawful_21 ?_
    refine JM_get X hR 17 (by decide) rfl rfl gw_5_27 dX11_isUnlawful_22 ?_
    refine J_iload_1 X dX11_isUnlawful_25 ?_
    refine JM_ald X hR 17 rfl rfl hp1 dX11_isUnlawful_26 ?_
    refine J_aload_0 X dX11_isUnlawful_27 ?_
    refine JM_get X hR 5 (by decide) rfl rfl gw_5_15 dX11_isUnlawful_28 ?_
    refine J_iload_2 X dX11_isUnlawful_31 ?_
    refine JM_ald X hR 5 rfl rfl (Inv_zone hI (vp_lt (Inv_place hI (vp_lt hp1)))) dX11_isUnlawful_32 ?_
    refine J_icmp_gt (tgt := 51) X dX11_isUnlawful_33 (by decide) (fun c33 => ?_) (fun c33 => ?_)
    · skip
      rw [if_pos c33] at j18_0
      refine J_iconst (v := 1) X dX11_isUnlawful_51 rfl ?_
      refine J_goto (tgt := 56) X dX11_isUnlawful_52 (by decide) ?_
      exact K18_56 _ j18_0.symm
    · skip
      rw [if_neg c33] at j18_0
      refine J_aload_0 X dX11_isUnlawful_36 ?_
      refine JM_get X hR 18 (by decide) rfl rfl gw_5_28 dX11_isUnlawful_37 ?_
      refine J_iload_1 X dX11_isUnlawful_40 ?_
      refine JM_ald X hR 18 rfl rfl hp1 dX11_isUnlawful_41 ?_
      refine J_aload_0 X dX11_isUnlawful_42 ?_
      refine JM_get X hR 6 (by decide) rfl rfl gw_5_16 dX11_isUnlawful_43 ?_
      refine J_iload_2 X dX11_isUnlawful_46 ?_
      refine JM_ald X hR 6 rfl rfl (Inv_zone hI (vp_lt (Inv_place hI (vp_lt hp1)))) dX11_isUnlawful_47 ?_
      refine J_icmp_ge (tgt := 55) X dX11_isUnlawful_48 (by decide) (fun c48 => ?_) (fun c48 => ?_)
      · skip
        rw [if_pos c48] at j18_0
        refine J_iconst (v := 0) X dX11_isUnlawful_55 rfl ?_
        exact K18_56 _ j18_0.symm
      · skip
        rw [if_neg c48] at j18_0
        refine J_iconst (v := 1) X dX11_isUnlawful_51 rfl ?_
        refine J_goto (tgt := 56) X dX11_isUnlawful_52 (by decide) ?_
        exact K18_56 _ j18_0.symm
def M_light_j21 (σ : St) (p1 : Int32) : Int32 := (if ((σ 23 (ix p1)) / (100 : Int32)) ≤ (50 : Int32) then ((σ 23 (ix p1)) / (100 : Int32)) else (50 : Int32))
def M_light (σ : St) (p1 : Int32) : Int32 := (((((σ 16 (ix p1)) * ((100 : Int32) - (M_light_j21 σ p1))) / (100 : Int32)) * ((10 : Int32) - (σ 19 (ix p1)))) / (10 : Int32))
theorem cw_X11_light : Cond.instanceMethod yX11_light ∈ GW ∧ Cond.selects RX11 yX11_light yX11_light ∈ GW ∧ Cond.initialized RX11 ∈ GW ∧ Cond.code yX11_light cX11_light 4 (some .int) ∈ GW ∧ yX11_light.cls = RX11 ∧ (yX11_light.cls ≠ "java/lang/invoke/MethodHandle" ∧ yX11_light.cls ≠ "java/lang/invoke/VarHandle") ∧ (parseMethodDescriptor yX11_light.desc).map (fun d => d.parameters.length) = some 1 := ⟨gw_6_13, gws_33, gw_1_14, gw_6_14, rfl, ⟨by decide, by decide⟩, by decide +kernel⟩
set_option maxRecDepth 100000 in
set_option maxHeartbeats 4000000 in
theorem c_M_light {l : Launch} {D : va_G} {ca : Nat → Nat} {h : fH} {m : Nat} {ρ : Nat → Nat} {σ : St} (hR : RM ca h m ρ σ) (p1 : Int32) (hp1 : vp_in p1 40) : FM l D ca yX11_light (.code yX11_light cX11_light 4 (some .int)) { frames := 1, cells := 0, slots := 0, locals := 20 } [.ref m, .int p1] h (pI (M_light σ p1) h) noX := by
  refine FM.of [some (.ref m), some (.int p1), none, none] (by decide) (Nat.le_of_ble_eq_true rfl) rfl ?_
  rintro K X rfl rfl rfl
  have q_v : (M_light σ p1) = (((((σ 16 (ix p1)) * ((100 : Int32) - (M_light_j21 σ p1))) / (100 : Int32)) * ((10 : Int32) - (σ 19 (ix p1)))) / (10 : Int32)) := rfl
  refine J_aload_0 X dX11_light_0 ?_
  refine JM_get X hR 23 (by decide) rfl rfl gw_5_33 dX11_light_1 ?_
  refine J_iload_1 X dX11_light_4 ?_
  refine JM_ald X hR 23 rfl rfl hp1 dX11_light_5 ?_
  refine J_bipush (v := (100 : Int32)) X dX11_light_6 (by decide) ?_
  refine J_idiv X dX11_light_8 (by decide) ?_
  refine J_istore_2 X dX11_light_9 rfl (by decide) ?_
  refine J_aload_0 X dX11_light_10 ?_
  refine JM_get X hR 16 (by decide) rfl rfl gw_5_26 dX11_light_11 ?_
  refine J_iload_1 X dX11_light_14 ?_
  refine JM_ald X hR 16 rfl rfl hp1 dX11_light_15 ?_
  refine J_bipush (v := (100 : Int32)) X dX11_light_16 (by decide) ?_
  refine J_iload_2 X dX11_light_18 ?_
  refine J_bipush (v := (50 : Int32)) X dX11_light_19 (by decide) ?_
  have K21_30 : ∀ (v21_0 : Int32), v21_0 = (M_light_j21 σ p1) → J K h [some (.ref m), some (.int p1), some (.int ((σ 23 (ix p1)) / (100 : Int32))), none] [.int v21_0, .int (100 : Int32), .int (σ 16 (ix p1))] 30 0 0 := by
    intro v21_0 ev21_0
    try rw [ev21_0]
    clear ev21_0
    refine J_isub X dX11_light_30 ?_
    refine J_imul X dX11_light_31 ?_
    refine J_bipush (v := (100 : Int32)) X dX11_light_32 (by decide) ?_
    refine J_idiv X dX11_light_34 (by decide) ?_
    refine J_istore_3 X dX11_light_35 rfl (by decide) ?_
    refine J_iload_3 X dX11_light_36 ?_
    refine J_bipush (v := (10 : Int32)) X dX11_light_37 (by decide) ?_
    refine J_aload_0 X dX11_light_39 ?_
    refine JM_get X hR 19 (by decide) rfl rfl gw_5_29 dX11_light_40 ?_
    refine J_iload_1 X dX11_light_43 ?_
    refine JM_ald X hR 19 rfl rfl hp1 dX11_light_44 ?_
    refine J_isub X dX11_light_45 ?_
    refine J_imul X dX11_light_46 ?_
    refine J_bipush (v := (10 : Int32)) X dX11_light_47 (by decide) ?_
    refine J_idiv X dX11_light_49 (by decide) ?_
    exact J_iret X rfl rfl ⟨by rw [q_v], rfl⟩ dX11_light_50
  have j21_0 : M_light_j21 σ p1 = (if ((σ 23 (ix p1)) / (100 : Int32)) ≤ (50 : Int32) then ((σ 23 (ix p1)) / (100 : Int32)) else (50 : Int32)) := rfl
  refine J_icmp_le (tgt := 29) X dX11_light_21 (by decide) (fun c21 => ?_) (fun c21 => ?_)
  · skip
    rw [if_pos c21] at j21_0
    refine J_iload_2 X dX11_light_29 ?_
    exact K21_30 _ j21_0.symm
  · skip
    rw [if_neg c21] at j21_0
    refine J_bipush (v := (50 : Int32)) X dX11_light_24 (by decide) ?_
    refine J_goto (tgt := 30) X dX11_light_26 (by decide) ?_
    exact K21_30 _ j21_0.symm
end
