noncomputable section
def L_size_j1 (p1 : Int32) : Int32 := (if p1 ≤ (0 : Int32) then (-p1) else p1)
def L_size (p1 : Int32) : Int32 := (L_size_j1 p1)
theorem cw_L_size : Cond.static yL_size ∈ GW ∧ Cond.initialized yL_size.cls ∈ GW ∧ Cond.code yL_size cL_size 1 (some .int) ∈ GW ∧ (yL_size.cls ≠ "java/lang/invoke/MethodHandle" ∧ yL_size.cls ≠ "java/lang/invoke/VarHandle") ∧ (parseMethodDescriptor yL_size.desc).map (fun d => d.parameters.length) = some 1 := ⟨gw_4_102, gw_1_0, gw_4_103, ⟨by decide, by decide⟩, by decide +kernel⟩
set_option maxRecDepth 100000 in
set_option maxHeartbeats 4000000 in
theorem c_L_size {l : Launch} {D : va_G} {ca : Nat → Nat} {h : fH} (p1 : Int32) : FM l D ca yL_size (.code yL_size cL_size 1 (some .int)) { frames := 1, cells := 0, slots := 0, locals := 20 } [.int p1] h (pI (L_size p1) h) noX := by
  refine FM.of [some (.int p1)] (by decide) (Nat.le_of_ble_eq_true rfl) rfl ?_
  rintro K X rfl rfl rfl
  have q_v : (L_size p1) = (L_size_j1 p1) := rfl
  refine J_iload_0 X dL_size_0 ?_
  have K1_10 : ∀ (v1_0 : Int32), v1_0 = (L_size_j1 p1) → J K h [some (.int p1)] [.int v1_0] 10 0 0 := by
    intro v1_0 ev1_0
    try rw [ev1_0]
    clear ev1_0
    exact J_iret X rfl rfl ⟨by rw [q_v], rfl⟩ dL_size_10
  have j1_0 : L_size_j1 p1 = (if p1 ≤ (0 : Int32) then (-p1) else p1) := rfl
  refine J_if_le (tgt := 8) X dL_size_1 (by decide) (fun c1 => ?_) (fun c1 => ?_)
  · skip
    rw [if_pos c1] at j1_0
    refine J_iload_0 X dL_size_8 ?_
    refine J_ineg X dL_size_9 ?_
    exact K1_10 _ j1_0.symm
  · skip
    rw [if_neg c1] at j1_0
    refine J_iload_0 X dL_size_4 ?_
    refine J_goto (tgt := 10) X dL_size_5 (by decide) ?_
    exact K1_10 _ j1_0.symm
def L_apart (p1 : Int32) (p2 : Int32) : Int32 := (((((p1 - p1 / (8 : Int32) * (8 : Int32)) - (p2 - p2 / (8 : Int32) * (8 : Int32))) * ((p1 - p1 / (8 : Int32) * (8 : Int32)) - (p2 - p2 / (8 : Int32) * (8 : Int32)))) + (((p1 / (8 : Int32)) - (p2 / (8 : Int32))) * ((p1 / (8 : Int32)) - (p2 / (8 : Int32))))) + (1 : Int32))
theorem cw_L_apart : Cond.static yL_apart ∈ GW ∧ Cond.initialized yL_apart.cls ∈ GW ∧ Cond.code yL_apart cL_apart 4 (some .int) ∈ GW ∧ (yL_apart.cls ≠ "java/lang/invoke/MethodHandle" ∧ yL_apart.cls ≠ "java/lang/invoke/VarHandle") ∧ (parseMethodDescriptor yL_apart.desc).map (fun d => d.parameters.length) = some 2 := ⟨gw_4_96, gw_1_0, gw_4_97, ⟨by decide, by decide⟩, by decide +kernel⟩
set_option maxRecDepth 100000 in
set_option maxHeartbeats 4000000 in
theorem c_L_apart {l : Launch} {D : va_G} {ca : Nat → Nat} {h : fH} (p1 : Int32) (p2 : Int32) : FM l D ca yL_apart (.code yL_apart cL_apart 4 (some .int)) { frames := 1, cells := 0, slots := 0, locals := 20 } [.int p1, .int p2] h (pI (L_apart p1 p2) h) noX := by
  refine FM.of [some (.int p1), some (.int p2), none, none] (by decide) (Nat.le_of_ble_eq_true rfl) rfl ?_
  rintro K X rfl rfl rfl
  have q_v : (L_apart p1 p2) = (((((p1 - p1 / (8 : Int32) * (8 : Int32)) - (p2 - p2 / (8 : Int32) * (8 : Int32))) * ((p1 - p1 / (8 : Int32) * (8 : Int32)) - (p2 - p2 / (8 : Int32) * (8 : Int32)))) + (((p1 / (8 : Int32)) - (p2 / (8 : Int32))) * ((p1 / (8 : Int32)) - (p2 / (8 : Int32))))) + (1 : Int32)) := rfl
  refine J_iload_0 X dL_apart_0 ?_
  refine J_bipush (v := (8 : Int32)) X dL_apart_1 (by decide) ?_
  refine J_irem X dL_apart_3 (by decide) ?_
  refine J_iload_1 X dL_apart_4 ?_
  refine J_bipush (v := (8 : Int32)) X dL_apart_5 (by decide) ?_
  refine J_irem X dL_apart_7 (by decide) ?_
  refine J_isub X dL_apart_8 ?_
  refine J_istore_2 X dL_apart_9 rfl (by decide) ?_
  refine J_iload_0 X dL_apart_10 ?_
  refine J_bipush (v := (8 : Int32)) X dL_apart_11 (by decide) ?_
  refine J_idiv X dL_apart_13 (by decide) ?_
  refine J_iload_1 X dL_apart_14 ?_
  refine J_bipush (v := (8 : Int32)) X dL_apart_15 (by decide) ?_
  refine J_idiv X dL_apart_17 (by decide) ?_
  refine J_isub X dL_apart_18 ?_
  refine J_istore_3 X dL_apart_19 rfl (by decide) ?_
  refine J_iload_2 X dL_apart_20 ?_
  refine J_iload_2 X dL_apart_21 ?_
  refine J_imul X dL_apart_22 ?_
  refine J_iload_3 X dL_apart_23 ?_
  refine J_iload_3 X dL_apart_24 ?_
  refine J_imul X dL_apart_25 ?_
  refine J_iadd X dL_apart_26 ?_
  refine J_iconst (v := 1) X dL_apart_27 rfl ?_
  refine J_iadd X dL_apart_28 ?_
  exact J_iret X rfl rfl ⟨by rw [q_v], rfl⟩ dL_apart_29
def L_moon_j33 (p1 : Int32) : Int32 := (if (15 : Int32) ≤ ((p1 / (24 : Int32)) - (p1 / (24 : Int32)) / (30 : Int32) * (30 : Int32)) then ((30 : Int32) - ((p1 / (24 : Int32)) - (p1 / (24 : Int32)) / (30 : Int32) * (30 : Int32))) else ((p1 / (24 : Int32)) - (p1 / (24 : Int32)) / (30 : Int32) * (30 : Int32)))
def L_moon_j13 (p1 : Int32) : Int32 := (if (p1 - p1 / (24 : Int32) * (24 : Int32)) ≤ (5 : Int32) then ((4 : Int32) * (L_moon_j33 p1)) else (if (18 : Int32) ≤ (p1 - p1 / (24 : Int32) * (24 : Int32)) then ((4 : Int32) * (L_moon_j33 p1)) else (0 : Int32)))
def L_moon (p1 : Int32) : Int32 := (L_moon_j13 p1)
theorem cw_L_moon : Cond.static yL_moon ∈ GW ∧ Cond.initialized yL_moon.cls ∈ GW ∧ Cond.code yL_moon cL_moon 2 (some .int) ∈ GW ∧ (yL_moon.cls ≠ "java/lang/invoke/MethodHandle" ∧ yL_moon.cls ≠ "java/lang/invoke/VarHandle") ∧ (parseMethodDescriptor yL_moon.desc).map (fun d => d.parameters.length) = some 1 := ⟨gw_4_135, gw_1_0, gw_4_136, ⟨by decide, by decide⟩, by decide +kernel⟩
set_option maxRecDepth 100000 in
set_option maxHeartbeats 4000000 in
theorem c_L_moon {l : Launch} {D : va_G} {ca : Nat → Nat} {h : fH} (p1 : Int32) : FM l D ca yL_moon (.code yL_moon cL_moon 2 (some .int)) { frames := 1, cells := 0, slots := 0, locals := 20 } [.int p1] h (pI (L_moon p1) h) noX := by
  refine FM.of [some (.int p1), none] (by decide) (Nat.le_of_ble_eq_true rfl) rfl ?_
  rintro K X rfl rfl rfl
  have q_v : (L_moon p1) = (L_moon_j13 p1) := rfl
  refine J_iload_0 X dL_moon_0 ?_
  refine J_bipush (v := (24 : Int32)) X dL_moon_1 (by decide) ?_
  refine J_idiv X dL_moon_3 (by decide) ?_
  refine J_bipush (v := (30 : Int32)) X dL_moon_4 (by decide) ?_
  refine J_irem X dL_moon_6 (by decide) ?_
  refine J_istore_1 X dL_moon_7 rfl (by decide) ?_
  refine J_iload_0 X dL_moon_8 ?_
  refine J_bipush (v := (24 : Int32)) X dL_moon_9 (by decide) ?_
  refine J_irem X dL_moon_11 (by decide) ?_
  refine J_iconst (v := 5) X dL_moon_12 rfl ?_
  have K13_45 : ∀ (v13_0 : Int32), v13_0 = (L_moon_j13 p1) → J K h [some (.int p1), some (.int ((p1 / (24 : Int32)) - (p1 / (24 : Int32)) / (30 : Int32) * (30 : Int32)))] [.int v13_0] 45 0 0 := by
    intro v13_0 ev13_0
    try rw [ev13_0]
    clear ev13_0
    exact J_iret X rfl rfl ⟨by rw [q_v], rfl⟩ dL_moon_45
  have j13_0 : L_moon_j13 p1 = (if (p1 - p1 / (24 : Int32) * (24 : Int32)) ≤ (5 : Int32) then ((4 : Int32) * (L_moon_j33 p1)) else (if (18 : Int32) ≤ (p1 - p1 / (24 : Int32) * (24 : Int32)) then ((4 : Int32) * (L_moon_j33 p1)) else (0 : Int32))) := rfl
  refine J_icmp_le (tgt := 29) X dL_moon_13 (by decide) (fun c13 => ?_) (fun c13 => ?_)
  · skip
    rw [if_pos c13] at j13_0
    refine J_iconst (v := 4) X dL_moon_29 rfl ?_
    refine J_iload_1 X dL_moon_30 ?_
    refine J_bipush (v := (15 : Int32)) X dL_moon_31 (by decide) ?_
    have K33_44 : ∀ (v33_0 : Int32), v33_0 = (L_moon_j33 p1) → J K h [some (.int p1), some (.int ((p1 / (24 : Int32)) - (p1 / (24 : Int32)) / (30 : Int32) * (30 : Int32)))] [.int v33_0, .int (4 : Int32)] 44 0 0 := by
      intro v33_0 ev33_0
      try rw [ev33_0]
      clear ev33_0
      refine J_imul X dL_moon_44 ?_
      exact K13_45 _ j13_0.symm
    have j33_0 : L_moon_j33 p1 = (if (15 : Int32) ≤ ((p1 / (24 : Int32)) - (p1 / (24 : Int32)) / (30 : Int32) * (30 : Int32)) then ((30 : Int32) - ((p1 / (24 : Int32)) - (p1 / (24 : Int32)) / (30 : Int32) * (30 : Int32))) else ((p1 / (24 : Int32)) - (p1 / (24 : Int32)) / (30 : Int32) * (30 : Int32))) := rfl
    refine J_icmp_ge (tgt := 40) X dL_moon_33 (by decide) (fun c33 => ?_) (fun c33 => ?_)
    · skip
      rw [if_pos c33] at j33_0
      refine J_bipush (v := (30 : Int32)) X dL_moon_40 (by decide) ?_
      refine J_iload_1 X dL_moon_42 ?_
      refine J_isub X dL_moon_43 ?_
      exact K33_44 _ j33_0.symm
    · skip
      rw [if_neg c33] at j33_0
      refine J_iload_1 X dL_moon_36 ?_
      refine J_goto (tgt := 44) X dL_moon_37 (by decide) ?_
      exact K33_44 _ j33_0.symm
  · skip
    rw [if_neg c13] at j13_0
    refine J_iload_0 X dL_moon_16 ?_
    refine J_bipush (v := (24 : Int32)) X dL_moon_17 (by decide) ?_
    refine J_irem X dL_moon_19 (by decide) ?_
    refine J_bipush (v := (18 : Int32)) X dL_moon_20 (by decide) ?_
    refine J_icmp_ge (tgt := 29) X dL_moon_22 (by decide) (fun c22 => ?_) (fun c22 => ?_)
    · skip
      rw [if_pos c22] at j13_0
      refine J_iconst (v := 4) X dL_moon_29 rfl ?_
      refine J_iload_1 X dL_moon_30 ?_
      refine J_bipush (v := (15 : Int32)) X dL_moon_31 (by decide) ?_
      have K33_44 : ∀ (v33_0 : Int32), v33_0 = (L_moon_j33 p1) → J K h [some (.int p1), some (.int ((p1 / (24 : Int32)) - (p1 / (24 : Int32)) / (30 : Int32) * (30 : Int32)))] [.int v33_0, .int (4 : Int32)] 44 0 0 := by
        intro v33_0 ev33_0
        try rw [ev33_0]
        clear ev33_0
        refine J_imul X dL_moon_44 ?_
        exact K13_45 _ j13_0.symm
      have j33_0 : L_moon_j33 p1 = (if (15 : Int32) ≤ ((p1 / (24 : Int32)) - (p1 / (24 : Int32)) / (30 : Int32) * (30 : Int32)) then ((30 : Int32) - ((p1 / (24 : Int32)) - (p1 / (24 : Int32)) / (30 : Int32) * (30 : Int32))) else ((p1 / (24 : Int32)) - (p1 / (24 : Int32)) / (30 : Int32) * (30 : Int32))) := rfl
      refine J_icmp_ge (tgt := 40) X dL_moon_33 (by decide) (fun c33 => ?_) (fun c33 => ?_)
      · skip
        rw [if_pos c33] at j33_0
        refine J_bipush (v := (30 : Int32)) X dL_moon_40 (by decide) ?_
        refine J_iload_1 X dL_moon_42 ?_
        refine J_isub X dL_moon_43 ?_
        exact K33_44 _ j33_0.symm
      · skip
        rw [if_neg c33] at j33_0
        refine J_iload_1 X dL_moon_36 ?_
        refine J_goto (tgt := 44) X dL_moon_37 (by decide) ?_
        exact K33_44 _ j33_0.symm
    · skip
      rw [if_neg c22] at j13_0
      refine J_iconst (v := 0) X dL_moon_25 rfl ?_
      refine J_goto (tgt := 45) X dL_moon_26 (by decide) ?_
      exact K13_45 _ j13_0.symm
def L_burns_j50 (σ : St) (p1 : Int32) : Int32 := (if ((σ 3 (ix (((6 : Int32) * p1) + (3 : Int32)))) - (σ 3 (ix (((6 : Int32) * p1) + (3 : Int32)))) / (32 : Int32) * (32 : Int32)) = ((σ 3 (ix (((6 : Int32) * p1) + (3 : Int32)))) / (32 : Int32)) then (1 : Int32) else (if (((((σ 3 (ix (((6 : Int32) * p1) + (3 : Int32)))) / (32 : Int32)) - ((σ 3 (ix (((6 : Int32) * p1) + (3 : Int32)))) - (σ 3 (ix (((6 : Int32) * p1) + (3 : Int32)))) / (32 : Int32) * (32 : Int32))) + (24 : Int32)) - ((((σ 3 (ix (((6 : Int32) * p1) + (3 : Int32)))) / (32 : Int32)) - ((σ 3 (ix (((6 : Int32) * p1) + (3 : Int32)))) - (σ 3 (ix (((6 : Int32) * p1) + (3 : Int32)))) / (32 : Int32) * (32 : Int32))) + (24 : Int32)) / (24 : Int32) * (24 : Int32)) ≤ (((((σ 7 (ix (0 : Int32))) - (σ 7 (ix (0 : Int32))) / (24 : Int32) * (24 : Int32)) - ((σ 3 (ix (((6 : Int32) * p1) + (3 : Int32)))) - (σ 3 (ix (((6 : Int32) * p1) + (3 : Int32)))) / (32 : Int32) * (32 : Int32))) + (24 : Int32)) - ((((σ 7 (ix (0 : Int32))) - (σ 7 (ix (0 : Int32))) / (24 : Int32) * (24 : Int32)) - ((σ 3 (ix (((6 : Int32) * p1) + (3 : Int32)))) - (σ 3 (ix (((6 : Int32) * p1) + (3 : Int32)))) / (32 : Int32) * (32 : Int32))) + (24 : Int32)) / (24 : Int32) * (24 : Int32)) then (0 : Int32) else (1 : Int32)))
theorem L_burns_j50_b (σ : St) (p1 : Int32) : L_burns_j50 σ p1 = 0 ∨ L_burns_j50 σ p1 = 1 := by
  unfold L_burns_j50
  (repeat' split) <;> first | exact Or.inl (by with_reducible rfl) | exact Or.inr (by with_reducible rfl)
def L_burns_j118 (σ : St) (p1 : Int32) : Int32 := (if (24 : Int32) ≤ ((σ 1 (ix ((σ 0 (ix ((σ 3 (ix ((6 : Int32) * p1))) - (σ 3 (ix ((6 : Int32) * p1))) / (64 : Int32) * (64 : Int32)))) - (σ 0 (ix ((σ 3 (ix ((6 : Int32) * p1))) - (σ 3 (ix ((6 : Int32) * p1))) / (64 : Int32) * (64 : Int32)))) / (4 : Int32) * (4 : Int32)))) - (σ 1 (ix ((σ 0 (ix ((σ 3 (ix ((6 : Int32) * p1))) - (σ 3 (ix ((6 : Int32) * p1))) / (64 : Int32) * (64 : Int32)))) - (σ 0 (ix ((σ 3 (ix ((6 : Int32) * p1))) - (σ 3 (ix ((6 : Int32) * p1))) / (64 : Int32) * (64 : Int32)))) / (4 : Int32) * (4 : Int32)))) / (32 : Int32) * (32 : Int32)) then (0 : Int32) else (if ((σ 7 (ix (0 : Int32))) - (σ 7 (ix (0 : Int32))) / (24 : Int32) * (24 : Int32)) < (6 : Int32) then (if (128 : Int32) ≤ (σ 3 (ix ((6 : Int32) * p1))) then (0 : Int32) else (if (29 : Int32) < ((σ 7 (ix (0 : Int32))) / (24 : Int32)) then (1 : Int32) else (if (((σ 1 (ix ((4 : Int32) + ((σ 0 (ix ((σ 3 (ix ((6 : Int32) * p1))) - (σ 3 (ix ((6 : Int32) * p1))) / (64 : Int32) * (64 : Int32)))) - (σ 0 (ix ((σ 3 (ix ((6 : Int32) * p1))) - (σ 3 (ix ((6 : Int32) * p1))) / (64 : Int32) * (64 : Int32)))) / (4 : Int32) * (4 : Int32))))) >>> (((σ 7 (ix (0 : Int32))) / (24 : Int32)) &&& 31)) &&& (1 : Int32)) = (0 : Int32) then (1 : Int32) else (0 : Int32)))) else (if ((σ 7 (ix (0 : Int32))) - (σ 7 (ix (0 : Int32))) / (24 : Int32) * (24 : Int32)) < ((σ 1 (ix ((σ 0 (ix ((σ 3 (ix ((6 : Int32) * p1))) - (σ 3 (ix ((6 : Int32) * p1))) / (64 : Int32) * (64 : Int32)))) - (σ 0 (ix ((σ 3 (ix ((6 : Int32) * p1))) - (σ 3 (ix ((6 : Int32) * p1))) / (64 : Int32) * (64 : Int32)))) / (4 : Int32) * (4 : Int32)))) - (σ 1 (ix ((σ 0 (ix ((σ 3 (ix ((6 : Int32) * p1))) - (σ 3 (ix ((6 : Int32) * p1))) / (64 : Int32) * (64 : Int32)))) - (σ 0 (ix ((σ 3 (ix ((6 : Int32) * p1))) - (σ 3 (ix ((6 : Int32) * p1))) / (64 : Int32) * (64 : Int32)))) / (4 : Int32) * (4 : Int32)))) / (32 : Int32) * (32 : Int32)) then (0 : Int32) else (if (128 : Int32) ≤ (σ 3 (ix ((6 : Int32) * p1))) then (0 : Int32) else (if (29 : Int32) < ((σ 7 (ix (0 : Int32))) / (24 : Int32)) then (1 : Int32) else (if (((σ 1 (ix ((4 : Int32) + ((σ 0 (ix ((σ 3 (ix ((6 : Int32) * p1))) - (σ 3 (ix ((6 : Int32) * p1))) / (64 : Int32) * (64 : Int32)))) - (σ 0 (ix ((σ 3 (ix ((6 : Int32) * p1))) - (σ 3 (ix ((6 : Int32) * p1))) / (64 : Int32) * (64 : Int32)))) / (4 : Int32) * (4 : Int32))))) >>> (((σ 7 (ix (0 : Int32))) / (24 : Int32)) &&& 31)) &&& (1 : Int32)) = (0 : Int32) then (1 : Int32) else (0 : Int32)))))))
theorem L_burns_j118_b (σ : St) (p1 : Int32) : L_burns_j118 σ p1 = 0 ∨ L_burns_j118 σ p1 = 1 := by
  unfold L_burns_j118
  (repeat' split) <;> first | exact Or.inl (by with_reducible rfl) | exact Or.inr (by with_reducible rfl)
def L_burns_j178 (σ : St) (p1 : Int32) : Int32 := (if (L_burns_j50 σ p1) = (0 : Int32) then (0 : Int32) else (if (L_burns_j118 σ p1) = (0 : Int32) then (if (σ 7 (ix (0 : Int32))) < (σ 2 (ix (((4 : Int32) * (((σ 3 (ix ((6 : Int32) * p1))) / (64 : Int32)) - ((σ 3 (ix ((6 : Int32) * p1))) / (64 : Int32)) / (2 : Int32) * (2 : Int32))) + (3 : Int32)))) then (0 : Int32) else (1 : Int32)) else (0 : Int32)))
theorem L_burns_j178_b (σ : St) (p1 : Int32) : L_burns_j178 σ p1 = 0 ∨ L_burns_j178 σ p1 = 1 := by
  unfold L_burns_j178
  (repeat' split) <;> first | exact Or.inl (by with_reducible rfl) | exact Or.inr (by with_reducible rfl)
def L_burns (σ : St) (p1 : Int32) : Int32 := (L_burns_j178 σ p1)
theorem L_burns_b (σ : St) (p1 : Int32) : (L_burns σ p1) = 0 ∨ (L_burns σ p1) = 1 := by
  unfold L_burns
  (repeat' split) <;> first | exact Or.inl (by with_reducible rfl) | exact Or.inr (by with_reducible rfl) | exact L_burns_j178_b ..
theorem cw_L_burns : Cond.static yL_burns ∈ GW ∧ Cond.initialized yL_burns.cls ∈ GW ∧ Cond.code yL_burns cL_burns 15 (some .boolean) ∈ GW ∧ (yL_burns.cls ≠ "java/lang/invoke/MethodHandle" ∧ yL_burns.cls ≠ "java/lang/invoke/VarHandle") ∧ (parseMethodDescriptor yL_burns.desc).map (fun d => d.parameters.length) = some 6 := ⟨gw_4_87, gw_1_0, gw_4_88, ⟨by decide, by decide⟩, by decide +kernel⟩
set_option maxRecDepth 100000 in
set_option maxHeartbeats 4000000 in
theorem c_L_burns {l : Launch} {D : va_G} {ca : Nat → Nat} {h : fH} {α : Nat → Nat} {σ : St} (hL : LA ca h α σ) (hI : IL σ) (p1 : Int32) (h1 : vp_in p1 10) : FM l D ca yL_burns (.code yL_burns cL_burns 15 (some .boolean)) { frames := 1, cells := 0, slots := 0, locals := 20 } [.ref (α 0), .ref (α 1), .ref (α 2), .ref (α 3), .ref (α 7), .int p1] h (pI (L_burns σ p1) h) noX := by
  refine FM.of [some (.ref (α 0)), some (.ref (α 1)), some (.ref (α 2)), some (.ref (α 3)), some (.ref (α 7)), some (.int p1), none, none, none, none, none, none, none, none, none] (by decide) (Nat.le_of_ble_eq_true rfl) rfl ?_
  rintro K X rfl rfl rfl
  have q_v : (L_burns σ p1) = (L_burns_j178 σ p1) := rfl
  refine J_aload_4 X dL_burns_0 ?_
  refine J_iconst (v := 0) X dL_burns_2 rfl ?_
  refine JL_ld X hL 7 (by decide) (vp_up (vp_in_nI (n := 0) (N := 1) (by decide) (by decide)) (by decide)) dL_burns_3 ?_
  refine J_bipush (v := (24 : Int32)) X dL_burns_4 (by decide) ?_
  refine J_irem X dL_burns_6 (by decide) ?_
  refine J_istore_6 X dL_burns_7 rfl (by decide) ?_
  refine J_aload_4 X dL_burns_9 ?_
  refine J_iconst (v := 0) X dL_burns_11 rfl ?_
  refine JL_ld X hL 7 (by decide) (vp_up (vp_in_nI (n := 0) (N := 1) (by decide) (by decide)) (by decide)) dL_burns_12 ?_
  refine J_bipush (v := (24 : Int32)) X dL_burns_13 (by decide) ?_
  refine J_idiv X dL_burns_15 (by decide) ?_
  refine J_istore_7 X dL_burns_16 rfl (by decide) ?_
  refine J_aload_3 X dL_burns_18 ?_
  refine J_bipush (v := (6 : Int32)) X dL_burns_19 (by decide) ?_
  refine J_iload_5 X dL_burns_21 ?_
  refine J_imul X dL_burns_23 ?_
  refine J_iconst (v := 3) X dL_burns_24 rfl ?_
  refine J_iadd X dL_burns_25 ?_
  refine JL_ld X hL 3 (by decide) (vp_up (vr_add (vr_mul (vp_in_nI (n := 6) (N := 7) (by decide) (by decide)) h1 (by decide)) (vp_in_nI (n := 3) (N := 4) (by decide) (by decide)) (by decide)) (by decide)) dL_burns_26 ?_
  refine J_bipush (v := (32 : Int32)) X dL_burns_27 (by decide) ?_
  refine J_irem X dL_burns_29 (by decide) ?_
  refine J_istore_8 X dL_burns_30 rfl (by decide) ?_
  refine J_aload_3 X dL_burns_32 ?_
  refine J_bipush (v := (6 : Int32)) X dL_burns_33 (by decide) ?_
  refine J_iload_5 X dL_burns_35 ?_
  refine J_imul X dL_burns_37 ?_
  refine J_iconst (v := 3) X dL_burns_38 rfl ?_
  refine J_iadd X dL_burns_39 ?_
  refine JL_ld X hL 3 (by decide) (vp_up (vr_add (vr_mul (vp_in_nI (n := 6) (N := 7) (by decide) (by decide)) h1 (by decide)) (vp_in_nI (n := 3) (N := 4) (by decide) (by decide)) (by decide)) (by decide)) dL_burns_40 ?_
  refine J_bipush (v := (32 : Int32)) X dL_burns_41 (by decide) ?_
  refine J_idiv X dL_burns_43 (by decide) ?_
  refine J_istore_9 X dL_burns_44 rfl (by decide) ?_
  refine J_iload_8 X dL_burns_46 ?_
  refine J_iload_9 X dL_burns_48 ?_
  have K50_83 : ∀ (v50_0 : Int32), v50_0 = (L_burns_j50 σ p1) → J K h [some (.ref (α 0)), some (.ref (α 1)), some (.ref (α 2)), some (.ref (α 3)), some (.ref (α 7)), some (.int p1), some (.int ((σ 7 (ix (0 : Int32))) - (σ 7 (ix (0 : Int32))) / (24 : Int32) * (24 : Int32))), some (.int ((σ 7 (ix (0 : Int32))) / (24 : Int32))), some (.int ((σ 3 (ix (((6 : Int32) * p1) + (3 : Int32)))) - (σ 3 (ix (((6 : Int32) * p1) + (3 : Int32)))) / (32 : Int32) * (32 : Int32))), some (.int ((σ 3 (ix (((6 : Int32) * p1) + (3 : Int32)))) / (32 : Int32))), none, none, none, none, none] [.int v50_0] 83 0 0 := by
    intro v50_0 ev50_0
    try rw [ev50_0]
    clear ev50_0
    refine J_istore_10 X dL_burns_83 rfl (by decide) ?_
    refine J_aload_3 X dL_burns_85 ?_
    refine J_bipush (v := (6 : Int32)) X dL_burns_86 (by decide) ?_
    refine J_iload_5 X dL_burns_88 ?_
    refine J_imul X dL_burns_90 ?_
    refine JL_ld X hL 3 (by decide) (vp_up (vr_mul (vp_in_nI (n := 6) (N := 7) (by decide) (by decide)) h1 (by decide)) (by decide)) dL_burns_91 ?_
    refine J_bipush (v := (64 : Int32)) X dL_burns_92 (by decide) ?_
    refine J_irem X dL_burns_94 (by decide) ?_
    refine J_istore_11 X dL_burns_95 rfl (by decide) ?_
    refine J_aload_0 X dL_burns_97 ?_
    refine J_iload_11 X dL_burns_98 ?_
    refine JL_ld X hL 0 (by decide) (vp_up (vr_rem (c := 64) (IL_3_0 hI (vp_up h1 (by decide : _ ≤ 10))) (by decide) (by decide) (by decide)) (by decide)) dL_burns_100 ?_
    refine J_iconst (v := 4) X dL_burns_101 rfl ?_
    refine J_irem X dL_burns_102 (by decide) ?_
    refine J_istore_12 X dL_burns_103 rfl (by decide) ?_
    refine J_aload_1 X dL_burns_105 ?_
    refine J_iload_12 X dL_burns_106 ?_
    refine JL_ld X hL 1 (by decide) (vp_up (vr_rem (c := 4) (IL_0 hI (vp_lt (vp_up (vr_rem (c := 64) (IL_3_0 hI (vp_up h1 (by decide : _ ≤ 10))) (by decide) (by decide) (by decide)) (by decide : _ ≤ 64)))) (by decide) (by decide) (by decide)) (by decide)) dL_burns_108 ?_
    refine J_bipush (v := (32 : Int32)) X dL_burns_109 (by decide) ?_
    refine J_irem X dL_burns_111 (by decide) ?_
    refine J_istore_13 X dL_burns_112 rfl (by decide) ?_
    refine J_iload_13 X dL_burns_114 ?_
    refine J_bipush (v := (24 : Int32)) X dL_burns_116 (by decide) ?_
    have K118_174 : ∀ (v118_0 : Int32), v118_0 = (L_burns_j118 σ p1) → J K h [some (.ref (α 0)), some (.ref (α 1)), some (.ref (α 2)), some (.ref (α 3)), some (.ref (α 7)), some (.int p1), some (.int ((σ 7 (ix (0 : Int32))) - (σ 7 (ix (0 : Int32))) / (24 : Int32) * (24 : Int32))), some (.int ((σ 7 (ix (0 : Int32))) / (24 : Int32))), some (.int ((σ 3 (ix (((6 : Int32) * p1) + (3 : Int32)))) - (σ 3 (ix (((6 : Int32) * p1) + (3 : Int32)))) / (32 : Int32) * (32 : Int32))), some (.int ((σ 3 (ix (((6 : Int32) * p1) + (3 : Int32)))) / (32 : Int32))), some (.int (L_burns_j50 σ p1)), some (.int ((σ 3 (ix ((6 : Int32) * p1))) - (σ 3 (ix ((6 : Int32) * p1))) / (64 : Int32) * (64 : Int32))), some (.int ((σ 0 (ix ((σ 3 (ix ((6 : Int32) * p1))) - (σ 3 (ix ((6 : Int32) * p1))) / (64 : Int32) * (64 : Int32)))) - (σ 0 (ix ((σ 3 (ix ((6 : Int32) * p1))) - (σ 3 (ix ((6 : Int32) * p1))) / (64 : Int32) * (64 : Int32)))) / (4 : Int32) * (4 : Int32))), some (.int ((σ 1 (ix ((σ 0 (ix ((σ 3 (ix ((6 : Int32) * p1))) - (σ 3 (ix ((6 : Int32) * p1))) / (64 : Int32) * (64 : Int32)))) - (σ 0 (ix ((σ 3 (ix ((6 : Int32) * p1))) - (σ 3 (ix ((6 : Int32) * p1))) / (64 : Int32) * (64 : Int32)))) / (4 : Int32) * (4 : Int32)))) - (σ 1 (ix ((σ 0 (ix ((σ 3 (ix ((6 : Int32) * p1))) - (σ 3 (ix ((6 : Int32) * p1))) / (64 : Int32) * (64 : Int32)))) - (σ 0 (ix ((σ 3 (ix ((6 : Int32) * p1))) - (σ 3 (ix ((6 : Int32) * p1))) / (64 : Int32) * (64 : Int32)))) / (4 : Int32) * (4 : Int32)))) / (32 : Int32) * (32 : Int32))), none] [.int v118_0] 174 0 0 := by
      intro v118_0 ev118_0
      try rw [ev118_0]
      clear ev118_0
      refine J_istore_14 X dL_burns_174 rfl (by decide) ?_
      refine J_iload_10 X dL_burns_176 ?_
      have K178_216 : ∀ (v178_0 : Int32), v178_0 = (L_burns_j178 σ p1) → J K h [some (.ref (α 0)), some (.ref (α 1)), some (.ref (α 2)), some (.ref (α 3)), some (.ref (α 7)), some (.int p1), some (.int ((σ 7 (ix (0 : Int32))) - (σ 7 (ix (0 : Int32))) / (24 : Int32) * (24 : Int32))), some (.int ((σ 7 (ix (0 : Int32))) / (24 : Int32))), some (.int ((σ 3 (ix (((6 : Int32) * p1) + (3 : Int32)))) - (σ 3 (ix (((6 : Int32) * p1) + (3 : Int32)))) / (32 : Int32) * (32 : Int32))), some (.int ((σ 3 (ix (((6 : Int32) * p1) + (3 : Int32)))) / (32 : Int32))), some (.int (L_burns_j50 σ p1)), some (.int ((σ 3 (ix ((6 : Int32) * p1))) - (σ 3 (ix ((6 : Int32) * p1))) / (64 : Int32) * (64 : Int32))), some (.int ((σ 0 (ix ((σ 3 (ix ((6 : Int32) * p1))) - (σ 3 (ix ((6 : Int32) * p1))) / (64 : Int32) * (64 : Int32)))) - (σ 0 (ix ((σ 3 (ix ((6 : Int32) * p1))) - (σ 3 (ix ((6 : Int32) * p1))) / (64 : Int32) * (64 : Int32)))) / (4 : Int32) * (4 : Int32))), some (.int ((σ 1 (ix ((σ 0 (ix ((σ 3 (ix ((6 : Int32) * p1))) - (σ 3 (ix ((6 : Int32) * p1))) / (64 : Int32) * (64 : Int32)))) - (σ 0 (ix ((σ 3 (ix ((6 : Int32) * p1))) - (σ 3 (ix ((6 : Int32) * p1))) / (64 : Int32) * (64 : Int32)))) / (4 : Int32) * (4 : Int32)))) - (σ 1 (ix ((σ 0 (ix ((σ 3 (ix ((6 : Int32) * p1))) - (σ 3 (ix ((6 : Int32) * p1))) / (64 : Int32) * (64 : Int32)))) - (σ 0 (ix ((σ 3 (ix ((6 : Int32) * p1))) - (σ 3 (ix ((6 : Int32) * p1))) / (64 : Int32) * (64 : Int32)))) / (4 : Int32) * (4 : Int32)))) / (32 : Int32) * (32 : Int32))), some (.int (L_burns_j118 σ p1))] [.int v178_0] 216 0 0 := by
        intro v178_0 ev178_0
        try rw [ev178_0]
        clear ev178_0
        exact J_zret X rfl (L_burns_j178_b ..) rfl ⟨by rw [q_v], rfl⟩ dL_burns_216
      have j178_0 : L_burns_j178 σ p1 = (if (L_burns_j50 σ p1) = (0 : Int32) then (0 : Int32) else (if (L_burns_j118 σ p1) = (0 : Int32) then (if (σ 7 (ix (0 : Int32))) < (σ 2 (ix (((4 : Int32) * (((σ 3 (ix ((6 : Int32) * p1))) / (64 : Int32)) - ((σ 3 (ix ((6 : Int32) * p1))) / (64 : Int32)) / (2 : Int32) * (2 : Int32))) + (3 : Int32)))) then (0 : Int32) else (1 : Int32)) else (0 : Int32))) := rfl
      refine J_if_eq (tgt := 215) X dL_burns_178 (by decide) (fun c178 => ?_) (fun c178 => ?_)
      · skip
        rw [if_pos c178] at j178_0
        refine J_iconst (v := 0) X dL_burns_215 rfl ?_
        exact K178_216 _ j178_0.symm
      · skip
        rw [if_neg c178] at j178_0
        refine J_iload_14 X dL_burns_181 ?_
        refine J_if_ne (tgt := 215) X dL_burns_183 (by decide) (fun c183 => ?_) (fun c183 => ?_)
        · skip
          rw [if_neg c183] at j178_0
          refine J_iconst (v := 0) X dL_burns_215 rfl ?_
          exact K178_216 _ j178_0.symm
        · skip
          rw [if_pos c183] at j178_0
          refine J_aload_2 X dL_burns_186 ?_
          refine J_iconst (v := 4) X dL_burns_187 rfl ?_
          refine J_aload_3 X dL_burns_188 ?_
          refine J_bipush (v := (6 : Int32)) X dL_burns_189 (by decide) ?_
          refine J_iload_5 X dL_burns_191 ?_
          refine J_imul X dL_burns_193 ?_
          refine JL_ld X hL 3 (by decide) (vp_up (vr_mul (vp_in_nI (n := 6) (N := 7) (by decide) (by decide)) h1 (by decide)) (by decide)) dL_burns_194 ?_
          refine J_bipush (v := (64 : Int32)) X dL_burns_195 (by decide) ?_
          refine J_idiv X dL_burns_197 (by decide) ?_
          refine J_iconst (v := 2) X dL_burns_198 rfl ?_
          refine J_irem X dL_burns_199 (by decide) ?_
          refine J_imul X dL_burns_200 ?_
          refine J_iconst (v := 3) X dL_burns_201 rfl ?_
          refine J_iadd X dL_burns_202 ?_
          refine JL_ld X hL 2 (by decide) (vp_up (vr_add (vr_mul (vp_in_nI (n := 4) (N := 5) (by decide) (by decide)) (vr_rem (c := 2) (vr_div (c := 64) (IL_3_0 hI (vp_up h1 (by decide : _ ≤ 10))) (by decide) (by decide) (by decide)) (by decide) (by decide) (by decide)) (by decide)) (vp_in_nI (n := 3) (N := 4) (by decide) (by decide)) (by decide)) (by decide)) dL_burns_203 ?_
          refine J_aload_4 X dL_burns_204 ?_
          refine J_iconst (v := 0) X dL_burns_206 rfl ?_
          refine JL_ld X hL 7 (by decide) (vp_up (vp_in_nI (n := 0) (N := 1) (by decide) (by decide)) (by decide)) dL_burns_207 ?_
          refine J_icmp_gt (tgt := 215) X dL_burns_208 (by decide) (fun c208 => ?_) (fun c208 => ?_)
          · skip
            rw [if_pos c208] at j178_0
            refine J_iconst (v := 0) X dL_burns_215 rfl ?_
            exact K178_216 _ j178_0.symm
          · skip
            rw [if_neg c208] at j178_0
            refine J_iconst (v := 1) X dL_burns_211 rfl ?_
            refine J_goto (tgt := 216) X dL_burns_212 (by decide) ?_
            exact K178_216 _ j178_0.symm
    have j118_0 : L_burns_j118 σ p1 = (if (24 : Int32) ≤ ((σ 1 (ix ((σ 0 (ix ((σ 3 (ix ((6 : Int32) * p1))) - (σ 3 (ix ((6 : Int32) * p1))) / (64 : Int32) * (64 : Int32)))) - (σ 0 (ix ((σ 3 (ix ((6 : Int32) * p1))) - (σ 3 (ix ((6 : Int32) * p1))) / (64 : Int32) * (64 : Int32)))) / (4 : Int32) * (4 : Int32)))) - (σ 1 (ix ((σ 0 (ix ((σ 3 (ix ((6 : Int32) * p1))) - (σ 3 (ix ((6 : Int32) * p1))) / (64 : Int32) * (64 : Int32)))) - (σ 0 (ix ((σ 3 (ix ((6 : Int32) * p1))) - (σ 3 (ix ((6 : Int32) * p1))) / (64 : Int32) * (64 : Int32)))) / (4 : Int32) * (4 : Int32)))) / (32 : Int32) * (32 : Int32)) then (0 : Int32) else (if ((σ 7 (ix (0 : Int32))) - (σ 7 (ix (0 : Int32))) / (24 : Int32) * (24 : Int32)) < (6 : Int32) then (if (128 : Int32) ≤ (σ 3 (ix ((6 : Int32) * p1))) then (0 : Int32) else (if (29 : Int32) < ((σ 7 (ix (0 : Int32))) / (24 : Int32)) then (1 : Int32) else (if (((σ 1 (ix ((4 : Int32) + ((σ 0 (ix ((σ 3 (ix ((6 : Int32) * p1))) - (σ 3 (ix ((6 : Int32) * p1))) / (64 : Int32) * (64 : Int32)))) - (σ 0 (ix ((σ 3 (ix ((6 : Int32) * p1))) - (σ 3 (ix ((6 : Int32) * p1))) / (64 : Int32) * (64 : Int32)))) / (4 : Int32) * (4 : Int32))))) >>> (((σ 7 (ix (0 : Int32))) / (24 : Int32)) &&& 31)) &&& (1 : Int32)) = (0 : Int32) then (1 : Int32) else (0 : Int32)))) else (if ((σ 7 (ix (0 : Int32))) - (σ 7 (ix (0 : Int32))) / (24 : Int32) * (24 : Int32)) < ((σ 1 (ix ((σ 0 (ix ((σ 3 (ix ((6 : Int32) * p1))) - (σ 3 (ix ((6 : Int32) * p1))) / (64 : Int32) * (64 : Int32)))) - (σ 0 (ix ((σ 3 (ix ((6 : Int32) * p1))) - (σ 3 (ix ((6 : Int32) * p1))) / (64 : Int32) * (64 : Int32)))) / (4 : Int32) * (4 : Int32)))) - (σ 1 (ix ((σ 0 (ix ((σ 3 (ix ((6 : Int32) * p1))) - (σ 3 (ix ((6 : Int32) * p1))) / (64 : Int32) * (64 : Int32)))) - (σ 0 (ix ((σ 3 (ix ((6 : Int32) * p1))) - (σ 3 (ix ((6 : Int32) * p1))) / (64 : Int32) * (64 : Int32)))) / (4 : Int32) * (4 : Int32)))) / (32 : Int32) * (32 : Int32)) then (0 : Int32) else (if (128 : Int32) ≤ (σ 3 (ix ((6 : Int32) * p1))) then (0 : Int32) else (if (29 : Int32) < ((σ 7 (ix (0 : Int32))) / (24 : Int32)) then (1 : Int32) else (if (((σ 1 (ix ((4 : Int32) + ((σ 0 (ix ((σ 3 (ix ((6 : Int32) * p1))) - (σ 3 (ix ((6 : Int32) * p1))) / (64 : Int32) * (64 : Int32)))) - (σ 0 (ix ((σ 3 (ix ((6 : Int32) * p1))) - (σ 3 (ix ((6 : Int32) * p1))) / (64 : Int32) * (64 : Int32)))) / (4 : Int32) * (4 : Int32))))) >>> (((σ 7 (ix (0 : Int32))) / (24 : Int32)) &&& 31)) &&& (1 : Int32)) = (0 : Int32) then (1 : Int32) else (0 : Int32))))))) := rfl
    refine J_icmp_ge (tgt := 173) X dL_burns_118 (by decide) (fun c118 => ?_) (fun c118 => ?_)
    · skip
      rw [if_pos c118] at j118_0
      refine J_iconst (v := 0) X dL_burns_173 rfl ?_
      exact K118_174 _ j118_0.symm
    · skip
      rw [if_neg c118] at j118_0
      refine J_iload_6 X dL_burns_121 ?_
      refine J_bipush (v := (6 : Int32)) X dL_burns_123 (by decide) ?_
      refine J_icmp_lt (tgt := 135) X dL_burns_125 (by decide) (fun c125 => ?_) (fun c125 => ?_)
      · skip
        rw [if_pos c125] at j118_0
        refine J_aload_3 X dL_burns_135 ?_
        refine J_bipush (v := (6 : Int32)) X dL_burns_136 (by decide) ?_
        refine J_iload_5 X dL_burns_138 ?_
        refine J_imul X dL_burns_140 ?_
        refine JL_ld X hL 3 (by decide) (vp_up (vr_mul (vp_in_nI (n := 6) (N := 7) (by decide) (by decide)) h1 (by decide)) (by decide)) dL_burns_141 ?_
        refine J_sipush (v := (128 : Int32)) X dL_burns_142 (by decide) ?_
        refine J_icmp_ge (tgt := 173) X dL_burns_145 (by decide) (fun c145 => ?_) (fun c145 => ?_)
        · skip
          rw [if_pos c145] at j118_0
          refine J_iconst (v := 0) X dL_burns_173 rfl ?_
          exact K118_174 _ j118_0.symm
        · skip
          rw [if_neg c145] at j118_0
          refine J_iload_7 X dL_burns_148 ?_
          refine J_bipush (v := (29 : Int32)) X dL_burns_150 (by decide) ?_
          refine J_icmp_gt (tgt := 169) X dL_burns_152 (by decide) (fun c152 => ?_) (fun c152 => ?_)
          · skip
            rw [if_pos c152] at j118_0
            refine J_iconst (v := 1) X dL_burns_169 rfl ?_
            refine J_goto (tgt := 174) X dL_burns_170 (by decide) ?_
            exact K118_174 _ j118_0.symm
          · skip
            rw [if_neg c152] at j118_0
            refine J_aload_1 X dL_burns_155 ?_
            refine J_iconst (v := 4) X dL_burns_156 rfl ?_
            refine J_iload_12 X dL_burns_157 ?_
            refine J_iadd X dL_burns_159 ?_
            refine JL_ld X hL 1 (by decide) (vp_up (vr_add (vp_in_nI (n := 4) (N := 5) (by decide) (by decide)) (vr_rem (c := 4) (IL_0 hI (vp_lt (vp_up (vr_rem (c := 64) (IL_3_0 hI (vp_up h1 (by decide : _ ≤ 10))) (by decide) (by decide) (by decide)) (by decide : _ ≤ 64)))) (by decide) (by decide) (by decide)) (by decide)) (by decide)) dL_burns_160 ?_
            refine J_iload_7 X dL_burns_161 ?_
            refine J_ishr X dL_burns_163 ?_
            refine J_iconst (v := 1) X dL_burns_164 rfl ?_
            refine J_iand X dL_burns_165 ?_
            refine J_if_ne (tgt := 173) X dL_burns_166 (by decide) (fun c166 => ?_) (fun c166 => ?_)
            · skip
              rw [if_neg c166] at j118_0
              refine J_iconst (v := 0) X dL_burns_173 rfl ?_
              exact K118_174 _ j118_0.symm
            · skip
              rw [if_pos c166] at j118_0
              refine J_iconst (v := 1) X dL_burns_169 rfl ?_
              refine J_goto (tgt := 174) X dL_burns_170 (by decide) ?_
              exact K118_174 _ j118_0.symm
      · skip
        rw [if_neg c125] at j118_0
        refine J_iload_6 X dL_burns_128 ?_
        refine J_iload_13 X dL_burns_130 ?_
        refine J_icmp_lt (tgt := 173) X dL_burns_132 (by decide) (fun c132 => ?_) (fun c132 => ?_)
        · skip
          rw [if_pos c132] at j118_0
          refine J_iconst (v := 0) X dL_burns_173 rfl ?_
          exact K118_174 _ j118_0.symm
        · skip
          rw [if_neg c132] at j118_0
          refine J_aload_3 X dL_burns_135 ?_
          refine J_bipush (v := (6 : Int32)) X dL_burns_136 (by decide) ?_
          refine J_iload_5 X dL_burns_138 ?_
          refine J_imul X dL_burns_140 ?_
          refine JL_ld X hL 3 (by decide) (vp_up (vr_mul (vp_in_nI (n := 6) (N := 7) (by decide) (by decide)) h1 (by decide)) (by decide)) dL_burns_141 ?_
          refine J_sipush (v := (128 : Int32)) X dL_burns_142 (by decide) ?_
          refine J_icmp_ge (tgt := 173) X dL_burns_145 (by decide) (fun c145 => ?_) (fun c145 => ?_)
          · skip
            rw [if_pos c145] at j118_0
            refine J_iconst (v := 0) X dL_burns_173 rfl ?_
            exact K118_174 _ j118_0.symm
          · skip
            rw [if_neg c145] at j118_0
            refine J_iload_7 X dL_burns_148 ?_
            refine J_bipush (v := (29 : Int32)) X dL_burns_150 (by decide) ?_
            refine J_icmp_gt (tgt := 169) X dL_burns_152 (by decide) (fun c152 => ?_) (fun c152 => ?_)
            · skip
              rw [if_pos c152] at j118_0
              refine J_iconst (v := 1) X dL_burns_169 rfl ?_
              refine J_goto (tgt := 174) X dL_burns_170 (by decide) ?_
              exact K118_174 _ j118_0.symm
            · skip
              rw [if_neg c152] at j118_0
              refine J_aload_1 X dL_burns_155 ?_
              refine J_iconst (v := 4) X dL_burns_156 rfl ?_
              refine J_iload_12 X dL_burns_157 ?_
              refine J_iadd X dL_burns_159 ?_
              refine JL_ld X hL 1 (by decide) (vp_up (vr_add (vp_in_nI (n := 4) (N := 5) (by decide) (by decide)) (vr_rem (c := 4) (IL_0 hI (vp_lt (vp_up (vr_rem (c := 64) (IL_3_0 hI (vp_up h1 (by decide : _ ≤ 10))) (by decide) (by decide) (by decide)) (by decide : _ ≤ 64)))) (by decide) (by decide) (by decide)) (by decide)) (by decide)) dL_burns_160 ?_
              refine J_iload_7 X dL_burns_161 ?_
              refine J_ishr X dL_burns_163 ?_
              refine J_iconst (v := 1) X dL_burns_164 rfl ?_
              refine J_iand X dL_burns_165 ?_
              refine J_if_ne (tgt := 173) X dL_burns_166 (by decide) (fun c166 => ?_) (fun c166 => ?_)
              · skip
                rw [if_neg c166] at j118_0
                refine J_iconst (v := 0) X dL_burns_173 rfl ?_
                exact K118_174 _ j118_0.symm
              · skip
                rw [if_pos c166] at j118_0
                refine J_iconst (v := 1) X dL_burns_169 rfl ?_
                refine J_goto (tgt := 174) X dL_burns_170 (by decide) ?_
                exact K118_174 _ j118_0.symm
  have j50_0 : L_burns_j50 σ p1 = (if ((σ 3 (ix (((6 : Int32) * p1) + (3 : Int32)))) - (σ 3 (ix (((6 : Int32) * p1) + (3 : Int32)))) / (32 : Int32) * (32 : Int32)) = ((σ 3 (ix (((6 : Int32) * p1) + (3 : Int32)))) / (32 : Int32)) then (1 : Int32) else (if (((((σ 3 (ix (((6 : Int32) * p1) + (3 : Int32)))) / (32 : Int32)) - ((σ 3 (ix (((6 : Int32) * p1) + (3 : Int32)))) - (σ 3 (ix (((6 : Int32) * p1) + (3 : Int32)))) / (32 : Int32) * (32 : Int32))) + (24 : Int32)) - ((((σ 3 (ix (((6 : Int32) * p1) + (3 : Int32)))) / (32 : Int32)) - ((σ 3 (ix (((6 : Int32) * p1) + (3 : Int32)))) - (σ 3 (ix (((6 : Int32) * p1) + (3 : Int32)))) / (32 : Int32) * (32 : Int32))) + (24 : Int32)) / (24 : Int32) * (24 : Int32)) ≤ (((((σ 7 (ix (0 : Int32))) - (σ 7 (ix (0 : Int32))) / (24 : Int32) * (24 : Int32)) - ((σ 3 (ix (((6 : Int32) * p1) + (3 : Int32)))) - (σ 3 (ix (((6 : Int32) * p1) + (3 : Int32)))) / (32 : Int32) * (32 : Int32))) + (24 : Int32)) - ((((σ 7 (ix (0 : Int32))) - (σ 7 (ix (0 : Int32))) / (24 : Int32) * (24 : Int32)) - ((σ 3 (ix (((6 : Int32) * p1) + (3 : Int32)))) - (σ 3 (ix (((6 : Int32) * p1) + (3 : Int32)))) / (32 : Int32) * (32 : Int32))) + (24 : Int32)) / (24 : Int32) * (24 : Int32)) then (0 : Int32) else (1 : Int32))) := rfl
  refine J_icmp_eq (tgt := 78) X dL_burns_50 (by decide) (fun c50 => ?_) (fun c50 => ?_)
  · skip
    rw [if_pos c50] at j50_0
    refine J_iconst (v := 1) X dL_burns_78 rfl ?_
    refine J_goto (tgt := 83) X dL_burns_79 (by decide) ?_
    exact K50_83 _ j50_0.symm
  · skip
    rw [if_neg c50] at j50_0
    refine J_iload_6 X dL_burns_53 ?_
    refine J_iload_8 X dL_burns_55 ?_
    refine J_isub X dL_burns_57 ?_
    refine J_bipush (v := (24 : Int32)) X dL_burns_58 (by decide) ?_
    refine J_iadd X dL_burns_60 ?_
    refine J_bipush (v := (24 : Int32)) X dL_burns_61 (by decide) ?_
    refine J_irem X dL_burns_63 (by decide) ?_
    refine J_iload_9 X dL_burns_64 ?_
    refine J_iload_8 X dL_burns_66 ?_
    refine J_isub X dL_burns_68 ?_
    refine J_bipush (v := (24 : Int32)) X dL_burns_69 (by decide) ?_
    refine J_iadd X dL_burns_71 ?_
    refine J_bipush (v := (24 : Int32)) X dL_burns_72 (by decide) ?_
    refine J_irem X dL_burns_74 (by decide) ?_
    refine J_icmp_ge (tgt := 82) X dL_burns_75 (by decide) (fun c75 => ?_) (fun c75 => ?_)
    · skip
      rw [if_pos c75] at j50_0
      refine J_iconst (v := 0) X dL_burns_82 rfl ?_
      exact K50_83 _ j50_0.symm
    · skip
      rw [if_neg c75] at j50_0
      refine J_iconst (v := 1) X dL_burns_78 rfl ?_
      refine J_goto (tgt := 83) X dL_burns_79 (by decide) ?_
      exact K50_83 _ j50_0.symm
def L_light_j23 (σ : St) (p1 : Int32) : Int32 := (if ((σ 3 (ix (((6 : Int32) * p1) + (4 : Int32)))) / (100 : Int32)) ≤ (50 : Int32) then ((100 : Int32) - ((σ 3 (ix (((6 : Int32) * p1) + (4 : Int32)))) / (100 : Int32))) else (50 : Int32))
def L_light (σ : St) (p1 : Int32) : Int32 := (((((σ 3 (ix (((6 : Int32) * p1) + (1 : Int32)))) * (L_light_j23 σ p1)) / (100 : Int32)) * ((10 : Int32) - ((σ 3 (ix (((6 : Int32) * p1) + (2 : Int32)))) / (64 : Int32)))) / (10 : Int32))
theorem cw_L_light : Cond.static yL_light ∈ GW ∧ Cond.initialized yL_light.cls ∈ GW ∧ Cond.code yL_light cL_light 4 (some .int) ∈ GW ∧ (yL_light.cls ≠ "java/lang/invoke/MethodHandle" ∧ yL_light.cls ≠ "java/lang/invoke/VarHandle") ∧ (parseMethodDescriptor yL_light.desc).map (fun d => d.parameters.length) = some 2 := ⟨gw_4_93, gw_1_0, gw_4_94, ⟨by decide, by decide⟩, by decide +kernel⟩
set_option maxRecDepth 100000 in
set_option maxHeartbeats 4000000 in
theorem c_L_light {l : Launch} {D : va_G} {ca : Nat → Nat} {h : fH} {α : Nat → Nat} {σ : St} (hL : LA ca h α σ) (hI : IL σ) (p1 : Int32) (h1 : vp_in p1 10) : FM l D ca yL_light (.code yL_light cL_light 4 (some .int)) { frames := 1, cells := 0, slots := 0, locals := 20 } [.ref (α 3), .int p1] h (pI (L_light σ p1) h) noX := by
  refine FM.of [some (.ref (α 3)), some (.int p1), none, none] (by decide) (Nat.le_of_ble_eq_true rfl) rfl ?_
  rintro K X rfl rfl rfl
  have q_v : (L_light σ p1) = (((((σ 3 (ix (((6 : Int32) * p1) + (1 : Int32)))) * (L_light_j23 σ p1)) / (100 : Int32)) * ((10 : Int32) - ((σ 3 (ix (((6 : Int32) * p1) + (2 : Int32)))) / (64 : Int32)))) / (10 : Int32)) := rfl
  refine J_aload_0 X dL_light_0 ?_
  refine J_bipush (v := (6 : Int32)) X dL_light_1 (by decide) ?_
  refine J_iload_1 X dL_light_3 ?_
  refine J_imul X dL_light_4 ?_
  refine J_iconst (v := 4) X dL_light_5 rfl ?_
  refine J_iadd X dL_light_6 ?_
  refine JL_ld X hL 3 (by decide) (vp_up (vr_add (vr_mul (vp_in_nI (n := 6) (N := 7) (by decide) (by decide)) h1 (by decide)) (vp_in_nI (n := 4) (N := 5) (by decide) (by decide)) (by decide)) (by decide)) dL_light_7 ?_
  refine J_bipush (v := (100 : Int32)) X dL_light_8 (by decide) ?_
  refine J_idiv X dL_light_10 (by decide) ?_
  refine J_istore_2 X dL_light_11 rfl (by decide) ?_
  refine J_aload_0 X dL_light_12 ?_
  refine J_bipush (v := (6 : Int32)) X dL_light_13 (by decide) ?_
  refine J_iload_1 X dL_light_15 ?_
  refine J_imul X dL_light_16 ?_
  refine J_iconst (v := 1) X dL_light_17 rfl ?_
  refine J_iadd X dL_light_18 ?_
  refine JL_ld X hL 3 (by decide) (vp_up (vr_add (vr_mul (vp_in_nI (n := 6) (N := 7) (by decide) (by decide)) h1 (by decide)) (vp_in_nI (n := 1) (N := 2) (by decide) (by decide)) (by decide)) (by decide)) dL_light_19 ?_
  refine J_iload_2 X dL_light_20 ?_
  refine J_bipush (v := (50 : Int32)) X dL_light_21 (by decide) ?_
  have K23_35 : ∀ (v23_0 : Int32), v23_0 = (L_light_j23 σ p1) → J K h [some (.ref (α 3)), some (.int p1), some (.int ((σ 3 (ix (((6 : Int32) * p1) + (4 : Int32)))) / (100 : Int32))), none] [.int v23_0, .int (σ 3 (ix (((6 : Int32) * p1) + (1 : Int32))))] 35 0 0 := by
    intro v23_0 ev23_0
    try rw [ev23_0]
    clear ev23_0
    refine J_imul X dL_light_35 ?_
    refine J_bipush (v := (100 : Int32)) X dL_light_36 (by decide) ?_
    refine J_idiv X dL_light_38 (by decide) ?_
    refine J_istore_3 X dL_light_39 rfl (by decide) ?_
    refine J_iload_3 X dL_light_40 ?_
    refine J_bipush (v := (10 : Int32)) X dL_light_41 (by decide) ?_
    refine J_aload_0 X dL_light_43 ?_
    refine J_bipush (v := (6 : Int32)) X dL_light_44 (by decide) ?_
    refine J_iload_1 X dL_light_46 ?_
    refine J_imul X dL_light_47 ?_
    refine J_iconst (v := 2) X dL_light_48 rfl ?_
    refine J_iadd X dL_light_49 ?_
    refine JL_ld X hL 3 (by decide) (vp_up (vr_add (vr_mul (vp_in_nI (n := 6) (N := 7) (by decide) (by decide)) h1 (by decide)) (vp_in_nI (n := 2) (N := 3) (by decide) (by decide)) (by decide)) (by decide)) dL_light_50 ?_
    refine J_bipush (v := (64 : Int32)) X dL_light_51 (by decide) ?_
    refine J_idiv X dL_light_53 (by decide) ?_
    refine J_isub X dL_light_54 ?_
    refine J_imul X dL_light_55 ?_
    refine J_bipush (v := (10 : Int32)) X dL_light_56 (by decide) ?_
    refine J_idiv X dL_light_58 (by decide) ?_
    exact J_iret X rfl rfl ⟨by rw [q_v], rfl⟩ dL_light_59
  have j23_0 : L_light_j23 σ p1 = (if ((σ 3 (ix (((6 : Int32) * p1) + (4 : Int32)))) / (100 : Int32)) ≤ (50 : Int32) then ((100 : Int32) - ((σ 3 (ix (((6 : Int32) * p1) + (4 : Int32)))) / (100 : Int32))) else (50 : Int32)) := rfl
  refine J_icmp_le (tgt := 31) X dL_light_23 (by decide) (fun c23 => ?_) (fun c23 => ?_)
  · skip
    rw [if_pos c23] at j23_0
    refine J_bipush (v := (100 : Int32)) X dL_light_31 (by decide) ?_
    refine J_iload_2 X dL_light_33 ?_
    refine J_isub X dL_light_34 ?_
    exact K23_35 _ j23_0.symm
  · skip
    rw [if_neg c23] at j23_0
    refine J_bipush (v := (50 : Int32)) X dL_light_26 (by decide) ?_
    refine J_goto (tgt := 35) X dL_light_28 (by decide) ?_
    exact K23_35 _ j23_0.symm
def L_isUnlawful_j26 (σ : St) (p1 : Int32) : Int32 := (if (128 : Int32) ≤ (σ 3 (ix ((6 : Int32) * p1))) then (0 : Int32) else (if (((σ 1 (ix ((σ 0 (ix ((σ 3 (ix ((6 : Int32) * p1))) - (σ 3 (ix ((6 : Int32) * p1))) / (64 : Int32) * (64 : Int32)))) - (σ 0 (ix ((σ 3 (ix ((6 : Int32) * p1))) - (σ 3 (ix ((6 : Int32) * p1))) / (64 : Int32) * (64 : Int32)))) / (4 : Int32) * (4 : Int32)))) / (32 : Int32)) - ((σ 1 (ix ((σ 0 (ix ((σ 3 (ix ((6 : Int32) * p1))) - (σ 3 (ix ((6 : Int32) * p1))) / (64 : Int32) * (64 : Int32)))) - (σ 0 (ix ((σ 3 (ix ((6 : Int32) * p1))) - (σ 3 (ix ((6 : Int32) * p1))) / (64 : Int32) * (64 : Int32)))) / (4 : Int32) * (4 : Int32)))) / (32 : Int32)) / (4 : Int32) * (4 : Int32)) < ((σ 3 (ix (((6 : Int32) * p1) + (2 : Int32)))) - (σ 3 (ix (((6 : Int32) * p1) + (2 : Int32)))) / (4 : Int32) * (4 : Int32)) then (1 : Int32) else (if ((σ 1 (ix ((σ 0 (ix ((σ 3 (ix ((6 : Int32) * p1))) - (σ 3 (ix ((6 : Int32) * p1))) / (64 : Int32) * (64 : Int32)))) - (σ 0 (ix ((σ 3 (ix ((6 : Int32) * p1))) - (σ 3 (ix ((6 : Int32) * p1))) / (64 : Int32) * (64 : Int32)))) / (4 : Int32) * (4 : Int32)))) / (128 : Int32)) ≤ (((σ 3 (ix (((6 : Int32) * p1) + (2 : Int32)))) / (4 : Int32)) - ((σ 3 (ix (((6 : Int32) * p1) + (2 : Int32)))) / (4 : Int32)) / (16 : Int32) * (16 : Int32)) then (0 : Int32) else (1 : Int32))))
theorem L_isUnlawful_j26_b (σ : St) (p1 : Int32) : L_isUnlawful_j26 σ p1 = 0 ∨ L_isUnlawful_j26 σ p1 = 1 := by
  unfold L_isUnlawful_j26
  (repeat' split) <;> first | exact Or.inl (by with_reducible rfl) | exact Or.inr (by with_reducible rfl)
def L_isUnlawful (σ : St) (p1 : Int32) : Int32 := (L_isUnlawful_j26 σ p1)
theorem L_isUnlawful_b (σ : St) (p1 : Int32) : (L_isUnlawful σ p1) = 0 ∨ (L_isUnlawful σ p1) = 1 := by
  unfold L_isUnlawful
  (repeat' split) <;> first | exact Or.inl (by with_reducible rfl) | exact Or.inr (by with_reducible rfl) | exact L_isUnlawful_j26_b ..
theorem cw_L_isUnlawful : Cond.static yL_isUnlawful ∈ GW ∧ Cond.initialized yL_isUnlawful.cls ∈ GW ∧ Cond.code yL_isUnlawful cL_isUnlawful 5 (some .boolean) ∈ GW ∧ (yL_isUnlawful.cls ≠ "java/lang/invoke/MethodHandle" ∧ yL_isUnlawful.cls ≠ "java/lang/invoke/VarHandle") ∧ (parseMethodDescriptor yL_isUnlawful.desc).map (fun d => d.parameters.length) = some 4 := ⟨gw_4_105, gw_1_0, gw_4_106, ⟨by decide, by decide⟩, by decide +kernel⟩
set_option maxRecDepth 100000 in
set_option maxHeartbeats 4000000 in
theorem c_L_isUnlawful {l : Launch} {D : va_G} {ca : Nat → Nat} {h : fH} {α : Nat → Nat} {σ : St} (hL : LA ca h α σ) (hI : IL σ) (p1 : Int32) (h1 : vp_in p1 10) : FM l D ca yL_isUnlawful (.code yL_isUnlawful cL_isUnlawful 5 (some .boolean)) { frames := 1, cells := 0, slots := 0, locals := 20 } [.ref (α 0), .ref (α 1), .ref (α 3), .int p1] h (pI (L_isUnlawful σ p1) h) noX := by
  refine FM.of [some (.ref (α 0)), some (.ref (α 1)), some (.ref (α 3)), some (.int p1), none] (by decide) (Nat.le_of_ble_eq_true rfl) rfl ?_
  rintro K X rfl rfl rfl
  have q_v : (L_isUnlawful σ p1) = (L_isUnlawful_j26 σ p1) := rfl
  refine J_aload_1 X dL_isUnlawful_0 ?_
  refine J_aload_0 X dL_isUnlawful_1 ?_
  refine J_aload_2 X dL_isUnlawful_2 ?_
  refine J_bipush (v := (6 : Int32)) X dL_isUnlawful_3 (by decide) ?_
  refine J_iload_3 X dL_isUnlawful_5 ?_
  refine J_imul X dL_isUnlawful_6 ?_
  refine JL_ld X hL 3 (by decide) (vp_up (vr_mul (vp_in_nI (n := 6) (N := 7) (by decide) (by decide)) h1 (by decide)) (by decide)) dL_isUnlawful_7 ?_
  refine J_bipush (v := (64 : Int32)) X dL_isUnlawful_8 (by decide) ?_
  refine J_irem X dL_isUnlawful_10 (by decide) ?_
  refine JL_ld X hL 0 (by decide) (vp_up (vr_rem (c := 64) (IL_3_0 hI (vp_up h1 (by decide : _ ≤ 10))) (by decide) (by decide) (by decide)) (by decide)) dL_isUnlawful_11 ?_
  refine J_iconst (v := 4) X dL_isUnlawful_12 rfl ?_
  refine J_irem X dL_isUnlawful_13 (by decide) ?_
  refine JL_ld X hL 1 (by decide) (vp_up (vr_rem (c := 4) (IL_0 hI (vp_lt (vp_up (vr_rem (c := 64) (IL_3_0 hI (vp_up h1 (by decide : _ ≤ 10))) (by decide) (by decide) (by decide)) (by decide : _ ≤ 64)))) (by decide) (by decide) (by decide)) (by decide)) dL_isUnlawful_14 ?_
  refine J_istore_4 X dL_isUnlawful_15 rfl (by decide) ?_
  refine J_aload_2 X dL_isUnlawful_17 ?_
  refine J_bipush (v := (6 : Int32)) X dL_isUnlawful_18 (by decide) ?_
  refine J_iload_3 X dL_isUnlawful_20 ?_
  refine J_imul X dL_isUnlawful_21 ?_
  refine JL_ld X hL 3 (by decide) (vp_up (vr_mul (vp_in_nI (n := 6) (N := 7) (by decide) (by decide)) h1 (by decide)) (by decide)) dL_isUnlawful_22 ?_
  refine J_sipush (v := (128 : Int32)) X dL_isUnlawful_23 (by decide) ?_
  have K26_76 : ∀ (v26_0 : Int32), v26_0 = (L_isUnlawful_j26 σ p1) → J K h [some (.ref (α 0)), some (.ref (α 1)), some (.ref (α 3)), some (.int p1), some (.int (σ 1 (ix ((σ 0 (ix ((σ 3 (ix ((6 : Int32) * p1))) - (σ 3 (ix ((6 : Int32) * p1))) / (64 : Int32) * (64 : Int32)))) - (σ 0 (ix ((σ 3 (ix ((6 : Int32) * p1))) - (σ 3 (ix ((6 : Int32) * p1))) / (64 : Int32) * (64 : Int32)))) / (4 : Int32) * (4 : Int32)))))] [.int v26_0] 76 0 0 := by
    intro v26_0 ev26_0
    try rw [ev26_0]
    clear ev26_0
    exact J_zret X rfl (L_isUnlawful_j26_b ..) rfl ⟨by rw [q_v], rfl⟩ dL_isUnlawful_76
  have j26_0 : L_isUnlawful_j26 σ p1 = (if (128 : Int32) ≤ (σ 3 (ix ((6 : Int32) * p1))) then (0 : Int32) else (if (((σ 1 (ix ((σ 0 (ix ((σ 3 (ix ((6 : Int32) * p1))) - (σ 3 (ix ((6 : Int32) * p1))) / (64 : Int32) * (64 : Int32)))) - (σ 0 (ix ((σ 3 (ix ((6 : Int32) * p1))) - (σ 3 (ix ((6 : Int32) * p1))) / (64 : Int32) * (64 : Int32)))) / (4 : Int32) * (4 : Int32)))) / (32 : Int32)) - ((σ 1 (ix ((σ 0 (ix ((σ 3 (ix ((6 : Int32) * p1))) - (σ 3 (ix ((6 : Int32) * p1))) / (64 : Int32) * (64 : Int32)))) - (σ 0 (ix ((σ 3 (ix ((6 : Int32) * p1))) - (σ 3 (ix ((6 : Int32) * p1))) / (64 : Int32) * (64 : Int32)))) / (4 : Int32) * (4 : Int32)))) / (32 : Int32)) / (4 : Int32) * (4 : Int32)) < ((σ 3 (ix (((6 : Int32) * p1) + (2 : Int32)))) - (σ 3 (ix (((6 : Int32) * p1) + (2 : Int32)))) / (4 : Int32) * (4 : Int32)) then (1 : Int32) else (if ((σ 1 (ix ((σ 0 (ix ((σ 3 (ix ((6 : Int32) * p1))) - (σ 3 (ix ((6 : Int32) * p1))) / (64 : Int32) * (64 : Int32)))) - (σ 0 (ix ((σ 3 (ix ((6 : Int32) * p1))) - (σ 3 (ix ((6 : Int32) * p1))) / (64 : Int32) * (64 : Int32)))) / (4 : Int32) * (4 : Int32)))) / (128 : Int32)) ≤ (((σ 3 (ix (((6 : Int32) * p1) + (2 : Int32)))) / (4 : Int32)) - ((σ 3 (ix (((6 : Int32) * p1) + (2 : Int32)))) / (4 : Int32)) / (16 : Int32) * (16 : Int32)) then (0 : Int32) else (1 : Int32)))) := rfl
  refine J_icmp_ge (tgt := 75) X dL_isUnlawful_26 (by decide) (fun c26 => ?_) (fun c26 => ?_)
  · skip
    rw [if_pos c26] at j26_0
    refine J_iconst (v := 0) X dL_isUnlawful_75 rfl ?_
    exact K26_76 _ j26_0.symm
  · skip
    rw [if_neg c26] at j26_0
    refine J_aload_2 X dL_isUnlawful_29 ?_
    refine J_bipush (v := (6 : Int32)) X dL_isUnlawful_30 (by decide) ?_
    refine J_iload_3 X dL_isUnlawful_32 ?_
    refine J_imul X dL_isUnlawful_33 ?_
    refine J_iconst (v := 2) X dL_isUnlawful_34 rfl ?_
    refine J_iadd X dL_isUnlawful_35 ?_
    refine JL_ld X hL 3 (by decide) (vp_up (vr_add (vr_mul (vp_in_nI (n := 6) (N := 7) (by decide) (by decide)) h1 (by decide)) (vp_in_nI (n := 2) (N := 3) (by decide) (by decide)) (by decide)) (by decide)) dL_isUnlawful_36 ?_
    refine J_iconst (v := 4) X dL_isUnlawful_37 rfl ?_
    refine J_irem X dL_isUnlawful_38 (by decide) ?_
    refine J_iload_4 X dL_isUnlawful_39 ?_
    refine J_bipush (v := (32 : Int32)) X dL_isUnlawful_41 (by decide) ?_
    refine J_idiv X dL_isUnlawful_43 (by decide) ?_
    refine J_iconst (v := 4) X dL_isUnlawful_44 rfl ?_
    refine J_irem X dL_isUnlawful_45 (by decide) ?_
    refine J_icmp_gt (tgt := 71) X dL_isUnlawful_46 (by decide) (fun c46 => ?_) (fun c46 => ?_)
    · skip
      rw [if_pos c46] at j26_0
      refine J_iconst (v := 1) X dL_isUnlawful_71 rfl ?_
      refine J_goto (tgt := 76) X dL_isUnlawful_72 (by decide) ?_
      exact K26_76 _ j26_0.symm
    · skip
      rw [if_neg c46] at j26_0
      refine J_aload_2 X dL_isUnlawful_49 ?_
      refine J_bipush (v := (6 : Int32)) X dL_isUnlawful_50 (by decide) ?_
      refine J_iload_3 X dL_isUnlawful_52 ?_
      refine J_imul X dL_isUnlawful_53 ?_
      refine J_iconst (v := 2) X dL_isUnlawful_54 rfl ?_
      refine J_iadd X dL_isUnlawful_55 ?_
      refine JL_ld X hL 3 (by decide) (vp_up (vr_add (vr_mul (vp_in_nI (n := 6) (N := 7) (by decide) (by decide)) h1 (by decide)) (vp_in_nI (n := 2) (N := 3) (by decide) (by decide)) (by decide)) (by decide)) dL_isUnlawful_56 ?_
      refine J_iconst (v := 4) X dL_isUnlawful_57 rfl ?_
      refine J_idiv X dL_isUnlawful_58 (by decide) ?_
      refine J_bipush (v := (16 : Int32)) X dL_isUnlawful_59 (by decide) ?_
      refine J_irem X dL_isUnlawful_61 (by decide) ?_
      refine J_iload_4 X dL_isUnlawful_62 ?_
      refine J_sipush (v := (128 : Int32)) X dL_isUnlawful_64 (by decide) ?_
      refine J_idiv X dL_isUnlawful_67 (by decide) ?_
      refine J_icmp_ge (tgt := 75) X dL_isUnlawful_68 (by decide) (fun c68 => ?_) (fun c68 => ?_)
      · skip
        rw [if_pos c68] at j26_0
        refine J_iconst (v := 0) X dL_isUnlawful_75 rfl ?_
        exact K26_76 _ j26_0.symm
      · skip
        rw [if_neg c68] at j26_0
        refine J_iconst (v := 1) X dL_isUnlawful_71 rfl ?_
        refine J_goto (tgt := 76) X dL_isUnlawful_72 (by decide) ?_
        exact K26_76 _ j26_0.symm
theorem size_d {a b : Nat} (ha : a < 64) (hb : b < 64) : L_size (nI a - nI b) = nI (if b ≤ a then a - b else b - a) := by
  unfold L_size L_size_j1
  have e := pk_sub_toInt (a := a) (b := b) (by omega) (by omega)
  by_cases h : b ≤ a
  · rw [if_pos h, pk_sub h]
    by_cases z : a - b = 0
    · rw [z]
      rfl
    · rw [if_neg (nI_nle (by omega) (by omega))]
  · rw [if_neg h, if_pos (by rw [Int32.le_iff_toInt_le, e, show (0 : Int32).toInt = 0 from rfl]; omega), ← pk_sub (by omega : a ≤ b), Int32.neg_sub]
theorem sh_loc {p : Int32} (h : vp_in p 64) : p - p / (8 : Int32) * (8 : Int32) = nI (ix p % 8) ∧ p / (8 : Int32) = nI (ix p / 8) := by
  have a := vp_lt h
  have e := vp_nI' h (by decide)
  generalize ix p = j at *
  subst e
  exact ⟨pk_rem (d := 8) (by omega) (by decide) (by decide), pk_div (d := 8) (by omega) (by decide) (by decide)⟩
section SHD
variable {p1 p2 : Int32}
theorem sh_sx (h1 : vp_in p1 64) (h2 : vp_in p2 64) : L_size ((p2 - p2 / (8 : Int32) * (8 : Int32)) - (p1 - p1 / (8 : Int32) * (8 : Int32))) = nI (ix (L_size ((p2 - p2 / (8 : Int32) * (8 : Int32)) - (p1 - p1 / (8 : Int32) * (8 : Int32))))) ∧ ix (L_size ((p2 - p2 / (8 : Int32) * (8 : Int32)) - (p1 - p1 / (8 : Int32) * (8 : Int32)))) < 8 := by
  have a1 := vp_lt h1
  have a2 := vp_lt h2
  rw [(sh_loc h1).1, (sh_loc h2).1, size_d (by omega) (by omega), ixn (by split <;> omega)]
  exact ⟨rfl, by split <;> omega⟩
theorem sh_sy (h1 : vp_in p1 64) (h2 : vp_in p2 64) : L_size ((p2 / (8 : Int32)) - (p1 / (8 : Int32))) = nI (ix (L_size ((p2 / (8 : Int32)) - (p1 / (8 : Int32))))) ∧ ix (L_size ((p2 / (8 : Int32)) - (p1 / (8 : Int32)))) < 8 := by
  have a1 := vp_lt h1
  have a2 := vp_lt h2
  rw [(sh_loc h1).2, (sh_loc h2).2, size_d (by omega) (by omega), ixn (by split <;> omega)]
  exact ⟨rfl, by split <;> omega⟩
theorem sh_pos {a b : Nat} (ha : a < 64) (hb : b < 64) : (0 : Int32) ≤ nI b - nI a ↔ a ≤ b := by
  rw [Int32.le_iff_toInt_le, pk_sub_toInt (by omega) (by omega), show (0 : Int32).toInt = 0 from rfl]
  omega
theorem sh_at (h1 : vp_in p1 64) (h2 : vp_in p2 64) {x y : Nat} (hx : x ≤ ix (L_size ((p2 - p2 / (8 : Int32) * (8 : Int32)) - (p1 - p1 / (8 : Int32) * (8 : Int32))))) (hy : y ≤ ix (L_size ((p2 / (8 : Int32)) - (p1 / (8 : Int32))))) :
    vp_in ((p1 + (if (0 : Int32) ≤ ((p2 - p2 / (8 : Int32) * (8 : Int32)) - (p1 - p1 / (8 : Int32) * (8 : Int32))) then nI x else -(nI x))) + ((8 : Int32) * (if (0 : Int32) ≤ ((p2 / (8 : Int32)) - (p1 / (8 : Int32))) then nI y else -(nI y)))) 64 := by
  have a1 := vp_lt h1
  have a2 := vp_lt h2
  have e1 := vp_nI' h1 (by decide)
  rw [(sh_loc h1).1, (sh_loc h2).1, size_d (by omega) (by omega), ixn (by split <;> omega)] at hx
  rw [(sh_loc h1).2, (sh_loc h2).2, size_d (by omega) (by omega), ixn (by split <;> omega)] at hy
  rw [(sh_loc h1).1, (sh_loc h2).1, (sh_loc h1).2, (sh_loc h2).2]
  generalize ix p1 = a at *
  generalize ix p2 = b at *
  subst e1
  have c1 := sh_pos (a := a % 8) (b := b % 8) (by omega) (by omega)
  have c2 := sh_pos (a := a / 8) (b := b / 8) (by omega) (by omega)
  by_cases d1 : a % 8 ≤ b % 8
  · rw [if_pos (c1.mpr d1), nI_add]
    rw [if_pos d1] at hx
    by_cases d2 : a / 8 ≤ b / 8
    · rw [if_pos (c2.mpr d2), show (8 : Int32) = nI 8 from rfl, pk_mul, nI_add]
      rw [if_pos d2] at hy
      exact vp_in_nI (by omega) (by decide)
    · rw [if_neg (fun z => d2 (c2.mp z)), show (8 : Int32) = nI 8 from rfl, Int32.mul_neg, pk_mul, ← Int32.sub_eq_add_neg, pk_sub (by rw [if_neg d2] at hy; omega)]
      rw [if_neg d2] at hy
      exact vp_in_nI (by omega) (by decide)
  · rw [if_neg (fun z => d1 (c1.mp z)), ← Int32.sub_eq_add_neg, pk_sub (by rw [if_neg d1] at hx; omega)]
    rw [if_neg d1] at hx
    by_cases d2 : a / 8 ≤ b / 8
    · rw [if_pos (c2.mpr d2), show (8 : Int32) = nI 8 from rfl, pk_mul, nI_add]
      rw [if_pos d2] at hy
      exact vp_in_nI (by omega) (by decide)
    · rw [if_neg (fun z => d2 (c2.mp z)), show (8 : Int32) = nI 8 from rfl, Int32.mul_neg, pk_mul, ← Int32.sub_eq_add_neg, pk_sub (by rw [if_neg d2] at hy; omega)]
      rw [if_neg d2] at hy
      exact vp_in_nI (by omega) (by decide)
end SHD
theorem sq88 : ∀ x y : Fin 8, ∃ n : Fin 50, (nI x.1 - nI y.1) * (nI x.1 - nI y.1) = nI n.1 := by decide +kernel
theorem apart_nI {a b : Int32} (h1 : vp_in a 64) (h2 : vp_in b 64) : ∃ n, n < 99 ∧ L_apart a b = nI (n + 1) := by
  have a1 := vp_lt h1
  have a2 := vp_lt h2
  unfold L_apart
  rw [(sh_loc h1).1, (sh_loc h2).1, (sh_loc h1).2, (sh_loc h2).2]
  obtain ⟨⟨n, hn⟩, e⟩ := sq88 ⟨ix a % 8, by omega⟩ ⟨ix b % 8, by omega⟩
  obtain ⟨⟨m, hm⟩, e'⟩ := sq88 ⟨ix a / 8, by omega⟩ ⟨ix b / 8, by omega⟩
  dsimp only at e e'
  rw [e, e', nI_add, nI_1]
  exact ⟨n + m, by omega, rfl⟩
theorem apart_nz {a b : Int32} (h1 : vp_in a 64) (h2 : vp_in b 64) : ¬ L_apart a b = 0 := by
  obtain ⟨n, hn, e⟩ := apart_nI h1 h2
  rw [e]
  exact nI_ne0 (by omega) (by omega)
def L_isShaded_j30 (σ : St) (p1 : Int32) (p2 : Int32) : Int32 := (if (L_size ((p2 - p2 / (8 : Int32) * (8 : Int32)) - (p1 - p1 / (8 : Int32) * (8 : Int32)))) ≤ (L_size ((p2 / (8 : Int32)) - (p1 / (8 : Int32)))) then (L_size ((p2 / (8 : Int32)) - (p1 / (8 : Int32)))) else (L_size ((p2 - p2 / (8 : Int32) * (8 : Int32)) - (p1 - p1 / (8 : Int32) * (8 : Int32)))))
def L_isShaded_j73 (σ : St) (p1 : Int32) (p2 : Int32) (k50 : Nat) (k62 : Nat) : Int32 := (if (0 : Int32) ≤ ((p2 - p2 / (8 : Int32) * (8 : Int32)) - (p1 - p1 / (8 : Int32) * (8 : Int32))) then (nI k50) else (-(nI k50)))
def L_isShaded_j88 (σ : St) (p1 : Int32) (p2 : Int32) (k50 : Nat) (k62 : Nat) : Int32 := (if (0 : Int32) ≤ ((p2 / (8 : Int32)) - (p1 / (8 : Int32))) then (nI k62) else (-(nI k62)))
def L_isShaded_L62 (σ : St) (p1 : Int32) (p2 : Int32) (k50 : Nat) (K62 : Unit → Int32) : Nat → Nat → Unit → Int32
  | 0, _, _ => K62 ()
  | n62 + 1, k62, _ => (if ((p1 + (L_isShaded_j73 σ p1 p2 k50 k62)) + ((8 : Int32) * (L_isShaded_j88 σ p1 p2 k50 k62))) = p1 then (L_isShaded_L62 σ p1 p2 k50 K62 n62 (k62 + 1) ()) else (if ((p1 + (L_isShaded_j73 σ p1 p2 k50 k62)) + ((8 : Int32) * (L_isShaded_j88 σ p1 p2 k50 k62))) = p2 then (L_isShaded_L62 σ p1 p2 k50 K62 n62 (k62 + 1) ()) else (if (σ 0 (ix ((p1 + (L_isShaded_j73 σ p1 p2 k50 k62)) + ((8 : Int32) * (L_isShaded_j88 σ p1 p2 k50 k62))))) ≤ (3 : Int32) then (L_isShaded_L62 σ p1 p2 k50 K62 n62 (k62 + 1) ()) else (if (L_isShaded_j30 σ p1 p2) < ((2 : Int32) * ((((p2 - p2 / (8 : Int32) * (8 : Int32)) - (p1 - p1 / (8 : Int32) * (8 : Int32))) * (L_isShaded_j88 σ p1 p2 k50 k62)) - (((p2 / (8 : Int32)) - (p1 / (8 : Int32))) * (L_isShaded_j73 σ p1 p2 k50 k62)))) then (L_isShaded_L62 σ p1 p2 k50 K62 n62 (k62 + 1) ()) else (if (L_isShaded_j30 σ p1 p2) < ((-2 : Int32) * ((((p2 - p2 / (8 : Int32) * (8 : Int32)) - (p1 - p1 / (8 : Int32) * (8 : Int32))) * (L_isShaded_j88 σ p1 p2 k50 k62)) - (((p2 / (8 : Int32)) - (p1 / (8 : Int32))) * (L_isShaded_j73 σ p1 p2 k50 k62)))) then (L_isShaded_L62 σ p1 p2 k50 K62 n62 (k62 + 1) ()) else (1 : Int32))))))
def L_isShaded_L50 (σ : St) (p1 : Int32) (p2 : Int32) (K50 : Unit → Int32) : Nat → Nat → Unit → Int32
  | 0, _, _ => K50 ()
  | n50 + 1, k50, _ => (L_isShaded_L62 σ p1 p2 k50 (fun _ => (L_isShaded_L50 σ p1 p2 K50 n50 (k50 + 1) ())) (ix (L_size ((p2 / (8 : Int32)) - (p1 / (8 : Int32)))) + 1) 0 ())
def L_isShaded (σ : St) (p1 : Int32) (p2 : Int32) : Int32 := (L_isShaded_L50 σ p1 p2 (fun _ => (0 : Int32)) (ix (L_size ((p2 - p2 / (8 : Int32) * (8 : Int32)) - (p1 - p1 / (8 : Int32) * (8 : Int32)))) + 1) 0 ())
theorem cw_L_isShaded : Cond.static yL_isShaded ∈ GW ∧ Cond.initialized yL_isShaded.cls ∈ GW ∧ Cond.code yL_isShaded cL_isShaded 12 (some .boolean) ∈ GW ∧ (yL_isShaded.cls ≠ "java/lang/invoke/MethodHandle" ∧ yL_isShaded.cls ≠ "java/lang/invoke/VarHandle") ∧ (parseMethodDescriptor yL_isShaded.desc).map (fun d => d.parameters.length) = some 3 := ⟨gw_4_99, gw_1_0, gw_4_100, ⟨by decide, by decide⟩, by decide +kernel⟩
set_option maxRecDepth 100000 in
set_option maxHeartbeats 4000000 in
theorem c_L_isShaded {l : Launch} {D : va_G} {ca : Nat → Nat} {h : fH} {α : Nat → Nat} {σ : St} (hL : LA ca h α σ) (hI : IL σ) (p1 : Int32) (p2 : Int32) (h1 : vp_in p1 64) (h2 : vp_in p2 64) : FM l D ca yL_isShaded (.code yL_isShaded cL_isShaded 12 (some .boolean)) { frames := 2, cells := 0, slots := 0, locals := 40 } [.ref (α 0), .int p1, .int p2] h (pI (L_isShaded σ p1 p2) h) noX := by
  refine FM.of [some (.ref (α 0)), some (.int p1), some (.int p2), none, none, none, none, none, none, none, none, none] (by decide) (Nat.le_of_ble_eq_true rfl) rfl ?_
  rintro K X rfl rfl rfl
  have q_v : (L_isShaded σ p1 p2) = (L_isShaded_L50 σ p1 p2 (fun _ => (0 : Int32)) (ix (L_size ((p2 - p2 / (8 : Int32) * (8 : Int32)) - (p1 - p1 / (8 : Int32) * (8 : Int32)))) + 1) 0 ()) := rfl
  refine J_iload_2 X dL_isShaded_0 ?_
  refine J_bipush (v := (8 : Int32)) X dL_isShaded_1 (by decide) ?_
  refine J_irem X dL_isShaded_3 (by decide) ?_
  refine J_iload_1 X dL_isShaded_4 ?_
  refine J_bipush (v := (8 : Int32)) X dL_isShaded_5 (by decide) ?_
  refine J_irem X dL_isShaded_7 (by decide) ?_
  refine J_isub X dL_isShaded_8 ?_
  refine J_istore_3 X dL_isShaded_9 rfl (by decide) ?_
  refine J_iload_2 X dL_isShaded_10 ?_
  refine J_bipush (v := (8 : Int32)) X dL_isShaded_11 (by decide) ?_
  refine J_idiv X dL_isShaded_13 (by decide) ?_
  refine J_iload_1 X dL_isShaded_14 ?_
  refine J_bipush (v := (8 : Int32)) X dL_isShaded_15 (by decide) ?_
  refine J_idiv X dL_isShaded_17 (by decide) ?_
  refine J_isub X dL_isShaded_18 ?_
  refine J_istore_4 X dL_isShaded_19 rfl (by decide) ?_
  refine J_iload_3 X dL_isShaded_21 ?_
  refine J_callS X (c_L_size ((p2 - p2 / (8 : Int32) * (8 : Int32)) - (p1 - p1 / (8 : Int32) * (8 : Int32)))) (And.intro gw_4_101 cw_L_size) rfl rfl (Nat.le_of_ble_eq_true rfl) dL_isShaded_22 rfl (J.pi ?_) JE.no
  refine J_iload_4 X dL_isShaded_25 ?_
  refine J_callS X (c_L_size ((p2 / (8 : Int32)) - (p1 / (8 : Int32)))) (And.intro gw_4_101 cw_L_size) rfl rfl (Nat.le_of_ble_eq_true rfl) dL_isShaded_27 rfl (J.pi ?_) JE.no
  have K30_45 : ∀ (v30_0 : Int32), v30_0 = (L_isShaded_j30 σ p1 p2) → J K h [some (.ref (α 0)), some (.int p1), some (.int p2), some (.int ((p2 - p2 / (8 : Int32) * (8 : Int32)) - (p1 - p1 / (8 : Int32) * (8 : Int32)))), some (.int ((p2 / (8 : Int32)) - (p1 / (8 : Int32)))), none, none, none, none, none, none, none] [.int v30_0] 45 0 0 := by
    intro v30_0 ev30_0
    try rw [ev30_0]
    clear ev30_0
    refine J_istore_5 X dL_isShaded_45 rfl (by decide) ?_
    refine J_iconst (v := 0) X dL_isShaded_47 rfl ?_
    refine J_istore_6 X dL_isShaded_48 rfl (by decide) ?_
    obtain ⟨K50, hK50⟩ : ∃ f : Unit → Int32, f = (fun _ => (0 : Int32)) := ⟨_, rfl⟩
    have X50 : ∀  (_ : True), (L_isShaded σ p1 p2) = (0 : Int32) → J K h [some (.ref (α 0)), some (.int p1), some (.int p2), some (.int ((p2 - p2 / (8 : Int32) * (8 : Int32)) - (p1 - p1 / (8 : Int32) * (8 : Int32)))), some (.int ((p2 / (8 : Int32)) - (p1 / (8 : Int32)))), some (.int (L_isShaded_j30 σ p1 p2)), none, none, none, none, none, none] [] 178 0 0 := by
      intro   _  q_v
      refine J_iconst (v := 0) X dL_isShaded_178 rfl ?_
      exact J_zret X rfl (by first | exact Or.inl rfl | exact Or.inr rfl) rfl ⟨by rw [q_v], rfl⟩ dL_isShaded_179
    have L50 : ∀ (n50 k50 : Nat) , k50 + n50 = (ix (L_size ((p2 - p2 / (8 : Int32) * (8 : Int32)) - (p1 - p1 / (8 : Int32) * (8 : Int32)))) + 1) → (L_isShaded σ p1 p2) = (L_isShaded_L50 σ p1 p2 K50 n50 k50 ()) → J K h [some (.ref (α 0)), some (.int p1), some (.int p2), some (.int ((p2 - p2 / (8 : Int32) * (8 : Int32)) - (p1 - p1 / (8 : Int32) * (8 : Int32)))), some (.int ((p2 / (8 : Int32)) - (p1 / (8 : Int32)))), some (.int (L_isShaded_j30 σ p1 p2)), some (.int (nI k50)), none, none, none, none, none] [] 50 0 0 := by
      intro n50
      induction n50 with
      | zero =>
        intro k50   hk50  q_v
        rw [L_isShaded_L50] at q_v
        refine J_iload_6 X dL_isShaded_50 ?_
        refine J_iload_3 X dL_isShaded_52 ?_
        refine J_callS X (c_L_size ((p2 - p2 / (8 : Int32) * (8 : Int32)) - (p1 - p1 / (8 : Int32) * (8 : Int32)))) (And.intro gw_4_101 cw_L_size) rfl rfl (Nat.le_of_ble_eq_true rfl) dL_isShaded_53 rfl (J.pi ?_) JE.no
        refine J_icmp_gt (tgt := 178) X dL_isShaded_56 (by decide) (fun _ => ?_) (fun c => absurd (lpg_exit (sh_sx h1 h2).1 (by have := (sh_sx h1 h2).2; omega) hk50) c)
        rw [hK50] at q_v
        refine J.subL (lv' := [some (.ref (α 0)), some (.int p1), some (.int p2), some (.int ((p2 - p2 / (8 : Int32) * (8 : Int32)) - (p1 - p1 / (8 : Int32) * (8 : Int32)))), some (.int ((p2 / (8 : Int32)) - (p1 / (8 : Int32)))), some (.int (L_isShaded_j30 σ p1 p2)), none, none, none, none, none, none]) (And.intro rfl (And.intro rfl (And.intro rfl (And.intro rfl (And.intro rfl (And.intro rfl trivial)))))) ?_
        exact X50   trivial  q_v
      | succ n50 ih50 =>
        intro k50   hk50  q_v
        rw [L_isShaded_L50] at q_v
        have hlt50 : k50 < (ix (L_size ((p2 - p2 / (8 : Int32) * (8 : Int32)) - (p1 - p1 / (8 : Int32) * (8 : Int32)))) + 1) := by omega
        refine J_iload_6 X dL_isShaded_50 ?_
        refine J_iload_3 X dL_isShaded_52 ?_
        refine J_callS X (c_L_size ((p2 - p2 / (8 : Int32) * (8 : Int32)) - (p1 - p1 / (8 : Int32) * (8 : Int32)))) (And.intro gw_4_101 cw_L_size) rfl rfl (Nat.le_of_ble_eq_true rfl) dL_isShaded_53 rfl (J.pi ?_) JE.no
        refine J_icmp_gt (tgt := 178) X dL_isShaded_56 (by decide) (fun c => absurd c (lpg_stay (sh_sx h1 h2).1 (by have := (sh_sx h1 h2).2; omega) hk50)) (fun _ => ?_)
        refine J_iconst (v := 0) X dL_isShaded_59 rfl ?_
        refine J_istore_7 X dL_isShaded_60 rfl (by decide) ?_
        obtain ⟨K62, hK62⟩ : ∃ f : Unit → Int32, f = (fun _ => (L_isShaded_L50 σ p1 p2 K50 n50 (k50 + 1) ())) := ⟨_, rfl⟩
        have X62 : ∀  (_ : True), (L_isShaded σ p1 p2) = (L_isShaded_L50 σ p1 p2 K50 n50 (k50 + 1) ()) → J K h [some (.ref (α 0)), some (.int p1), some (.int p2), some (.int ((p2 - p2 / (8 : Int32) * (8 : Int32)) - (p1 - p1 / (8 : Int32) * (8 : Int32)))), some (.int ((p2 / (8 : Int32)) - (p1 / (8 : Int32)))), some (.int (L_isShaded_j30 σ p1 p2)), some (.int (nI k50)), none, none, none, none, none] [] 172 0 0 := by
          intro   _  q_v
          refine J_iinc_6 (v := (nI (k50 + 1))) X dL_isShaded_172 (nI_1 _) rfl (by decide) ?_
          refine J_goto (tgt := 50) X dL_isShaded_175 (by decide) ?_
          exact ih50 (k50 + 1)   (by omega)  q_v
        have L62 : ∀ (n62 k62 : Nat) , k62 + n62 = (ix (L_size ((p2 / (8 : Int32)) - (p1 / (8 : Int32)))) + 1) → (L_isShaded σ p1 p2) = (L_isShaded_L62 σ p1 p2 k50 K62 n62 k62 ()) → J K h [some (.ref (α 0)), some (.int p1), some (.int p2), some (.int ((p2 - p2 / (8 : Int32) * (8 : Int32)) - (p1 - p1 / (8 : Int32) * (8 : Int32)))), some (.int ((p2 / (8 : Int32)) - (p1 / (8 : Int32)))), some (.int (L_isShaded_j30 σ p1 p2)), some (.int (nI k50)), some (.int (nI k62)), none, none, none, none] [] 62 0 0 := by
          intro n62
          induction n62 with
          | zero =>
            intro k62   hk62  q_v
            rw [L_isShaded_L62] at q_v
            refine J_iload_7 X dL_isShaded_62 ?_
            refine J_iload_4 X dL_isShaded_64 ?_
            refine J_callS X (c_L_size ((p2 / (8 : Int32)) - (p1 / (8 : Int32)))) (And.intro gw_4_101 cw_L_size) rfl rfl (Nat.le_of_ble_eq_true rfl) dL_isShaded_66 rfl (J.pi ?_) JE.no
            refine J_icmp_gt (tgt := 172) X dL_isShaded_69 (by decide) (fun _ => ?_) (fun c => absurd (lpg_exit (sh_sy h1 h2).1 (by have := (sh_sy h1 h2).2; omega) hk62) c)
            rw [hK62] at q_v
            refine J.subL (lv' := [some (.ref (α 0)), some (.int p1), some (.int p2), some (.int ((p2 - p2 / (8 : Int32) * (8 : Int32)) - (p1 - p1 / (8 : Int32) * (8 : Int32)))), some (.int ((p2 / (8 : Int32)) - (p1 / (8 : Int32)))), some (.int (L_isShaded_j30 σ p1 p2)), some (.int (nI k50)), none, none, none, none, none]) (And.intro rfl (And.intro rfl (And.intro rfl (And.intro rfl (And.intro rfl (And.intro rfl (And.intro rfl trivial))))))) ?_
            exact X62   trivial  q_v
          | succ n62 ih62 =>
            intro k62   hk62  q_v
            rw [L_isShaded_L62] at q_v
            have hlt62 : k62 < (ix (L_size ((p2 / (8 : Int32)) - (p1 / (8 : Int32)))) + 1) := by omega
            refine J_iload_7 X dL_isShaded_62 ?_
            refine J_iload_4 X dL_isShaded_64 ?_
            refine J_callS X (c_L_size ((p2 / (8 : Int32)) - (p1 / (8 : Int32)))) (And.intro gw_4_101 cw_L_size) rfl rfl (Nat.le_of_ble_eq_true rfl) dL_isShaded_66 rfl (J.pi ?_) JE.no
            refine J_icmp_gt (tgt := 172) X dL_isShaded_69 (by decide) (fun c => absurd c (lpg_stay (sh_sy h1 h2).1 (by have := (sh_sy h1 h2).2; omega) hk62)) (fun _ => ?_)
            refine J_iload_3 X dL_isShaded_72 ?_
            have K73_84 : ∀ (v73_0 : Int32), v73_0 = (L_isShaded_j73 σ p1 p2 k50 k62) → J K h [some (.ref (α 0)), some (.int p1), some (.int p2), some (.int ((p2 - p2 / (8 : Int32) * (8 : Int32)) - (p1 - p1 / (8 : Int32) * (8 : Int32)))), some (.int ((p2 / (8 : Int32)) - (p1 / (8 : Int32)))), some (.int (L_isShaded_j30 σ p1 p2)), some (.int (nI k50)), some (.int (nI k62)), none, none, none, none] [.int v73_0] 84 0 0 := by
              intro v73_0 ev73_0
              try rw [ev73_0]
              clear ev73_0
              refine J_istore_8 X dL_isShaded_84 rfl (by decide) ?_
              refine J_iload_4 X dL_isShaded_86 ?_
              have K88_99 : ∀ (v88_0 : Int32), v88_0 = (L_isShaded_j88 σ p1 p2 k50 k62) → J K h [some (.ref (α 0)), some (.int p1), some (.int p2), some (.int ((p2 - p2 / (8 : Int32) * (8 : Int32)) - (p1 - p1 / (8 : Int32) * (8 : Int32)))), some (.int ((p2 / (8 : Int32)) - (p1 / (8 : Int32)))), some (.int (L_isShaded_j30 σ p1 p2)), some (.int (nI k50)), some (.int (nI k62)), some (.int (L_isShaded_j73 σ p1 p2 k50 k62)), none, none, none] [.int v88_0] 99 0 0 := by
                intro v88_0 ev88_0
                try rw [ev88_0]
                clear ev88_0
                refine J_istore_9 X dL_isShaded_99 rfl (by decide) ?_
                refine J_iload_1 X dL_isShaded_101 ?_
                refine J_iload_8 X dL_isShaded_102 ?_
                refine J_iadd X dL_isShaded_104 ?_
                refine J_bipush (v := (8 : Int32)) X dL_isShaded_105 (by decide) ?_
                refine J_iload_9 X dL_isShaded_107 ?_
                refine J_imul X dL_isShaded_109 ?_
                refine J_iadd X dL_isShaded_110 ?_
                refine J_istore_10 X dL_isShaded_111 rfl (by decide) ?_
                refine J_iload_3 X dL_isShaded_113 ?_
                refine J_iload_9 X dL_isShaded_114 ?_
                refine J_imul X dL_isShaded_116 ?_
                refine J_iload_4 X dL_isShaded_117 ?_
                refine J_iload_8 X dL_isShaded_119 ?_
                refine J_imul X dL_isShaded_121 ?_
                refine J_isub X dL_isShaded_122 ?_
                refine J_istore_11 X dL_isShaded_123 rfl (by decide) ?_
                refine J_iload_10 X dL_isShaded_125 ?_
                refine J_iload_1 X dL_isShaded_127 ?_
                refine J_icmp_eq (tgt := 166) X dL_isShaded_128 (by decide) (fun c128 => ?_) (fun c128 => ?_)
                · skip
                  rw [if_pos c128] at q_v
                  refine J_iinc_7 (v := (nI (k62 + 1))) X dL_isShaded_166 (nI_1 _) rfl (by decide) ?_
                  refine J_goto (tgt := 62) X dL_isShaded_169 (by decide) ?_
                  refine J.subL (lv' := [some (.ref (α 0)), some (.int p1), some (.int p2), some (.int ((p2 - p2 / (8 : Int32) * (8 : Int32)) - (p1 - p1 / (8 : Int32) * (8 : Int32)))), some (.int ((p2 / (8 : Int32)) - (p1 / (8 : Int32)))), some (.int (L_isShaded_j30 σ p1 p2)), some (.int (nI k50)), some (.int (nI (k62 + 1))), none, none, none, none]) (And.intro rfl (And.intro rfl (And.intro rfl (And.intro rfl (And.intro rfl (And.intro rfl (And.intro rfl (And.intro rfl trivial)))))))) ?_
                  exact ih62 (k62 + 1)   (by omega)  q_v
                · skip
                  rw [if_neg c128] at q_v
                  refine J_iload_10 X dL_isShaded_131 ?_
                  refine J_iload_2 X dL_isShaded_133 ?_
                  refine J_icmp_eq (tgt := 166) X dL_isShaded_134 (by decide) (fun c134 => ?_) (fun c134 => ?_)
                  · skip
                    rw [if_pos c134] at q_v
                    refine J_iinc_7 (v := (nI (k62 + 1))) X dL_isShaded_166 (nI_1 _) rfl (by decide) ?_
                    refine J_goto (tgt := 62) X dL_isShaded_169 (by decide) ?_
                    refine J.subL (lv' := [some (.ref (α 0)), some (.int p1), some (.int p2), some (.int ((p2 - p2 / (8 : Int32) * (8 : Int32)) - (p1 - p1 / (8 : Int32) * (8 : Int32)))), some (.int ((p2 / (8 : Int32)) - (p1 / (8 : Int32)))), some (.int (L_isShaded_j30 σ p1 p2)), some (.int (nI k50)), some (.int (nI (k62 + 1))), none, none, none, none]) (And.intro rfl (And.intro rfl (And.intro rfl (And.intro rfl (And.intro rfl (And.intro rfl (And.intro rfl (And.intro rfl trivial)))))))) ?_
                    exact ih62 (k62 + 1)   (by omega)  q_v
                  · skip
                    rw [if_neg c134] at q_v
                    refine J_aload_0 X dL_isShaded_137 ?_
                    refine J_iload_10 X dL_isShaded_138 ?_
                    refine JL_ld X hL 0 (by decide) (by unfold L_isShaded_j73 L_isShaded_j88; exact sh_at h1 h2 (by omega) (by omega)) dL_isShaded_140 ?_
                    refine J_iconst (v := 3) X dL_isShaded_141 rfl ?_
                    refine J_icmp_le (tgt := 166) X dL_isShaded_142 (by decide) (fun c142 => ?_) (fun c142 => ?_)
                    · skip
                      rw [if_pos c142] at q_v
                      refine J_iinc_7 (v := (nI (k62 + 1))) X dL_isShaded_166 (nI_1 _) rfl (by decide) ?_
                      refine J_goto (tgt := 62) X dL_isShaded_169 (by decide) ?_
                      refine J.subL (lv' := [some (.ref (α 0)), some (.int p1), some (.int p2), some (.int ((p2 - p2 / (8 : Int32) * (8 : Int32)) - (p1 - p1 / (8 : Int32) * (8 : Int32)))), some (.int ((p2 / (8 : Int32)) - (p1 / (8 : Int32)))), some (.int (L_isShaded_j30 σ p1 p2)), some (.int (nI k50)), some (.int (nI (k62 + 1))), none, none, none, none]) (And.intro rfl (And.intro rfl (And.intro rfl (And.intro rfl (And.intro rfl (And.intro rfl (And.intro rfl (And.intro rfl trivial)))))))) ?_
                      exact ih62 (k62 + 1)   (by omega)  q_v
                    · skip
                      rw [if_neg c142] at q_v
                      refine J_iconst (v := 2) X dL_isShaded_145 rfl ?_
                      refine J_iload_11 X dL_isShaded_146 ?_
                      refine J_imul X dL_isShaded_148 ?_
                      refine J_iload_5 X dL_isShaded_149 ?_
                      refine J_icmp_gt (tgt := 166) X dL_isShaded_151 (by decide) (fun c151 => ?_) (fun c151 => ?_)
                      · skip
                        rw [if_pos c151] at q_v
                        refine J_iinc_7 (v := (nI (k62 + 1))) X dL_isShaded_166 (nI_1 _) rfl (by decide) ?_
                        refine J_goto (tgt := 62) X dL_isShaded_169 (by decide) ?_
                        refine J.subL (lv' := [some (.ref (α 0)), some (.int p1), some (.int p2), some (.int ((p2 - p2 / (8 : Int32) * (8 : Int32)) - (p1 - p1 / (8 : Int32) * (8 : Int32)))), some (.int ((p2 / (8 : Int32)) - (p1 / (8 : Int32)))), some (.int (L_isShaded_j30 σ p1 p2)), some (.int (nI k50)), some (.int (nI (k62 + 1))), none, none, none, none]) (And.intro rfl (And.intro rfl (And.intro rfl (And.intro rfl (And.intro rfl (And.intro rfl (And.intro rfl (And.intro rfl trivial)))))))) ?_
                        exact ih62 (k62 + 1)   (by omega)  q_v
                      · skip
                        rw [if_neg c151] at q_v
                        refine J_bipush (v := (-2 : Int32)) X dL_isShaded_154 (by decide) ?_
                        refine J_iload_11 X dL_isShaded_156 ?_
                        refine J_imul X dL_isShaded_158 ?_
                        refine J_iload_5 X dL_isShaded_159 ?_
                        refine J_icmp_gt (tgt := 166) X dL_isShaded_161 (by decide) (fun c161 => ?_) (fun c161 => ?_)
                        · skip
                          rw [if_pos c161] at q_v
                          refine J_iinc_7 (v := (nI (k62 + 1))) X dL_isShaded_166 (nI_1 _) rfl (by decide) ?_
                          refine J_goto (tgt := 62) X dL_isShaded_169 (by decide) ?_
                          refine J.subL (lv' := [some (.ref (α 0)), some (.int p1), some (.int p2), some (.int ((p2 - p2 / (8 : Int32) * (8 : Int32)) - (p1 - p1 / (8 : Int32) * (8 : Int32)))), some (.int ((p2 / (8 : Int32)) - (p1 / (8 : Int32)))), some (.int (L_isShaded_j30 σ p1 p2)), some (.int (nI k50)), some (.int (nI (k62 + 1))), none, none, none, none]) (And.intro rfl (And.intro rfl (And.intro rfl (And.intro rfl (And.intro rfl (And.intro rfl (And.intro rfl (And.intro rfl trivial)))))))) ?_
                          exact ih62 (k62 + 1)   (by omega)  q_v
                        · skip
                          rw [if_neg c161] at q_v
                          refine J_iconst (v := 1) X dL_isShaded_164 rfl ?_
                          exact J_zret X rfl (by first | exact Or.inl rfl | exact Or.inr rfl) rfl ⟨by rw [q_v], rfl⟩ dL_isShaded_165
              have j88_0 : L_isShaded_j88 σ p1 p2 k50 k62 = (if (0 : Int32) ≤ ((p2 / (8 : Int32)) - (p1 / (8 : Int32))) then (nI k62) else (-(nI k62))) := rfl
              refine J_if_ge (tgt := 97) X dL_isShaded_88 (by decide) (fun c88 => ?_) (fun c88 => ?_)
              · skip
                rw [if_pos c88] at j88_0
                refine J_iload_7 X dL_isShaded_97 ?_
                exact K88_99 _ j88_0.symm
              · skip
                rw [if_neg c88] at j88_0
                refine J_iload_7 X dL_isShaded_91 ?_
                refine J_ineg X dL_isShaded_93 ?_
                refine J_goto (tgt := 99) X dL_isShaded_94 (by decide) ?_
                exact K88_99 _ j88_0.symm
            have j73_0 : L_isShaded_j73 σ p1 p2 k50 k62 = (if (0 : Int32) ≤ ((p2 - p2 / (8 : Int32) * (8 : Int32)) - (p1 - p1 / (8 : Int32) * (8 : Int32))) then (nI k50) else (-(nI k50))) := rfl
            refine J_if_ge (tgt := 82) X dL_isShaded_73 (by decide) (fun c73 => ?_) (fun c73 => ?_)
            · skip
              rw [if_pos c73] at j73_0
              refine J_iload_6 X dL_isShaded_82 ?_
              exact K73_84 _ j73_0.symm
            · skip
              rw [if_neg c73] at j73_0
              refine J_iload_6 X dL_isShaded_76 ?_
              refine J_ineg X dL_isShaded_78 ?_
              refine J_goto (tgt := 84) X dL_isShaded_79 (by decide) ?_
              exact K73_84 _ j73_0.symm
        have q_v : (L_isShaded σ p1 p2) = (L_isShaded_L62 σ p1 p2 k50 K62 (ix (L_size ((p2 / (8 : Int32)) - (p1 / (8 : Int32)))) + 1) 0 ()) := by rw [hK62]; exact q_v
        exact L62 (ix (L_size ((p2 / (8 : Int32)) - (p1 / (8 : Int32)))) + 1) 0   (Nat.zero_add _)  q_v
    have q_v : (L_isShaded σ p1 p2) = (L_isShaded_L50 σ p1 p2 K50 (ix (L_size ((p2 - p2 / (8 : Int32) * (8 : Int32)) - (p1 - p1 / (8 : Int32) * (8 : Int32)))) + 1) 0 ()) := by rw [hK50]; exact q_v
    exact L50 (ix (L_size ((p2 - p2 / (8 : Int32) * (8 : Int32)) - (p1 - p1 / (8 : Int32) * (8 : Int32)))) + 1) 0   (Nat.zero_add _)  q_v
  have j30_0 : L_isShaded_j30 σ p1 p2 = (if (L_size ((p2 - p2 / (8 : Int32) * (8 : Int32)) - (p1 - p1 / (8 : Int32) * (8 : Int32)))) ≤ (L_size ((p2 / (8 : Int32)) - (p1 / (8 : Int32)))) then (L_size ((p2 / (8 : Int32)) - (p1 / (8 : Int32)))) else (L_size ((p2 - p2 / (8 : Int32) * (8 : Int32)) - (p1 - p1 / (8 : Int32) * (8 : Int32))))) := rfl
  refine J_icmp_le (tgt := 40) X dL_isShaded_30 (by decide) (fun c30 => ?_) (fun c30 => ?_)
  · skip
    rw [if_pos c30] at j30_0
    refine J_iload_4 X dL_isShaded_40 ?_
    refine J_callS X (c_L_size ((p2 / (8 : Int32)) - (p1 / (8 : Int32)))) (And.intro gw_4_101 cw_L_size) rfl rfl (Nat.le_of_ble_eq_true rfl) dL_isShaded_42 rfl (J.pi ?_) JE.no
    exact K30_45 _ j30_0.symm
  · skip
    rw [if_neg c30] at j30_0
    refine J_iload_3 X dL_isShaded_33 ?_
    refine J_callS X (c_L_size ((p2 - p2 / (8 : Int32) * (8 : Int32)) - (p1 - p1 / (8 : Int32) * (8 : Int32)))) (And.intro gw_4_101 cw_L_size) rfl rfl (Nat.le_of_ble_eq_true rfl) dL_isShaded_34 rfl (J.pi ?_) JE.no
    refine J_goto (tgt := 45) X dL_isShaded_37 (by decide) ?_
    exact K30_45 _ j30_0.symm
def L_gives_j23 (σ : St) (p1 : Int32) (p2 : Int32) : Int32 := (if (L_burns σ p1) = (0 : Int32) then (0 : Int32) else (((L_light σ p1) * ((10 : Int32) - (((σ 3 (ix (((6 : Int32) * p1) + (2 : Int32)))) / (4 : Int32)) - ((σ 3 (ix (((6 : Int32) * p1) + (2 : Int32)))) / (4 : Int32)) / (16 : Int32) * (16 : Int32)))) / (10 : Int32)))
def L_gives_j70 (σ : St) (p1 : Int32) (p2 : Int32) : Int32 := (if ((σ 3 (ix (((6 : Int32) * p1) + (2 : Int32)))) - (σ 3 (ix (((6 : Int32) * p1) + (2 : Int32)))) / (4 : Int32) * (4 : Int32)) = (0 : Int32) then (L_gives_j23 σ p1 p2) else (if ((σ 3 (ix (((6 : Int32) * p1) + (2 : Int32)))) - (σ 3 (ix (((6 : Int32) * p1) + (2 : Int32)))) / (4 : Int32) * (4 : Int32)) = (1 : Int32) then ((2 : Int32) * (L_gives_j23 σ p1 p2)) else ((4 : Int32) * (L_gives_j23 σ p1 p2))))
def L_gives_j122 (σ : St) (p1 : Int32) (p2 : Int32) : Int32 := (if (L_isShaded σ ((σ 3 (ix ((6 : Int32) * p1))) - (σ 3 (ix ((6 : Int32) * p1))) / (64 : Int32) * (64 : Int32)) p2) = (0 : Int32) then ((L_gives_j70 σ p1 p2) / (L_apart ((σ 3 (ix ((6 : Int32) * p1))) - (σ 3 (ix ((6 : Int32) * p1))) / (64 : Int32) * (64 : Int32)) p2)) else (((L_gives_j70 σ p1 p2) / (L_apart ((σ 3 (ix ((6 : Int32) * p1))) - (σ 3 (ix ((6 : Int32) * p1))) / (64 : Int32) * (64 : Int32)) p2)) / (2 : Int32)))
def L_gives_j140 (σ : St) (p1 : Int32) (p2 : Int32) : Int32 := (if (σ 7 (ix (1 : Int32))) = (0 : Int32) then (L_gives_j122 σ p1 p2) else (if (σ 7 (ix (1 : Int32))) = (1 : Int32) then ((L_gives_j122 σ p1 p2) + (L_gives_j122 σ p1 p2)) else ((5 : Int32) * (L_gives_j122 σ p1 p2))))
def L_gives (σ : St) (p1 : Int32) (p2 : Int32) : Int32 := (L_gives_j140 σ p1 p2)
theorem cw_L_gives : Cond.static yL_gives ∈ GW ∧ Cond.initialized yL_gives.cls ∈ GW ∧ Cond.code yL_gives cL_gives 9 (some .int) ∈ GW ∧ (yL_gives.cls ≠ "java/lang/invoke/MethodHandle" ∧ yL_gives.cls ≠ "java/lang/invoke/VarHandle") ∧ (parseMethodDescriptor yL_gives.desc).map (fun d => d.parameters.length) = some 7 := ⟨gw_4_90, gw_1_0, gw_4_91, ⟨by decide, by decide⟩, by decide +kernel⟩
set_option maxRecDepth 100000 in
set_option maxHeartbeats 4000000 in
theorem c_L_gives {l : Launch} {D : va_G} {ca : Nat → Nat} {h : fH} {α : Nat → Nat} {σ : St} (hL : LA ca h α σ) (hI : IL σ) (p1 : Int32) (p2 : Int32) (h1 : vp_in p1 10) (h2 : vp_in p2 64) : FM l D ca yL_gives (.code yL_gives cL_gives 9 (some .int)) { frames := 3, cells := 0, slots := 0, locals := 71 } [.ref (α 0), .ref (α 1), .ref (α 2), .ref (α 3), .ref (α 7), .int p1, .int p2] h (pI (L_gives σ p1 p2) h) noX := by
  refine FM.of [some (.ref (α 0)), some (.ref (α 1)), some (.ref (α 2)), some (.ref (α 3)), some (.ref (α 7)), some (.int p1), some (.int p2), none, none] (by decide) (Nat.le_of_ble_eq_true rfl) rfl ?_
  rintro K X rfl rfl rfl
  have q_v : (L_gives σ p1 p2) = (L_gives_j140 σ p1 p2) := rfl
  refine J_aload_3 X dL_gives_0 ?_
  refine J_bipush (v := (6 : Int32)) X dL_gives_1 (by decide) ?_
  refine J_iload_5 X dL_gives_3 ?_
  refine J_imul X dL_gives_5 ?_
  refine JL_ld X hL 3 (by decide) (vp_up (vr_mul (vp_in_nI (n := 6) (N := 7) (by decide) (by decide)) h1 (by decide)) (by decide)) dL_gives_6 ?_
  refine J_bipush (v := (64 : Int32)) X dL_gives_7 (by decide) ?_
  refine J_irem X dL_gives_9 (by decide) ?_
  refine J_istore_7 X dL_gives_10 rfl (by decide) ?_
  refine J_aload_0 X dL_gives_12 ?_
  refine J_aload_1 X dL_gives_13 ?_
  refine J_aload_2 X dL_gives_14 ?_
  refine J_aload_3 X dL_gives_15 ?_
  refine J_aload_4 X dL_gives_16 ?_
  refine J_iload_5 X dL_gives_18 ?_
  refine J_callS X (c_L_burns hL hI p1 (vp_up h1 (by decide))) (And.intro gw_4_86 cw_L_burns) rfl rfl (Nat.le_of_ble_eq_true rfl) dL_gives_20 rfl (J.pi ?_) JE.no
  have K23_57 : ∀ (v23_0 : Int32), v23_0 = (L_gives_j23 σ p1 p2) → J K h [some (.ref (α 0)), some (.ref (α 1)), some (.ref (α 2)), some (.ref (α 3)), some (.ref (α 7)), some (.int p1), some (.int p2), some (.int ((σ 3 (ix ((6 : Int32) * p1))) - (σ 3 (ix ((6 : Int32) * p1))) / (64 : Int32) * (64 : Int32))), none] [.int v23_0] 57 0 0 := by
    intro v23_0 ev23_0
    try rw [ev23_0]
    clear ev23_0
    refine J_istore_8 X dL_gives_57 rfl (by decide) ?_
    refine J_aload_3 X dL_gives_59 ?_
    refine J_bipush (v := (6 : Int32)) X dL_gives_60 (by decide) ?_
    refine J_iload_5 X dL_gives_62 ?_
    refine J_imul X dL_gives_64 ?_
    refine J_iconst (v := 2) X dL_gives_65 rfl ?_
    refine J_iadd X dL_gives_66 ?_
    refine JL_ld X hL 3 (by decide) (vp_up (vr_add (vr_mul (vp_in_nI (n := 6) (N := 7) (by decide) (by decide)) h1 (by decide)) (vp_in_nI (n := 2) (N := 3) (by decide) (by decide)) (by decide)) (by decide)) dL_gives_67 ?_
    refine J_iconst (v := 4) X dL_gives_68 rfl ?_
    refine J_irem X dL_gives_69 (by decide) ?_
    have K70_104 : ∀ (v70_0 : Int32), v70_0 = (L_gives_j70 σ p1 p2) → J K h [some (.ref (α 0)), some (.ref (α 1)), some (.ref (α 2)), some (.ref (α 3)), some (.ref (α 7)), some (.int p1), some (.int p2), some (.int ((σ 3 (ix ((6 : Int32) * p1))) - (σ 3 (ix ((6 : Int32) * p1))) / (64 : Int32) * (64 : Int32))), some (.int (L_gives_j23 σ p1 p2))] [.int v70_0] 104 0 0 := by
      intro v70_0 ev70_0
      try rw [ev70_0]
      clear ev70_0
      refine J_iload_7 X dL_gives_104 ?_
      refine J_iload_6 X dL_gives_106 ?_
      refine J_callS X (c_L_apart ((σ 3 (ix ((6 : Int32) * p1))) - (σ 3 (ix ((6 : Int32) * p1))) / (64 : Int32) * (64 : Int32)) p2) (And.intro gw_4_95 cw_L_apart) rfl rfl (Nat.le_of_ble_eq_true rfl) dL_gives_108 rfl (J.pi ?_) JE.no
      refine J_idiv X dL_gives_111 (apart_nz (vr_rem (c := 64) (IL_3_0 hI h1) (by decide) (by decide) (by decide)) h2) ?_
      refine J_istore_8 X dL_gives_112 rfl (by decide) ?_
      refine J_aload_0 X dL_gives_114 ?_
      refine J_iload_7 X dL_gives_115 ?_
      refine J_iload_6 X dL_gives_117 ?_
      refine J_callS X (c_L_isShaded hL hI ((σ 3 (ix ((6 : Int32) * p1))) - (σ 3 (ix ((6 : Int32) * p1))) / (64 : Int32) * (64 : Int32)) p2 (vp_up (vr_rem (c := 64) (IL_3_0 hI (vp_up h1 (by decide : _ ≤ 10))) (by decide) (by decide) (by decide)) (by decide)) (vp_up h2 (by decide))) (And.intro gw_4_98 cw_L_isShaded) rfl rfl (Nat.le_of_ble_eq_true rfl) dL_gives_119 rfl (J.pi ?_) JE.no
      have K122_134 : ∀ (v122_0 : Int32), v122_0 = (L_gives_j122 σ p1 p2) → J K h [some (.ref (α 0)), some (.ref (α 1)), some (.ref (α 2)), some (.ref (α 3)), some (.ref (α 7)), some (.int p1), some (.int p2), some (.int ((σ 3 (ix ((6 : Int32) * p1))) - (σ 3 (ix ((6 : Int32) * p1))) / (64 : Int32) * (64 : Int32))), some (.int ((L_gives_j70 σ p1 p2) / (L_apart ((σ 3 (ix ((6 : Int32) * p1))) - (σ 3 (ix ((6 : Int32) * p1))) / (64 : Int32) * (64 : Int32)) p2)))] [.int v122_0] 134 0 0 := by
        intro v122_0 ev122_0
        try rw [ev122_0]
        clear ev122_0
        refine J_istore_8 X dL_gives_134 rfl (by decide) ?_
        refine J_aload_4 X dL_gives_136 ?_
        refine J_iconst (v := 1) X dL_gives_138 rfl ?_
        refine JL_ld X hL 7 (by decide) (vp_up (vp_in_nI (n := 1) (N := 2) (by decide) (by decide)) (by decide)) dL_gives_139 ?_
        have K140_168 : ∀ (v140_0 : Int32), v140_0 = (L_gives_j140 σ p1 p2) → J K h [some (.ref (α 0)), some (.ref (α 1)), some (.ref (α 2)), some (.ref (α 3)), some (.ref (α 7)), some (.int p1), some (.int p2), some (.int ((σ 3 (ix ((6 : Int32) * p1))) - (σ 3 (ix ((6 : Int32) * p1))) / (64 : Int32) * (64 : Int32))), some (.int (L_gives_j122 σ p1 p2))] [.int v140_0] 168 0 0 := by
          intro v140_0 ev140_0
          try rw [ev140_0]
          clear ev140_0
          exact J_iret X rfl rfl ⟨by rw [q_v], rfl⟩ dL_gives_168
        have j140_0 : L_gives_j140 σ p1 p2 = (if (σ 7 (ix (1 : Int32))) = (0 : Int32) then (L_gives_j122 σ p1 p2) else (if (σ 7 (ix (1 : Int32))) = (1 : Int32) then ((L_gives_j122 σ p1 p2) + (L_gives_j122 σ p1 p2)) else ((5 : Int32) * (L_gives_j122 σ p1 p2)))) := rfl
        refine J_if_ne (tgt := 148) X dL_gives_140 (by decide) (fun c140 => ?_) (fun c140 => ?_)
        · skip
          rw [if_neg c140] at j140_0
          refine J_aload_4 X dL_gives_148 ?_
          refine J_iconst (v := 1) X dL_gives_150 rfl ?_
          refine JL_ld X hL 7 (by decide) (vp_up (vp_in_nI (n := 1) (N := 2) (by decide) (by decide)) (by decide)) dL_gives_151 ?_
          refine J_iconst (v := 1) X dL_gives_152 rfl ?_
          refine J_icmp_ne (tgt := 164) X dL_gives_153 (by decide) (fun c153 => ?_) (fun c153 => ?_)
          · skip
            rw [if_neg c153] at j140_0
            refine J_iconst (v := 5) X dL_gives_164 rfl ?_
            refine J_iload_8 X dL_gives_165 ?_
            refine J_imul X dL_gives_167 ?_
            exact K140_168 _ j140_0.symm
          · skip
            rw [if_pos c153] at j140_0
            refine J_iload_8 X dL_gives_156 ?_
            refine J_iload_8 X dL_gives_158 ?_
            refine J_iadd X dL_gives_160 ?_
            refine J_goto (tgt := 168) X dL_gives_161 (by decide) ?_
            exact K140_168 _ j140_0.symm
        · skip
          rw [if_pos c140] at j140_0
          refine J_iload_8 X dL_gives_143 ?_
          refine J_goto (tgt := 168) X dL_gives_145 (by decide) ?_
          exact K140_168 _ j140_0.symm
      have j122_0 : L_gives_j122 σ p1 p2 = (if (L_isShaded σ ((σ 3 (ix ((6 : Int32) * p1))) - (σ 3 (ix ((6 : Int32) * p1))) / (64 : Int32) * (64 : Int32)) p2) = (0 : Int32) then ((L_gives_j70 σ p1 p2) / (L_apart ((σ 3 (ix ((6 : Int32) * p1))) - (σ 3 (ix ((6 : Int32) * p1))) / (64 : Int32) * (64 : Int32)) p2)) else (((L_gives_j70 σ p1 p2) / (L_apart ((σ 3 (ix ((6 : Int32) * p1))) - (σ 3 (ix ((6 : Int32) * p1))) / (64 : Int32) * (64 : Int32)) p2)) / (2 : Int32))) := rfl
      refine J_if_eq (tgt := 132) X dL_gives_122 (by decide) (fun c122 => ?_) (fun c122 => ?_)
      · skip
        rw [if_pos c122] at j122_0
        refine J_iload_8 X dL_gives_132 ?_
        exact K122_134 _ j122_0.symm
      · skip
        rw [if_neg c122] at j122_0
        refine J_iload_8 X dL_gives_125 ?_
        refine J_iconst (v := 2) X dL_gives_127 rfl ?_
        refine J_idiv X dL_gives_128 (by decide) ?_
        refine J_goto (tgt := 134) X dL_gives_129 (by decide) ?_
        exact K122_134 _ j122_0.symm
    have j70_0 : L_gives_j70 σ p1 p2 = (if ((σ 3 (ix (((6 : Int32) * p1) + (2 : Int32)))) - (σ 3 (ix (((6 : Int32) * p1) + (2 : Int32)))) / (4 : Int32) * (4 : Int32)) = (0 : Int32) then (L_gives_j23 σ p1 p2) else (if ((σ 3 (ix (((6 : Int32) * p1) + (2 : Int32)))) - (σ 3 (ix (((6 : Int32) * p1) + (2 : Int32)))) / (4 : Int32) * (4 : Int32)) = (1 : Int32) then ((2 : Int32) * (L_gives_j23 σ p1 p2)) else ((4 : Int32) * (L_gives_j23 σ p1 p2)))) := rfl
    refine J_if_ne (tgt := 78) X dL_gives_70 (by decide) (fun c70 => ?_) (fun c70 => ?_)
    · skip
      rw [if_neg c70] at j70_0
      refine J_aload_3 X dL_gives_78 ?_
      refine J_bipush (v := (6 : Int32)) X dL_gives_79 (by decide) ?_
      refine J_iload_5 X dL_gives_81 ?_
      refine J_imul X dL_gives_83 ?_
      refine J_iconst (v := 2) X dL_gives_84 rfl ?_
      refine J_iadd X dL_gives_85 ?_
      refine JL_ld X hL 3 (by decide) (vp_up (vr_add (vr_mul (vp_in_nI (n := 6) (N := 7) (by decide) (by decide)) h1 (by decide)) (vp_in_nI (n := 2) (N := 3) (by decide) (by decide)) (by decide)) (by decide)) dL_gives_86 ?_
      refine J_iconst (v := 4) X dL_gives_87 rfl ?_
      refine J_irem X dL_gives_88 (by decide) ?_
      refine J_iconst (v := 1) X dL_gives_89 rfl ?_
      refine J_icmp_ne (tgt := 100) X dL_gives_90 (by decide) (fun c90 => ?_) (fun c90 => ?_)
      · skip
        rw [if_neg c90] at j70_0
        refine J_iconst (v := 4) X dL_gives_100 rfl ?_
        refine J_iload_8 X dL_gives_101 ?_
        refine J_imul X dL_gives_103 ?_
        exact K70_104 _ j70_0.symm
      · skip
        rw [if_pos c90] at j70_0
        refine J_iconst (v := 2) X dL_gives_93 rfl ?_
        refine J_iload_8 X dL_gives_94 ?_
        refine J_imul X dL_gives_96 ?_
        refine J_goto (tgt := 104) X dL_gives_97 (by decide) ?_
        exact K70_104 _ j70_0.symm
    · skip
      rw [if_pos c70] at j70_0
      refine J_iload_8 X dL_gives_73 ?_
      refine J_goto (tgt := 104) X dL_gives_75 (by decide) ?_
      exact K70_104 _ j70_0.symm
  have j23_0 : L_gives_j23 σ p1 p2 = (if (L_burns σ p1) = (0 : Int32) then (0 : Int32) else (((L_light σ p1) * ((10 : Int32) - (((σ 3 (ix (((6 : Int32) * p1) + (2 : Int32)))) / (4 : Int32)) - ((σ 3 (ix (((6 : Int32) * p1) + (2 : Int32)))) / (4 : Int32)) / (16 : Int32) * (16 : Int32)))) / (10 : Int32))) := rfl
  refine J_if_eq (tgt := 56) X dL_gives_23 (by decide) (fun c23 => ?_) (fun c23 => ?_)
  · skip
    rw [if_pos c23] at j23_0
    refine J_iconst (v := 0) X dL_gives_56 rfl ?_
    exact K23_57 _ j23_0.symm
  · skip
    rw [if_neg c23] at j23_0
    refine J_aload_3 X dL_gives_26 ?_
    refine J_iload_5 X dL_gives_27 ?_
    refine J_callS X (c_L_light hL hI p1 (vp_up h1 (by decide))) (And.intro gw_4_92 cw_L_light) rfl rfl (Nat.le_of_ble_eq_true rfl) dL_gives_29 rfl (J.pi ?_) JE.no
    refine J_bipush (v := (10 : Int32)) X dL_gives_32 (by decide) ?_
    refine J_aload_3 X dL_gives_34 ?_
    refine J_bipush (v := (6 : Int32)) X dL_gives_35 (by decide) ?_
    refine J_iload_5 X dL_gives_37 ?_
    refine J_imul X dL_gives_39 ?_
    refine J_iconst (v := 2) X dL_gives_40 rfl ?_
    refine J_iadd X dL_gives_41 ?_
    refine JL_ld X hL 3 (by decide) (vp_up (vr_add (vr_mul (vp_in_nI (n := 6) (N := 7) (by decide) (by decide)) h1 (by decide)) (vp_in_nI (n := 2) (N := 3) (by decide) (by decide)) (by decide)) (by decide)) dL_gives_42 ?_
    refine J_iconst (v := 4) X dL_gives_43 rfl ?_
    refine J_idiv X dL_gives_44 (by decide) ?_
    refine J_bipush (v := (16 : Int32)) X dL_gives_45 (by decide) ?_
    refine J_irem X dL_gives_47 (by decide) ?_
    refine J_isub X dL_gives_48 ?_
    refine J_imul X dL_gives_49 ?_
    refine J_bipush (v := (10 : Int32)) X dL_gives_50 (by decide) ?_
    refine J_idiv X dL_gives_52 (by decide) ?_
    refine J_goto (tgt := 57) X dL_gives_53 (by decide) ?_
    exact K23_57 _ j23_0.symm
def L_glow_j57 (σ : St) (p1 : Int32) (p2 : Int32) (k6 : Nat) (a6_7 : Int32) : Int32 := (if ((σ 3 (ix ((6 : Int32) * (nI k6)))) - (σ 3 (ix ((6 : Int32) * (nI k6)))) / (64 : Int32) * (64 : Int32)) = p1 then (4 : Int32) else (if ((((σ 3 (ix ((6 : Int32) * (nI k6)))) - (σ 3 (ix ((6 : Int32) * (nI k6)))) / (64 : Int32) * (64 : Int32)) - ((σ 3 (ix ((6 : Int32) * (nI k6)))) - (σ 3 (ix ((6 : Int32) * (nI k6)))) / (64 : Int32) * (64 : Int32)) / (8 : Int32) * (8 : Int32)) - (p1 - p1 / (8 : Int32) * (8 : Int32))) ≤ (0 : Int32) then (if (0 : Int32) ≤ ((((σ 3 (ix ((6 : Int32) * (nI k6)))) - (σ 3 (ix ((6 : Int32) * (nI k6)))) / (64 : Int32) * (64 : Int32)) - ((σ 3 (ix ((6 : Int32) * (nI k6)))) - (σ 3 (ix ((6 : Int32) * (nI k6)))) / (64 : Int32) * (64 : Int32)) / (8 : Int32) * (8 : Int32)) - (p1 - p1 / (8 : Int32) * (8 : Int32))) then (if ((((σ 3 (ix ((6 : Int32) * (nI k6)))) - (σ 3 (ix ((6 : Int32) * (nI k6)))) / (64 : Int32) * (64 : Int32)) / (8 : Int32)) - (p1 / (8 : Int32))) ≤ (0 : Int32) then (3 : Int32) else (2 : Int32)) else (if (-((((σ 3 (ix ((6 : Int32) * (nI k6)))) - (σ 3 (ix ((6 : Int32) * (nI k6)))) / (64 : Int32) * (64 : Int32)) - ((σ 3 (ix ((6 : Int32) * (nI k6)))) - (σ 3 (ix ((6 : Int32) * (nI k6)))) / (64 : Int32) * (64 : Int32)) / (8 : Int32) * (8 : Int32)) - (p1 - p1 / (8 : Int32) * (8 : Int32)))) < ((((σ 3 (ix ((6 : Int32) * (nI k6)))) - (σ 3 (ix ((6 : Int32) * (nI k6)))) / (64 : Int32) * (64 : Int32)) / (8 : Int32)) - (p1 / (8 : Int32))) then (if ((((σ 3 (ix ((6 : Int32) * (nI k6)))) - (σ 3 (ix ((6 : Int32) * (nI k6)))) / (64 : Int32) * (64 : Int32)) / (8 : Int32)) - (p1 / (8 : Int32))) ≤ (0 : Int32) then (3 : Int32) else (2 : Int32)) else (if ((((σ 3 (ix ((6 : Int32) * (nI k6)))) - (σ 3 (ix ((6 : Int32) * (nI k6)))) / (64 : Int32) * (64 : Int32)) / (8 : Int32)) - (p1 / (8 : Int32))) < ((((σ 3 (ix ((6 : Int32) * (nI k6)))) - (σ 3 (ix ((6 : Int32) * (nI k6)))) / (64 : Int32) * (64 : Int32)) - ((σ 3 (ix ((6 : Int32) * (nI k6)))) - (σ 3 (ix ((6 : Int32) * (nI k6)))) / (64 : Int32) * (64 : Int32)) / (8 : Int32) * (8 : Int32)) - (p1 - p1 / (8 : Int32) * (8 : Int32))) then (if ((((σ 3 (ix ((6 : Int32) * (nI k6)))) - (σ 3 (ix ((6 : Int32) * (nI k6)))) / (64 : Int32) * (64 : Int32)) / (8 : Int32)) - (p1 / (8 : Int32))) ≤ (0 : Int32) then (3 : Int32) else (2 : Int32)) else (1 : Int32)))) else (if ((((σ 3 (ix ((6 : Int32) * (nI k6)))) - (σ 3 (ix ((6 : Int32) * (nI k6)))) / (64 : Int32) * (64 : Int32)) - ((σ 3 (ix ((6 : Int32) * (nI k6)))) - (σ 3 (ix ((6 : Int32) * (nI k6)))) / (64 : Int32) * (64 : Int32)) / (8 : Int32) * (8 : Int32)) - (p1 - p1 / (8 : Int32) * (8 : Int32))) < ((((σ 3 (ix ((6 : Int32) * (nI k6)))) - (σ 3 (ix ((6 : Int32) * (nI k6)))) / (64 : Int32) * (64 : Int32)) / (8 : Int32)) - (p1 / (8 : Int32))) then (if (0 : Int32) ≤ ((((σ 3 (ix ((6 : Int32) * (nI k6)))) - (σ 3 (ix ((6 : Int32) * (nI k6)))) / (64 : Int32) * (64 : Int32)) - ((σ 3 (ix ((6 : Int32) * (nI k6)))) - (σ 3 (ix ((6 : Int32) * (nI k6)))) / (64 : Int32) * (64 : Int32)) / (8 : Int32) * (8 : Int32)) - (p1 - p1 / (8 : Int32) * (8 : Int32))) then (if ((((σ 3 (ix ((6 : Int32) * (nI k6)))) - (σ 3 (ix ((6 : Int32) * (nI k6)))) / (64 : Int32) * (64 : Int32)) / (8 : Int32)) - (p1 / (8 : Int32))) ≤ (0 : Int32) then (3 : Int32) else (2 : Int32)) else (if (-((((σ 3 (ix ((6 : Int32) * (nI k6)))) - (σ 3 (ix ((6 : Int32) * (nI k6)))) / (64 : Int32) * (64 : Int32)) - ((σ 3 (ix ((6 : Int32) * (nI k6)))) - (σ 3 (ix ((6 : Int32) * (nI k6)))) / (64 : Int32) * (64 : Int32)) / (8 : Int32) * (8 : Int32)) - (p1 - p1 / (8 : Int32) * (8 : Int32)))) < ((((σ 3 (ix ((6 : Int32) * (nI k6)))) - (σ 3 (ix ((6 : Int32) * (nI k6)))) / (64 : Int32) * (64 : Int32)) / (8 : Int32)) - (p1 / (8 : Int32))) then (if ((((σ 3 (ix ((6 : Int32) * (nI k6)))) - (σ 3 (ix ((6 : Int32) * (nI k6)))) / (64 : Int32) * (64 : Int32)) / (8 : Int32)) - (p1 / (8 : Int32))) ≤ (0 : Int32) then (3 : Int32) else (2 : Int32)) else (if ((((σ 3 (ix ((6 : Int32) * (nI k6)))) - (σ 3 (ix ((6 : Int32) * (nI k6)))) / (64 : Int32) * (64 : Int32)) / (8 : Int32)) - (p1 / (8 : Int32))) < ((((σ 3 (ix ((6 : Int32) * (nI k6)))) - (σ 3 (ix ((6 : Int32) * (nI k6)))) / (64 : Int32) * (64 : Int32)) - ((σ 3 (ix ((6 : Int32) * (nI k6)))) - (σ 3 (ix ((6 : Int32) * (nI k6)))) / (64 : Int32) * (64 : Int32)) / (8 : Int32) * (8 : Int32)) - (p1 - p1 / (8 : Int32) * (8 : Int32))) then (if ((((σ 3 (ix ((6 : Int32) * (nI k6)))) - (σ 3 (ix ((6 : Int32) * (nI k6)))) / (64 : Int32) * (64 : Int32)) / (8 : Int32)) - (p1 / (8 : Int32))) ≤ (0 : Int32) then (3 : Int32) else (2 : Int32)) else (1 : Int32)))) else (if ((((σ 3 (ix ((6 : Int32) * (nI k6)))) - (σ 3 (ix ((6 : Int32) * (nI k6)))) / (64 : Int32) * (64 : Int32)) - ((σ 3 (ix ((6 : Int32) * (nI k6)))) - (σ 3 (ix ((6 : Int32) * (nI k6)))) / (64 : Int32) * (64 : Int32)) / (8 : Int32) * (8 : Int32)) - (p1 - p1 / (8 : Int32) * (8 : Int32))) < (-((((σ 3 (ix ((6 : Int32) * (nI k6)))) - (σ 3 (ix ((6 : Int32) * (nI k6)))) / (64 : Int32) * (64 : Int32)) / (8 : Int32)) - (p1 / (8 : Int32)))) then (if (0 : Int32) ≤ ((((σ 3 (ix ((6 : Int32) * (nI k6)))) - (σ 3 (ix ((6 : Int32) * (nI k6)))) / (64 : Int32) * (64 : Int32)) - ((σ 3 (ix ((6 : Int32) * (nI k6)))) - (σ 3 (ix ((6 : Int32) * (nI k6)))) / (64 : Int32) * (64 : Int32)) / (8 : Int32) * (8 : Int32)) - (p1 - p1 / (8 : Int32) * (8 : Int32))) then (if ((((σ 3 (ix ((6 : Int32) * (nI k6)))) - (σ 3 (ix ((6 : Int32) * (nI k6)))) / (64 : Int32) * (64 : Int32)) / (8 : Int32)) - (p1 / (8 : Int32))) ≤ (0 : Int32) then (3 : Int32) else (2 : Int32)) else (if (-((((σ 3 (ix ((6 : Int32) * (nI k6)))) - (σ 3 (ix ((6 : Int32) * (nI k6)))) / (64 : Int32) * (64 : Int32)) - ((σ 3 (ix ((6 : Int32) * (nI k6)))) - (σ 3 (ix ((6 : Int32) * (nI k6)))) / (64 : Int32) * (64 : Int32)) / (8 : Int32) * (8 : Int32)) - (p1 - p1 / (8 : Int32) * (8 : Int32)))) < ((((σ 3 (ix ((6 : Int32) * (nI k6)))) - (σ 3 (ix ((6 : Int32) * (nI k6)))) / (64 : Int32) * (64 : Int32)) / (8 : Int32)) - (p1 / (8 : Int32))) then (if ((((σ 3 (ix ((6 : Int32) * (nI k6)))) - (σ 3 (ix ((6 : Int32) * (nI k6)))) / (64 : Int32) * (64 : Int32)) / (8 : Int32)) - (p1 / (8 : Int32))) ≤ (0 : Int32) then (3 : Int32) else (2 : Int32)) else (if ((((σ 3 (ix ((6 : Int32) * (nI k6)))) - (σ 3 (ix ((6 : Int32) * (nI k6)))) / (64 : Int32) * (64 : Int32)) / (8 : Int32)) - (p1 / (8 : Int32))) < ((((σ 3 (ix ((6 : Int32) * (nI k6)))) - (σ 3 (ix ((6 : Int32) * (nI k6)))) / (64 : Int32) * (64 : Int32)) - ((σ 3 (ix ((6 : Int32) * (nI k6)))) - (σ 3 (ix ((6 : Int32) * (nI k6)))) / (64 : Int32) * (64 : Int32)) / (8 : Int32) * (8 : Int32)) - (p1 - p1 / (8 : Int32) * (8 : Int32))) then (if ((((σ 3 (ix ((6 : Int32) * (nI k6)))) - (σ 3 (ix ((6 : Int32) * (nI k6)))) / (64 : Int32) * (64 : Int32)) / (8 : Int32)) - (p1 / (8 : Int32))) ≤ (0 : Int32) then (3 : Int32) else (2 : Int32)) else (1 : Int32)))) else (0 : Int32)))))
def L_glow_j129 (σ : St) (p1 : Int32) (p2 : Int32) (k6 : Nat) (a6_7 : Int32) : Int32 := (if p2 = (5 : Int32) then (L_gives σ (nI k6) p1) else (if (L_glow_j57 σ p1 p2 k6 a6_7) = p2 then (L_gives σ (nI k6) p1) else (0 : Int32)))
def L_glow_L6 (σ : St) (p1 : Int32) (p2 : Int32) (K6 : Int32 → Int32) : Nat → Nat → Int32 → Int32
  | 0, _, a6_7 => K6 a6_7
  | n6 + 1, k6, a6_7 => (L_glow_L6 σ p1 p2 K6 n6 (k6 + 1) (a6_7 + (L_glow_j129 σ p1 p2 k6 a6_7)))
def L_glow (σ : St) (p1 : Int32) (p2 : Int32) : Int32 := (L_glow_L6 σ p1 p2 (fun a6_7 => a6_7) (ix (σ 7 (ix (3 : Int32)))) 0 (0 : Int32))
theorem cw_L_glow : Cond.static yL_glow ∈ GW ∧ Cond.initialized yL_glow.cls ∈ GW ∧ Cond.code yL_glow cL_glow 13 (some .int) ∈ GW ∧ (yL_glow.cls ≠ "java/lang/invoke/MethodHandle" ∧ yL_glow.cls ≠ "java/lang/invoke/VarHandle") ∧ (parseMethodDescriptor yL_glow.desc).map (fun d => d.parameters.length) = some 7 := ⟨gw_4_116, gw_1_0, gw_4_117, ⟨by decide, by decide⟩, by decide +kernel⟩
set_option maxRecDepth 100000 in
set_option maxHeartbeats 4000000 in
theorem c_L_glow {l : Launch} {D : va_G} {ca : Nat → Nat} {h : fH} {α : Nat → Nat} {σ : St} (hL : LA ca h α σ) (hI : IL σ) (p1 : Int32) (p2 : Int32) (h1 : vp_in p1 64) : FM l D ca yL_glow (.code yL_glow cL_glow 13 (some .int)) { frames := 4, cells := 0, slots := 0, locals := 99 } [.ref (α 0), .ref (α 1), .ref (α 2), .ref (α 3), .ref (α 7), .int p1, .int p2] h (pI (L_glow σ p1 p2) h) noX := by
  refine FM.of [some (.ref (α 0)), some (.ref (α 1)), some (.ref (α 2)), some (.ref (α 3)), some (.ref (α 7)), some (.int p1), some (.int p2), none, none, none, none, none, none] (by decide) (Nat.le_of_ble_eq_true rfl) rfl ?_
  rintro K X rfl rfl rfl
  have q_v : (L_glow σ p1 p2) = (L_glow_L6 σ p1 p2 (fun a6_7 => a6_7) (ix (σ 7 (ix (3 : Int32)))) 0 (0 : Int32)) := rfl
  refine J_iconst (v := 0) X dL_glow_0 rfl ?_
  refine J_istore_7 X dL_glow_1 rfl (by decide) ?_
  refine J_iconst (v := 0) X dL_glow_3 rfl ?_
  refine J_istore_8 X dL_glow_4 rfl (by decide) ?_
  have hle := (cnt (N := 10) (IL_7_3 hI) (by decide)).2
  obtain ⟨K6, hK6⟩ : ∃ f : Int32 → Int32, f = (fun a6_7 => a6_7) := ⟨_, rfl⟩
  have X6 : ∀ (a6_7 : Int32) (_ : True), (L_glow σ p1 p2) = a6_7 → J K h [some (.ref (α 0)), some (.ref (α 1)), some (.ref (α 2)), some (.ref (α 3)), some (.ref (α 7)), some (.int p1), some (.int p2), some (.int a6_7), none, none, none, none, none] [] 165 0 0 := by
    intro a6_7  _  q_v
    refine J_iload_7 X dL_glow_165 ?_
    exact J_iret X rfl rfl ⟨by rw [q_v], rfl⟩ dL_glow_167
  have L6 : ∀ (n6 k6 : Nat) (a6_7 : Int32), k6 + n6 = ix (σ 7 (ix (3 : Int32))) → (L_glow σ p1 p2) = (L_glow_L6 σ p1 p2 K6 n6 k6 a6_7) → J K h [some (.ref (α 0)), some (.ref (α 1)), some (.ref (α 2)), some (.ref (α 3)), some (.ref (α 7)), some (.int p1), some (.int p2), some (.int a6_7), some (.int (nI k6)), none, none, none, none] [] 6 0 0 := by
    intro n6
    induction n6 with
    | zero =>
      intro k6 a6_7  hk6  q_v
      rw [L_glow_L6] at q_v
      refine J_iload_8 X dL_glow_6 ?_
      refine J_aload_4 X dL_glow_8 ?_
      refine J_iconst (v := 3) X dL_glow_10 rfl ?_
      refine JL_ld X hL 7 (by decide) (vp_up (vp_in_nI (n := 3) (N := 4) (by decide) (by decide)) (by decide)) dL_glow_11 ?_
      refine J_icmp_ge (tgt := 165) X dL_glow_12 (by decide) (fun _ => ?_) (fun c => absurd (lp_exit (cnt (N := 10) (IL_7_3 hI) (by decide)).1 (by omega) hk6) c)
      rw [hK6] at q_v
      refine J.subL (lv' := [some (.ref (α 0)), some (.ref (α 1)), some (.ref (α 2)), some (.ref (α 3)), some (.ref (α 7)), some (.int p1), some (.int p2), some (.int a6_7), none, none, none, none, none]) (And.intro rfl (And.intro rfl (And.intro rfl (And.intro rfl (And.intro rfl (And.intro rfl (And.intro rfl (And.intro rfl trivial)))))))) ?_
      exact X6 a6_7  trivial  q_v
    | succ n6 ih6 =>
      intro k6 a6_7  hk6  q_v
      rw [L_glow_L6] at q_v
      have hlt6 : k6 < ix (σ 7 (ix (3 : Int32))) := by omega
      refine J_iload_8 X dL_glow_6 ?_
      refine J_aload_4 X dL_glow_8 ?_
      refine J_iconst (v := 3) X dL_glow_10 rfl ?_
      refine JL_ld X hL 7 (by decide) (vp_up (vp_in_nI (n := 3) (N := 4) (by decide) (by decide)) (by decide)) dL_glow_11 ?_
      refine J_icmp_ge (tgt := 165) X dL_glow_12 (by decide) (fun c => absurd c (lp_stay (cnt (N := 10) (IL_7_3 hI) (by decide)).1 (by omega) hk6)) (fun _ => ?_)
      refine J_aload_3 X dL_glow_15 ?_
      refine J_bipush (v := (6 : Int32)) X dL_glow_16 (by decide) ?_
      refine J_iload_8 X dL_glow_18 ?_
      refine J_imul X dL_glow_20 ?_
      refine JL_ld X hL 3 (by decide) (vp_up (vr_mul (vp_in_nI (n := 6) (N := 7) (by decide) (by decide)) (vp_in_nI (n := k6) (N := 10) (by omega) (by decide)) (by decide)) (by decide)) dL_glow_21 ?_
      refine J_bipush (v := (64 : Int32)) X dL_glow_22 (by decide) ?_
      refine J_irem X dL_glow_24 (by decide) ?_
      refine J_istore_9 X dL_glow_25 rfl (by decide) ?_
      refine J_iload_9 X dL_glow_27 ?_
      refine J_bipush (v := (8 : Int32)) X dL_glow_29 (by decide) ?_
      refine J_irem X dL_glow_31 (by decide) ?_
      refine J_iload_5 X dL_glow_32 ?_
      refine J_bipush (v := (8 : Int32)) X dL_glow_34 (by decide) ?_
      refine J_irem X dL_glow_36 (by decide) ?_
      refine J_isub X dL_glow_37 ?_
      refine J_istore_10 X dL_glow_38 rfl (by decide) ?_
      refine J_iload_9 X dL_glow_40 ?_
      refine J_bipush (v := (8 : Int32)) X dL_glow_42 (by decide) ?_
      refine J_idiv X dL_glow_44 (by decide) ?_
      refine J_iload_5 X dL_glow_45 ?_
      refine J_bipush (v := (8 : Int32)) X dL_glow_47 (by decide) ?_
      refine J_idiv X dL_glow_49 (by decide) ?_
      refine J_isub X dL_glow_50 ?_
      refine J_istore_11 X dL_glow_51 rfl (by decide) ?_
      refine J_iload_9 X dL_glow_53 ?_
      refine J_iload_5 X dL_glow_55 ?_
      have K57_122 : ∀ (v57_0 : Int32), v57_0 = (L_glow_j57 σ p1 p2 k6 a6_7) → J K h [some (.ref (α 0)), some (.ref (α 1)), some (.ref (α 2)), some (.ref (α 3)), some (.ref (α 7)), some (.int p1), some (.int p2), some (.int a6_7), some (.int (nI k6)), some (.int ((σ 3 (ix ((6 : Int32) * (nI k6)))) - (σ 3 (ix ((6 : Int32) * (nI k6)))) / (64 : Int32) * (64 : Int32))), some (.int ((((σ 3 (ix ((6 : Int32) * (nI k6)))) - (σ 3 (ix ((6 : Int32) * (nI k6)))) / (64 : Int32) * (64 : Int32)) - ((σ 3 (ix ((6 : Int32) * (nI k6)))) - (σ 3 (ix ((6 : Int32) * (nI k6)))) / (64 : Int32) * (64 : Int32)) / (8 : Int32) * (8 : Int32)) - (p1 - p1 / (8 : Int32) * (8 : Int32)))), some (.int ((((σ 3 (ix ((6 : Int32) * (nI k6)))) - (σ 3 (ix ((6 : Int32) * (nI k6)))) / (64 : Int32) * (64 : Int32)) / (8 : Int32)) - (p1 / (8 : Int32)))), none] [.int v57_0] 122 0 0 := by
        intro v57_0 ev57_0
        try rw [ev57_0]
        clear ev57_0
        refine J_istore_12 X dL_glow_122 rfl (by decide) ?_
        refine J_iload_7 X dL_glow_124 ?_
        refine J_iload_6 X dL_glow_126 ?_
        refine J_iconst (v := 5) X dL_glow_128 rfl ?_
        have K129_156 : ∀ (v129_0 : Int32), v129_0 = (L_glow_j129 σ p1 p2 k6 a6_7) → J K h [some (.ref (α 0)), some (.ref (α 1)), some (.ref (α 2)), some (.ref (α 3)), some (.ref (α 7)), some (.int p1), some (.int p2), some (.int a6_7), some (.int (nI k6)), some (.int ((σ 3 (ix ((6 : Int32) * (nI k6)))) - (σ 3 (ix ((6 : Int32) * (nI k6)))) / (64 : Int32) * (64 : Int32))), some (.int ((((σ 3 (ix ((6 : Int32) * (nI k6)))) - (σ 3 (ix ((6 : Int32) * (nI k6)))) / (64 : Int32) * (64 : Int32)) - ((σ 3 (ix ((6 : Int32) * (nI k6)))) - (σ 3 (ix ((6 : Int32) * (nI k6)))) / (64 : Int32) * (64 : Int32)) / (8 : Int32) * (8 : Int32)) - (p1 - p1 / (8 : Int32) * (8 : Int32)))), some (.int ((((σ 3 (ix ((6 : Int32) * (nI k6)))) - (σ 3 (ix ((6 : Int32) * (nI k6)))) / (64 : Int32) * (64 : Int32)) / (8 : Int32)) - (p1 / (8 : Int32)))), some (.int (L_glow_j57 σ p1 p2 k6 a6_7))] [.int v129_0, .int a6_7] 156 0 0 := by
          intro v129_0 ev129_0
          try rw [ev129_0]
          clear ev129_0
          refine J_iadd X dL_glow_156 ?_
          refine J_istore_7 X dL_glow_157 rfl (by decide) ?_
          refine J_iinc_8 (v := (nI (k6 + 1))) X dL_glow_159 (nI_1 _) rfl (by decide) ?_
          refine J_goto (tgt := 6) X dL_glow_162 (by decide) ?_
          refine J.subL (lv' := [some (.ref (α 0)), some (.ref (α 1)), some (.ref (α 2)), some (.ref (α 3)), some (.ref (α 7)), some (.int p1), some (.int p2), some (.int (a6_7 + (L_glow_j129 σ p1 p2 k6 a6_7))), some (.int (nI (k6 + 1))), none, none, none, none]) (And.intro rfl (And.intro rfl (And.intro rfl (And.intro rfl (And.intro rfl (And.intro rfl (And.intro rfl (And.intro rfl (And.intro rfl trivial))))))))) ?_
          exact ih6 (k6 + 1) (a6_7 + (L_glow_j129 σ p1 p2 k6 a6_7))  (by omega)  q_v
        have j129_0 : L_glow_j129 σ p1 p2 k6 a6_7 = (if p2 = (5 : Int32) then (L_gives σ (nI k6) p1) else (if (L_glow_j57 σ p1 p2 k6 a6_7) = p2 then (L_gives σ (nI k6) p1) else (0 : Int32))) := rfl
        refine J_icmp_eq (tgt := 139) X dL_glow_129 (by decide) (fun c129 => ?_) (fun c129 => ?_)
        · skip
          rw [if_pos c129] at j129_0
          refine J_aload_0 X dL_glow_139 ?_
          refine J_aload_1 X dL_glow_140 ?_
          refine J_aload_2 X dL_glow_141 ?_
          refine J_aload_3 X dL_glow_142 ?_
          refine J_aload_4 X dL_glow_143 ?_
          refine J_iload_8 X dL_glow_145 ?_
          refine J_iload_5 X dL_glow_147 ?_
          refine J_callS X (c_L_gives hL hI (nI k6) p1 (vp_up (vp_in_nI (n := k6) (N := 10) (by omega) (by decide)) (by decide)) (vp_up h1 (by decide))) (And.intro gw_4_89 cw_L_gives) rfl rfl (Nat.le_of_ble_eq_true rfl) dL_glow_149 rfl (J.pi ?_) JE.no
          refine J_goto (tgt := 156) X dL_glow_152 (by decide) ?_
          exact K129_156 _ j129_0.symm
        · skip
          rw [if_neg c129] at j129_0
          refine J_iload_12 X dL_glow_132 ?_
          refine J_iload_6 X dL_glow_134 ?_
          refine J_icmp_ne (tgt := 155) X dL_glow_136 (by decide) (fun c136 => ?_) (fun c136 => ?_)
          · skip
            rw [if_neg c136] at j129_0
            refine J_iconst (v := 0) X dL_glow_155 rfl ?_
            exact K129_156 _ j129_0.symm
          · skip
            rw [if_pos c136] at j129_0
            refine J_aload_0 X dL_glow_139 ?_
            refine J_aload_1 X dL_glow_140 ?_
            refine J_aload_2 X dL_glow_141 ?_
            refine J_aload_3 X dL_glow_142 ?_
            refine J_aload_4 X dL_glow_143 ?_
            refine J_iload_8 X dL_glow_145 ?_
            refine J_iload_5 X dL_glow_147 ?_
            refine J_callS X (c_L_gives hL hI (nI k6) p1 (vp_up (vp_in_nI (n := k6) (N := 10) (by omega) (by decide)) (by decide)) (vp_up h1 (by decide))) (And.intro gw_4_89 cw_L_gives) rfl rfl (Nat.le_of_ble_eq_true rfl) dL_glow_149 rfl (J.pi ?_) JE.no
            refine J_goto (tgt := 156) X dL_glow_152 (by decide) ?_
            exact K129_156 _ j129_0.symm
      have j57_0 : L_glow_j57 σ p1 p2 k6 a6_7 = (if ((σ 3 (ix ((6 : Int32) * (nI k6)))) - (σ 3 (ix ((6 : Int32) * (nI k6)))) / (64 : Int32) * (64 : Int32)) = p1 then (4 : Int32) else (if ((((σ 3 (ix ((6 : Int32) * (nI k6)))) - (σ 3 (ix ((6 : Int32) * (nI k6)))) / (64 : Int32) * (64 : Int32)) - ((σ 3 (ix ((6 : Int32) * (nI k6)))) - (σ 3 (ix ((6 : Int32) * (nI k6)))) / (64 : Int32) * (64 : Int32)) / (8 : Int32) * (8 : Int32)) - (p1 - p1 / (8 : Int32) * (8 : Int32))) ≤ (0 : Int32) then (if (0 : Int32) ≤ ((((σ 3 (ix ((6 : Int32) * (nI k6)))) - (σ 3 (ix ((6 : Int32) * (nI k6)))) / (64 : Int32) * (64 : Int32)) - ((σ 3 (ix ((6 : Int32) * (nI k6)))) - (σ 3 (ix ((6 : Int32) * (nI k6)))) / (64 : Int32) * (64 : Int32)) / (8 : Int32) * (8 : Int32)) - (p1 - p1 / (8 : Int32) * (8 : Int32))) then (if ((((σ 3 (ix ((6 : Int32) * (nI k6)))) - (σ 3 (ix ((6 : Int32) * (nI k6)))) / (64 : Int32) * (64 : Int32)) / (8 : Int32)) - (p1 / (8 : Int32))) ≤ (0 : Int32) then (3 : Int32) else (2 : Int32)) else (if (-((((σ 3 (ix ((6 : Int32) * (nI k6)))) - (σ 3 (ix ((6 : Int32) * (nI k6)))) / (64 : Int32) * (64 : Int32)) - ((σ 3 (ix ((6 : Int32) * (nI k6)))) - (σ 3 (ix ((6 : Int32) * (nI k6)))) / (64 : Int32) * (64 : Int32)) / (8 : Int32) * (8 : Int32)) - (p1 - p1 / (8 : Int32) * (8 : Int32)))) < ((((σ 3 (ix ((6 : Int32) * (nI k6)))) - (σ 3 (ix ((6 : Int32) * (nI k6)))) / (64 : Int32) * (64 : Int32)) / (8 : Int32)) - (p1 / (8 : Int32))) then (if ((((σ 3 (ix ((6 : Int32) * (nI k6)))) - (σ 3 (ix ((6 : Int32) * (nI k6)))) / (64 : Int32) * (64 : Int32)) / (8 : Int32)) - (p1 / (8 : Int32))) ≤ (0 : Int32) then (3 : Int32) else (2 : Int32)) else (if ((((σ 3 (ix ((6 : Int32) * (nI k6)))) - (σ 3 (ix ((6 : Int32) * (nI k6)))) / (64 : Int32) * (64 : Int32)) / (8 : Int32)) - (p1 / (8 : Int32))) < ((((σ 3 (ix ((6 : Int32) * (nI k6)))) - (σ 3 (ix ((6 : Int32) * (nI k6)))) / (64 : Int32) * (64 : Int32)) - ((σ 3 (ix ((6 : Int32) * (nI k6)))) - (σ 3 (ix ((6 : Int32) * (nI k6)))) / (64 : Int32) * (64 : Int32)) / (8 : Int32) * (8 : Int32)) - (p1 - p1 / (8 : Int32) * (8 : Int32))) then (if ((((σ 3 (ix ((6 : Int32) * (nI k6)))) - (σ 3 (ix ((6 : Int32) * (nI k6)))) / (64 : Int32) * (64 : Int32)) / (8 : Int32)) - (p1 / (8 : Int32))) ≤ (0 : Int32) then (3 : Int32) else (2 : Int32)) else (1 : Int32)))) else (if ((((σ 3 (ix ((6 : Int32) * (nI k6)))) - (σ 3 (ix ((6 : Int32) * (nI k6)))) / (64 : Int32) * (64 : Int32)) - ((σ 3 (ix ((6 : Int32) * (nI k6)))) - (σ 3 (ix ((6 : Int32) * (nI k6)))) / (64 : Int32) * (64 : Int32)) / (8 : Int32) * (8 : Int32)) - (p1 - p1 / (8 : Int32) * (8 : Int32))) < ((((σ 3 (ix ((6 : Int32) * (nI k6)))) - (σ 3 (ix ((6 : Int32) * (nI k6)))) / (64 : Int32) * (64 : Int32)) / (8 : Int32)) - (p1 / (8 : Int32))) then (if (0 : Int32) ≤ ((((σ 3 (ix ((6 : Int32) * (nI k6)))) - (σ 3 (ix ((6 : Int32) * (nI k6)))) / (64 : Int32) * (64 : Int32)) - ((σ 3 (ix ((6 : Int32) * (nI k6)))) - (σ 3 (ix ((6 : Int32) * (nI k6)))) / (64 : Int32) * (64 : Int32)) / (8 : Int32) * (8 : Int32)) - (p1 - p1 / (8 : Int32) * (8 : Int32))) then (if ((((σ 3 (ix ((6 : Int32) * (nI k6)))) - (σ 3 (ix ((6 : Int32) * (nI k6)))) / (64 : Int32) * (64 : Int32)) / (8 : Int32)) - (p1 / (8 : Int32))) ≤ (0 : Int32) then (3 : Int32) else (2 : Int32)) else (if (-((((σ 3 (ix ((6 : Int32) * (nI k6)))) - (σ 3 (ix ((6 : Int32) * (nI k6)))) / (64 : Int32) * (64 : Int32)) - ((σ 3 (ix ((6 : Int32) * (nI k6)))) - (σ 3 (ix ((6 : Int32) * (nI k6)))) / (64 : Int32) * (64 : Int32)) / (8 : Int32) * (8 : Int32)) - (p1 - p1 / (8 : Int32) * (8 : Int32)))) < ((((σ 3 (ix ((6 : Int32) * (nI k6)))) - (σ 3 (ix ((6 : Int32) * (nI k6)))) / (64 : Int32) * (64 : Int32)) / (8 : Int32)) - (p1 / (8 : Int32))) then (if ((((σ 3 (ix ((6 : Int32) * (nI k6)))) - (σ 3 (ix ((6 : Int32) * (nI k6)))) / (64 : Int32) * (64 : Int32)) / (8 : Int32)) - (p1 / (8 : Int32))) ≤ (0 : Int32) then (3 : Int32) else (2 : Int32)) else (if ((((σ 3 (ix ((6 : Int32) * (nI k6)))) - (σ 3 (ix ((6 : Int32) * (nI k6)))) / (64 : Int32) * (64 : Int32)) / (8 : Int32)) - (p1 / (8 : Int32))) < ((((σ 3 (ix ((6 : Int32) * (nI k6)))) - (σ 3 (ix ((6 : Int32) * (nI k6)))) / (64 : Int32) * (64 : Int32)) - ((σ 3 (ix ((6 : Int32) * (nI k6)))) - (σ 3 (ix ((6 : Int32) * (nI k6)))) / (64 : Int32) * (64 : Int32)) / (8 : Int32) * (8 : Int32)) - (p1 - p1 / (8 : Int32) * (8 : Int32))) then (if ((((σ 3 (ix ((6 : Int32) * (nI k6)))) - (σ 3 (ix ((6 : Int32) * (nI k6)))) / (64 : Int32) * (64 : Int32)) / (8 : Int32)) - (p1 / (8 : Int32))) ≤ (0 : Int32) then (3 : Int32) else (2 : Int32)) else (1 : Int32)))) else (if ((((σ 3 (ix ((6 : Int32) * (nI k6)))) - (σ 3 (ix ((6 : Int32) * (nI k6)))) / (64 : Int32) * (64 : Int32)) - ((σ 3 (ix ((6 : Int32) * (nI k6)))) - (σ 3 (ix ((6 : Int32) * (nI k6)))) / (64 : Int32) * (64 : Int32)) / (8 : Int32) * (8 : Int32)) - (p1 - p1 / (8 : Int32) * (8 : Int32))) < (-((((σ 3 (ix ((6 : Int32) * (nI k6)))) - (σ 3 (ix ((6 : Int32) * (nI k6)))) / (64 : Int32) * (64 : Int32)) / (8 : Int32)) - (p1 / (8 : Int32)))) then (if (0 : Int32) ≤ ((((σ 3 (ix ((6 : Int32) * (nI k6)))) - (σ 3 (ix ((6 : Int32) * (nI k6)))) / (64 : Int32) * (64 : Int32)) - ((σ 3 (ix ((6 : Int32) * (nI k6)))) - (σ 3 (ix ((6 : Int32) * (nI k6)))) / (64 : Int32) * (64 : Int32)) / (8 : Int32) * (8 : Int32)) - (p1 - p1 / (8 : Int32) * (8 : Int32))) then (if ((((σ 3 (ix ((6 : Int32) * (nI k6)))) - (σ 3 (ix ((6 : Int32) * (nI k6)))) / (64 : Int32) * (64 : Int32)) / (8 : Int32)) - (p1 / (8 : Int32))) ≤ (0 : Int32) then (3 : Int32) else (2 : Int32)) else (if (-((((σ 3 (ix ((6 : Int32) * (nI k6)))) - (σ 3 (ix ((6 : Int32) * (nI k6)))) / (64 : Int32) * (64 : Int32)) - ((σ 3 (ix ((6 : Int32) * (nI k6)))) - (σ 3 (ix ((6 : Int32) * (nI k6)))) / (64 : Int32) * (64 : Int32)) / (8 : Int32) * (8 : Int32)) - (p1 - p1 / (8 : Int32) * (8 : Int32)))) < ((((σ 3 (ix ((6 : Int32) * (nI k6)))) - (σ 3 (ix ((6 : Int32) * (nI k6)))) / (64 : Int32) * (64 : Int32)) / (8 : Int32)) - (p1 / (8 : Int32))) then (if ((((σ 3 (ix ((6 : Int32) * (nI k6)))) - (σ 3 (ix ((6 : Int32) * (nI k6)))) / (64 : Int32) * (64 : Int32)) / (8 : Int32)) - (p1 / (8 : Int32))) ≤ (0 : Int32) then (3 : Int32) else (2 : Int32)) else (if ((((σ 3 (ix ((6 : Int32) * (nI k6)))) - (σ 3 (ix ((6 : Int32) * (nI k6)))) / (64 : Int32) * (64 : Int32)) / (8 : Int32)) - (p1 / (8 : Int32))) < ((((σ 3 (ix ((6 : Int32) * (nI k6)))) - (σ 3 (ix ((6 : Int32) * (nI k6)))) / (64 : Int32) * (64 : Int32)) - ((σ 3 (ix ((6 : Int32) * (nI k6)))) - (σ 3 (ix ((6 : Int32) * (nI k6)))) / (64 : Int32) * (64 : Int32)) / (8 : Int32) * (8 : Int32)) - (p1 - p1 / (8 : Int32) * (8 : Int32))) then (if ((((σ 3 (ix ((6 : Int32) * (nI k6)))) - (σ 3 (ix ((6 : Int32) * (nI k6)))) / (64 : Int32) * (64 : Int32)) / (8 : Int32)) - (p1 / (8 : Int32))) ≤ (0 : Int32) then (3 : Int32) else (2 : Int32)) else (1 : Int32)))) else (0 : Int32))))) := rfl
      refine J_icmp_ne (tgt := 64) X dL_glow_57 (by decide) (fun c57 => ?_) (fun c57 => ?_)
      · skip
        rw [if_neg c57] at j57_0
        refine J_iload_10 X dL_glow_64 ?_
        refine J_if_le (tgt := 88) X dL_glow_66 (by decide) (fun c66 => ?_) (fun c66 => ?_)
        · skip
          rw [if_pos c66] at j57_0
          refine J_iload_10 X dL_glow_88 ?_
          refine J_if_ge (tgt := 112) X dL_glow_90 (by decide) (fun c90 => ?_) (fun c90 => ?_)
          · skip
            rw [if_pos c90] at j57_0
            refine J_iload_11 X dL_glow_112 ?_
            refine J_if_le (tgt := 121) X dL_glow_114 (by decide) (fun c114 => ?_) (fun c114 => ?_)
            · skip
              rw [if_pos c114] at j57_0
              refine J_iconst (v := 3) X dL_glow_121 rfl ?_
              exact K57_122 _ j57_0.symm
            · skip
              rw [if_neg c114] at j57_0
              refine J_iconst (v := 2) X dL_glow_117 rfl ?_
              refine J_goto (tgt := 122) X dL_glow_118 (by decide) ?_
              exact K57_122 _ j57_0.symm
          · skip
            rw [if_neg c90] at j57_0
            refine J_iload_11 X dL_glow_93 ?_
            refine J_iload_10 X dL_glow_95 ?_
            refine J_ineg X dL_glow_97 ?_
            refine J_icmp_gt (tgt := 112) X dL_glow_98 (by decide) (fun c98 => ?_) (fun c98 => ?_)
            · skip
              rw [if_pos c98] at j57_0
              refine J_iload_11 X dL_glow_112 ?_
              refine J_if_le (tgt := 121) X dL_glow_114 (by decide) (fun c114 => ?_) (fun c114 => ?_)
              · skip
                rw [if_pos c114] at j57_0
                refine J_iconst (v := 3) X dL_glow_121 rfl ?_
                exact K57_122 _ j57_0.symm
              · skip
                rw [if_neg c114] at j57_0
                refine J_iconst (v := 2) X dL_glow_117 rfl ?_
                refine J_goto (tgt := 122) X dL_glow_118 (by decide) ?_
                exact K57_122 _ j57_0.symm
            · skip
              rw [if_neg c98] at j57_0
              refine J_iload_11 X dL_glow_101 ?_
              refine J_iload_10 X dL_glow_103 ?_
              refine J_icmp_lt (tgt := 112) X dL_glow_105 (by decide) (fun c105 => ?_) (fun c105 => ?_)
              · skip
                rw [if_pos c105] at j57_0
                refine J_iload_11 X dL_glow_112 ?_
                refine J_if_le (tgt := 121) X dL_glow_114 (by decide) (fun c114 => ?_) (fun c114 => ?_)
                · skip
                  rw [if_pos c114] at j57_0
                  refine J_iconst (v := 3) X dL_glow_121 rfl ?_
                  exact K57_122 _ j57_0.symm
                · skip
                  rw [if_neg c114] at j57_0
                  refine J_iconst (v := 2) X dL_glow_117 rfl ?_
                  refine J_goto (tgt := 122) X dL_glow_118 (by decide) ?_
                  exact K57_122 _ j57_0.symm
              · skip
                rw [if_neg c105] at j57_0
                refine J_iconst (v := 1) X dL_glow_108 rfl ?_
                refine J_goto (tgt := 122) X dL_glow_109 (by decide) ?_
                exact K57_122 _ j57_0.symm
        · skip
          rw [if_neg c66] at j57_0
          refine J_iload_11 X dL_glow_69 ?_
          refine J_iload_10 X dL_glow_71 ?_
          refine J_icmp_gt (tgt := 88) X dL_glow_73 (by decide) (fun c73 => ?_) (fun c73 => ?_)
          · skip
            rw [if_pos c73] at j57_0
            refine J_iload_10 X dL_glow_88 ?_
            refine J_if_ge (tgt := 112) X dL_glow_90 (by decide) (fun c90 => ?_) (fun c90 => ?_)
            · skip
              rw [if_pos c90] at j57_0
              refine J_iload_11 X dL_glow_112 ?_
              refine J_if_le (tgt := 121) X dL_glow_114 (by decide) (fun c114 => ?_) (fun c114 => ?_)
              · skip
                rw [if_pos c114] at j57_0
                refine J_iconst (v := 3) X dL_glow_121 rfl ?_
                exact K57_122 _ j57_0.symm
              · skip
                rw [if_neg c114] at j57_0
                refine J_iconst (v := 2) X dL_glow_117 rfl ?_
                refine J_goto (tgt := 122) X dL_glow_118 (by decide) ?_
                exact K57_122 _ j57_0.symm
            · skip
              rw [if_neg c90] at j57_0
              refine J_iload_11 X dL_glow_93 ?_
              refine J_iload_10 X dL_glow_95 ?_
              refine J_ineg X dL_glow_97 ?_
              refine J_icmp_gt (tgt := 112) X dL_glow_98 (by decide) (fun c98 => ?_) (fun c98 => ?_)
              · skip
                rw [if_pos c98] at j57_0
                refine J_iload_11 X dL_glow_112 ?_
                refine J_if_le (tgt := 121) X dL_glow_114 (by decide) (fun c114 => ?_) (fun c114 => ?_)
                · skip
                  rw [if_pos c114] at j57_0
                  refine J_iconst (v := 3) X dL_glow_121 rfl ?_
                  exact K57_122 _ j57_0.symm
                · skip
                  rw [if_neg c114] at j57_0
                  refine J_iconst (v := 2) X dL_glow_117 rfl ?_
                  refine J_goto (tgt := 122) X dL_glow_118 (by decide) ?_
                  exact K57_122 _ j57_0.symm
              · skip
                rw [if_neg c98] at j57_0
                refine J_iload_11 X dL_glow_101 ?_
                refine J_iload_10 X dL_glow_103 ?_
                refine J_icmp_lt (tgt := 112) X dL_glow_105 (by decide) (fun c105 => ?_) (fun c105 => ?_)
                · skip
                  rw [if_pos c105] at j57_0
                  refine J_iload_11 X dL_glow_112 ?_
                  refine J_if_le (tgt := 121) X dL_glow_114 (by decide) (fun c114 => ?_) (fun c114 => ?_)
                  · skip
                    rw [if_pos c114] at j57_0
                    refine J_iconst (v := 3) X dL_glow_121 rfl ?_
                    exact K57_122 _ j57_0.symm
                  · skip
                    rw [if_neg c114] at j57_0
                    refine J_iconst (v := 2) X dL_glow_117 rfl ?_
                    refine J_goto (tgt := 122) X dL_glow_118 (by decide) ?_
                    exact K57_122 _ j57_0.symm
                · skip
                  rw [if_neg c105] at j57_0
                  refine J_iconst (v := 1) X dL_glow_108 rfl ?_
                  refine J_goto (tgt := 122) X dL_glow_109 (by decide) ?_
                  exact K57_122 _ j57_0.symm
          · skip
            rw [if_neg c73] at j57_0
            refine J_iload_11 X dL_glow_76 ?_
            refine J_ineg X dL_glow_78 ?_
            refine J_iload_10 X dL_glow_79 ?_
            refine J_icmp_gt (tgt := 88) X dL_glow_81 (by decide) (fun c81 => ?_) (fun c81 => ?_)
            · skip
              rw [if_pos c81] at j57_0
              refine J_iload_10 X dL_glow_88 ?_
              refine J_if_ge (tgt := 112) X dL_glow_90 (by decide) (fun c90 => ?_) (fun c90 => ?_)
              · skip
                rw [if_pos c90] at j57_0
                refine J_iload_11 X dL_glow_112 ?_
                refine J_if_le (tgt := 121) X dL_glow_114 (by decide) (fun c114 => ?_) (fun c114 => ?_)
                · skip
                  rw [if_pos c114] at j57_0
                  refine J_iconst (v := 3) X dL_glow_121 rfl ?_
                  exact K57_122 _ j57_0.symm
                · skip
                  rw [if_neg c114] at j57_0
                  refine J_iconst (v := 2) X dL_glow_117 rfl ?_
                  refine J_goto (tgt := 122) X dL_glow_118 (by decide) ?_
                  exact K57_122 _ j57_0.symm
              · skip
                rw [if_neg c90] at j57_0
                refine J_iload_11 X dL_glow_93 ?_
                refine J_iload_10 X dL_glow_95 ?_
                refine J_ineg X dL_glow_97 ?_
                refine J_icmp_gt (tgt := 112) X dL_glow_98 (by decide) (fun c98 => ?_) (fun c98 => ?_)
                · skip
                  rw [if_pos c98] at j57_0
                  refine J_iload_11 X dL_glow_112 ?_
                  refine J_if_le (tgt := 121) X dL_glow_114 (by decide) (fun c114 => ?_) (fun c114 => ?_)
                  · skip
                    rw [if_pos c114] at j57_0
                    refine J_iconst (v := 3) X dL_glow_121 rfl ?_
                    exact K57_122 _ j57_0.symm
                  · skip
                    rw [if_neg c114] at j57_0
                    refine J_iconst (v := 2) X dL_glow_117 rfl ?_
                    refine J_goto (tgt := 122) X dL_glow_118 (by decide) ?_
                    exact K57_122 _ j57_0.symm
                · skip
                  rw [if_neg c98] at j57_0
                  refine J_iload_11 X dL_glow_101 ?_
                  refine J_iload_10 X dL_glow_103 ?_
                  refine J_icmp_lt (tgt := 112) X dL_glow_105 (by decide) (fun c105 => ?_) (fun c105 => ?_)
                  · skip
                    rw [if_pos c105] at j57_0
                    refine J_iload_11 X dL_glow_112 ?_
                    refine J_if_le (tgt := 121) X dL_glow_114 (by decide) (fun c114 => ?_) (fun c114 => ?_)
                    · skip
                      rw [if_pos c114] at j57_0
                      refine J_iconst (v := 3) X dL_glow_121 rfl ?_
                      exact K57_122 _ j57_0.symm
                    · skip
                      rw [if_neg c114] at j57_0
                      refine J_iconst (v := 2) X dL_glow_117 rfl ?_
                      refine J_goto (tgt := 122) X dL_glow_118 (by decide) ?_
                      exact K57_122 _ j57_0.symm
                  · skip
                    rw [if_neg c105] at j57_0
                    refine J_iconst (v := 1) X dL_glow_108 rfl ?_
                    refine J_goto (tgt := 122) X dL_glow_109 (by decide) ?_
                    exact K57_122 _ j57_0.symm
            · skip
              rw [if_neg c81] at j57_0
              refine J_iconst (v := 0) X dL_glow_84 rfl ?_
              refine J_goto (tgt := 122) X dL_glow_85 (by decide) ?_
              exact K57_122 _ j57_0.symm
      · skip
        rw [if_pos c57] at j57_0
        refine J_iconst (v := 4) X dL_glow_60 rfl ?_
        refine J_goto (tgt := 122) X dL_glow_61 (by decide) ?_
        exact K57_122 _ j57_0.symm
  have q_v : (L_glow σ p1 p2) = (L_glow_L6 σ p1 p2 K6 (ix (σ 7 (ix (3 : Int32)))) 0 (0 : Int32)) := by rw [hK6]; exact q_v
  exact L6 (ix (σ 7 (ix (3 : Int32)))) 0 (0 : Int32)  (Nat.zero_add _)  q_v
def L_ground_j28 (σ : St) (p1 : Int32) (k6 : Nat) (a6_6 : Int32) : Int32 := (if (L_burns σ (nI k6)) = (0 : Int32) then (0 : Int32) else ((L_light σ (nI k6)) / (L_apart ((σ 3 (ix ((6 : Int32) * (nI k6)))) - (σ 3 (ix ((6 : Int32) * (nI k6)))) / (64 : Int32) * (64 : Int32)) p1)))
def L_ground_L6 (σ : St) (p1 : Int32) (K6 : Int32 → Int32) : Nat → Nat → Int32 → Int32
  | 0, _, a6_6 => K6 a6_6
  | n6 + 1, k6, a6_6 => (L_ground_L6 σ p1 K6 n6 (k6 + 1) (a6_6 + (L_ground_j28 σ p1 k6 a6_6)))
def L_ground (σ : St) (p1 : Int32) : Int32 := (L_ground_L6 σ p1 (fun a6_6 => a6_6) (ix (σ 7 (ix (3 : Int32)))) 0 (0 : Int32))
theorem cw_L_ground : Cond.static yL_ground ∈ GW ∧ Cond.initialized yL_ground.cls ∈ GW ∧ Cond.code yL_ground cL_ground 8 (some .int) ∈ GW ∧ (yL_ground.cls ≠ "java/lang/invoke/MethodHandle" ∧ yL_ground.cls ≠ "java/lang/invoke/VarHandle") ∧ (parseMethodDescriptor yL_ground.desc).map (fun d => d.parameters.length) = some 6 := ⟨gw_4_131, gw_1_0, gw_4_132, ⟨by decide, by decide⟩, by decide +kernel⟩
set_option maxRecDepth 100000 in
set_option maxHeartbeats 4000000 in
theorem c_L_ground {l : Launch} {D : va_G} {ca : Nat → Nat} {h : fH} {α : Nat → Nat} {σ : St} (hL : LA ca h α σ) (hI : IL σ) (p1 : Int32) (h1 : vp_in p1 64) : FM l D ca yL_ground (.code yL_ground cL_ground 8 (some .int)) { frames := 2, cells := 0, slots := 0, locals := 54 } [.ref (α 0), .ref (α 1), .ref (α 2), .ref (α 3), .ref (α 7), .int p1] h (pI (L_ground σ p1) h) noX := by
  refine FM.of [some (.ref (α 0)), some (.ref (α 1)), some (.ref (α 2)), some (.ref (α 3)), some (.ref (α 7)), some (.int p1), none, none] (by decide) (Nat.le_of_ble_eq_true rfl) rfl ?_
  rintro K X rfl rfl rfl
  have q_v : (L_ground σ p1) = (L_ground_L6 σ p1 (fun a6_6 => a6_6) (ix (σ 7 (ix (3 : Int32)))) 0 (0 : Int32)) := rfl
  refine J_iconst (v := 0) X dL_ground_0 rfl ?_
  refine J_istore_6 X dL_ground_1 rfl (by decide) ?_
  refine J_iconst (v := 0) X dL_ground_3 rfl ?_
  refine J_istore_7 X dL_ground_4 rfl (by decide) ?_
  have hle := (cnt (N := 10) (IL_7_3 hI) (by decide)).2
  obtain ⟨K6, hK6⟩ : ∃ f : Int32 → Int32, f = (fun a6_6 => a6_6) := ⟨_, rfl⟩
  have X6 : ∀ (a6_6 : Int32) (_ : True), (L_ground σ p1) = a6_6 → J K h [some (.ref (α 0)), some (.ref (α 1)), some (.ref (α 2)), some (.ref (α 3)), some (.ref (α 7)), some (.int p1), some (.int a6_6), none] [] 66 0 0 := by
    intro a6_6  _  q_v
    refine J_iload_6 X dL_ground_66 ?_
    exact J_iret X rfl rfl ⟨by rw [q_v], rfl⟩ dL_ground_68
  have L6 : ∀ (n6 k6 : Nat) (a6_6 : Int32), k6 + n6 = ix (σ 7 (ix (3 : Int32))) → (L_ground σ p1) = (L_ground_L6 σ p1 K6 n6 k6 a6_6) → J K h [some (.ref (α 0)), some (.ref (α 1)), some (.ref (α 2)), some (.ref (α 3)), some (.ref (α 7)), some (.int p1), some (.int a6_6), some (.int (nI k6))] [] 6 0 0 := by
    intro n6
    induction n6 with
    | zero =>
      intro k6 a6_6  hk6  q_v
      rw [L_ground_L6] at q_v
      refine J_iload_7 X dL_ground_6 ?_
      refine J_aload_4 X dL_ground_8 ?_
      refine J_iconst (v := 3) X dL_ground_10 rfl ?_
      refine JL_ld X hL 7 (by decide) (vp_up (vp_in_nI (n := 3) (N := 4) (by decide) (by decide)) (by decide)) dL_ground_11 ?_
      refine J_icmp_ge (tgt := 66) X dL_ground_12 (by decide) (fun _ => ?_) (fun c => absurd (lp_exit (cnt (N := 10) (IL_7_3 hI) (by decide)).1 (by omega) hk6) c)
      rw [hK6] at q_v
      refine J.subL (lv' := [some (.ref (α 0)), some (.ref (α 1)), some (.ref (α 2)), some (.ref (α 3)), some (.ref (α 7)), some (.int p1), some (.int a6_6), none]) (And.intro rfl (And.intro rfl (And.intro rfl (And.intro rfl (And.intro rfl (And.intro rfl (And.intro rfl trivial))))))) ?_
      exact X6 a6_6  trivial  q_v
    | succ n6 ih6 =>
      intro k6 a6_6  hk6  q_v
      rw [L_ground_L6] at q_v
      have hlt6 : k6 < ix (σ 7 (ix (3 : Int32))) := by omega
      refine J_iload_7 X dL_ground_6 ?_
      refine J_aload_4 X dL_ground_8 ?_
      refine J_iconst (v := 3) X dL_ground_10 rfl ?_
      refine JL_ld X hL 7 (by decide) (vp_up (vp_in_nI (n := 3) (N := 4) (by decide) (by decide)) (by decide)) dL_ground_11 ?_
      refine J_icmp_ge (tgt := 66) X dL_ground_12 (by decide) (fun c => absurd c (lp_stay (cnt (N := 10) (IL_7_3 hI) (by decide)).1 (by omega) hk6)) (fun _ => ?_)
      refine J_iload_6 X dL_ground_15 ?_
      refine J_aload_0 X dL_ground_17 ?_
      refine J_aload_1 X dL_ground_18 ?_
      refine J_aload_2 X dL_ground_19 ?_
      refine J_aload_3 X dL_ground_20 ?_
      refine J_aload_4 X dL_ground_21 ?_
      refine J_iload_7 X dL_ground_23 ?_
      refine J_callS X (c_L_burns hL hI (nI k6) (vp_up (vp_in_nI (n := k6) (N := 10) (by omega) (by decide)) (by decide))) (And.intro gw_4_86 cw_L_burns) rfl rfl (Nat.le_of_ble_eq_true rfl) dL_ground_25 rfl (J.pi ?_) JE.no
      have K28_57 : ∀ (v28_0 : Int32), v28_0 = (L_ground_j28 σ p1 k6 a6_6) → J K h [some (.ref (α 0)), some (.ref (α 1)), some (.ref (α 2)), some (.ref (α 3)), some (.ref (α 7)), some (.int p1), some (.int a6_6), some (.int (nI k6))] [.int v28_0, .int a6_6] 57 0 0 := by
        intro v28_0 ev28_0
        try rw [ev28_0]
        clear ev28_0
        refine J_iadd X dL_ground_57 ?_
        refine J_istore_6 X dL_ground_58 rfl (by decide) ?_
        refine J_iinc_7 (v := (nI (k6 + 1))) X dL_ground_60 (nI_1 _) rfl (by decide) ?_
        refine J_goto (tgt := 6) X dL_ground_63 (by decide) ?_
        exact ih6 (k6 + 1) (a6_6 + (L_ground_j28 σ p1 k6 a6_6))  (by omega)  q_v
      have j28_0 : L_ground_j28 σ p1 k6 a6_6 = (if (L_burns σ (nI k6)) = (0 : Int32) then (0 : Int32) else ((L_light σ (nI k6)) / (L_apart ((σ 3 (ix ((6 : Int32) * (nI k6)))) - (σ 3 (ix ((6 : Int32) * (nI k6)))) / (64 : Int32) * (64 : Int32)) p1))) := rfl
      refine J_if_eq (tgt := 56) X dL_ground_28 (by decide) (fun c28 => ?_) (fun c28 => ?_)
      · skip
        rw [if_pos c28] at j28_0
        refine J_iconst (v := 0) X dL_ground_56 rfl ?_
        exact K28_57 _ j28_0.symm
      · skip
        rw [if_neg c28] at j28_0
        refine J_aload_3 X dL_ground_31 ?_
        refine J_iload_7 X dL_ground_32 ?_
        refine J_callS X (c_L_light hL hI (nI k6) (vp_up (vp_in_nI (n := k6) (N := 10) (by omega) (by decide)) (by decide))) (And.intro gw_4_92 cw_L_light) rfl rfl (Nat.le_of_ble_eq_true rfl) dL_ground_34 rfl (J.pi ?_) JE.no
        refine J_aload_3 X dL_ground_37 ?_
        refine J_bipush (v := (6 : Int32)) X dL_ground_38 (by decide) ?_
        refine J_iload_7 X dL_ground_40 ?_
        refine J_imul X dL_ground_42 ?_
        refine JL_ld X hL 3 (by decide) (vp_up (vr_mul (vp_in_nI (n := 6) (N := 7) (by decide) (by decide)) (vp_in_nI (n := k6) (N := 10) (by omega) (by decide)) (by decide)) (by decide)) dL_ground_43 ?_
        refine J_bipush (v := (64 : Int32)) X dL_ground_44 (by decide) ?_
        refine J_irem X dL_ground_46 (by decide) ?_
        refine J_iload_5 X dL_ground_47 ?_
        refine J_callS X (c_L_apart ((σ 3 (ix ((6 : Int32) * (nI k6)))) - (σ 3 (ix ((6 : Int32) * (nI k6)))) / (64 : Int32) * (64 : Int32)) p1) (And.intro gw_4_95 cw_L_apart) rfl rfl (Nat.le_of_ble_eq_true rfl) dL_ground_49 rfl (J.pi ?_) JE.no
        refine J_idiv X dL_ground_52 (apart_nz (vr_rem (c := 64) (IL_3_0 hI (vp_in_nI (n := k6) (N := 10) (by omega) (by decide))) (by decide) (by decide) (by decide)) h1) ?_
        refine J_goto (tgt := 57) X dL_ground_53 (by decide) ?_
        exact K28_57 _ j28_0.symm
  have q_v : (L_ground σ p1) = (L_ground_L6 σ p1 K6 (ix (σ 7 (ix (3 : Int32)))) 0 (0 : Int32)) := by rw [hK6]; exact q_v
  exact L6 (ix (σ 7 (ix (3 : Int32)))) 0 (0 : Int32)  (Nat.zero_add _)  q_v
end
