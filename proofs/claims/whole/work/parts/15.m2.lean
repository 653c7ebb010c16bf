noncomputable section
theorem fz {σ : St} {w : Int32} (c : M_fails σ w = 0) (h : w = 1 ∨ w = 2 ∨ w = 3) : False := by
  rcases h with rfl | rfl | rfl
  · rw [fails_1] at c; exact i10 c
  · rw [fails_2] at c; exact i10 c
  · rw [fails_3] at c; exact i10 c
def M_ridge_j5 (σ : St) (p1 : Int32) (p2 : Int32) : Int32 := (if (M_isPlace p1) = (0 : Int32) then (1 : Int32) else (0 : Int32))
theorem M_ridge_j5_b (σ : St) (p1 : Int32) (p2 : Int32) : M_ridge_j5 σ p1 p2 = 0 ∨ M_ridge_j5 σ p1 p2 = 1 := by
  unfold M_ridge_j5
  (repeat' split) <;> first | exact Or.inl rfl | exact Or.inr rfl
def M_ridge (σ : St) (p1 : Int32) (p2 : Int32) : Int32 := (if (M_fails σ (M_ridge_j5 σ p1 p2)) = (0 : Int32) then ((M_fails_s σ (M_ridge_j5 σ p1 p2)) 2 (ix p1)) else (0 : Int32))
def M_ridge_s (σ : St) (p1 : Int32) (p2 : Int32) : St := (if (M_fails σ (M_ridge_j5 σ p1 p2)) = (0 : Int32) then (sS (M_fails_s σ (M_ridge_j5 σ p1 p2)) 2 (ix p1) p2) else (M_fails_s σ (M_ridge_j5 σ p1 p2)))
theorem ok_ridge0 {σ : St} {p1 p2 : Int32} (hI : Inv σ) (c : M_fails σ (M_ridge_j5 σ p1 p2) = 0) : vp_in p1 64 := by
  refine isPlace_in (fun q => ?_)
  exact fz c (by unfold M_ridge_j5; simp [q])
theorem cw_X11_ridge : Cond.instanceMethod yX11_ridge ∈ GW ∧ Cond.selects RX11 yX11_ridge yX11_ridge ∈ GW ∧ Cond.initialized RX11 ∈ GW ∧ Cond.code yX11_ridge cX11_ridge 4 (some .boolean) ∈ GW ∧ yX11_ridge.cls = RX11 ∧ (yX11_ridge.cls ≠ "java/lang/invoke/MethodHandle" ∧ yX11_ridge.cls ≠ "java/lang/invoke/VarHandle") ∧ (parseMethodDescriptor yX11_ridge.desc).map (fun d => d.parameters.length) = some 2 := ⟨gw_5_142, gw_5_143, gw_1_14, gw_5_144, rfl, ⟨by decide, by decide⟩, by decide +kernel⟩
set_option maxRecDepth 100000 in
set_option maxHeartbeats 4000000 in
theorem c_M_ridge {l : Launch} {D : va_G} {ca : Nat → Nat} {h : fH} {m : Nat} {ρ : Nat → Nat} {σ : St} (hR : RM ca h m ρ σ) (hI : Inv σ) (p1 : Int32) (p2 : Int32) (hp2 : p2 = 0 ∨ p2 = 1) : FM l D ca yX11_ridge (.code yX11_ridge cX11_ridge 4 (some .boolean)) { frames := 3, cells := 0, slots := 0, locals := 62 } [.ref m, .int p1, .int p2] h (pIM (M_ridge σ p1 p2) (fun h2 => RM ca h2 m ρ (M_ridge_s σ p1 p2))) noX := by
  refine FM.of [some (.ref m), some (.int p1), some (.int p2), none] (by decide) (Nat.le_of_ble_eq_true rfl) rfl ?_
  rintro K X rfl rfl rfl
  have q_v : (M_ridge σ p1 p2) = (if (M_fails σ (M_ridge_j5 σ p1 p2)) = (0 : Int32) then ((M_fails_s σ (M_ridge_j5 σ p1 p2)) 2 (ix p1)) else (0 : Int32)) := rfl
  have q_s : (M_ridge_s σ p1 p2) = (if (M_fails σ (M_ridge_j5 σ p1 p2)) = (0 : Int32) then (sS (M_fails_s σ (M_ridge_j5 σ p1 p2)) 2 (ix p1) p2) else (M_fails_s σ (M_ridge_j5 σ p1 p2))) := rfl
  refine J_aload_0 X dX11_ridge_0 ?_
  refine J_iload_1 X dX11_ridge_1 ?_
  refine J_callS X (c_M_isPlace p1) (And.intro gw_5_145 cw_X11_isPlace) rfl rfl (Nat.le_of_ble_eq_true rfl) dX11_ridge_2 rfl (J.pi ?_) JE.no
  have K5_13 : ∀ (v5_0 : Int32), v5_0 = (M_ridge_j5 σ p1 p2) → J K h [some (.ref m), some (.int p1), some (.int p2), none] [.int v5_0, .ref m] 13 0 0 := by
    intro v5_0 ev5_0
    try rw [ev5_0]
    clear ev5_0
    refine J_callV X (c_M_fails hR (M_ridge_j5 σ p1 p2)) (And.intro gw_5_151 cw_X11_fails) hR.1 rfl rfl rfl (Nat.le_of_ble_eq_true rfl) dX11_ridge_13 rfl (J.pim (fun h1 hR1 => ?_)) JE.no
    have hI1 : Inv (M_fails_s σ (M_ridge_j5 σ p1 p2)) := (Inv_fails hI)
    refine J_if_eq (tgt := 21) X dX11_ridge_16 (by decide) (fun c16 => ?_) (fun c16 => ?_)
    · skip
      rw [if_pos c16] at q_v
      rw [if_pos c16] at q_s
      have hp := ok_ridge0 hI c16
      refine J_aload_0 X dX11_ridge_21 ?_
      refine JM_get X hR1 2 (by decide) rfl rfl gw_5_12 dX11_ridge_22 ?_
      refine J_iload_1 X dX11_ridge_25 ?_
      refine JM_zld X hR1 2 rfl rfl hp dX11_ridge_26 ?_
      refine J_istore_3 X dX11_ridge_27 rfl (by decide) ?_
      refine J_aload_0 X dX11_ridge_28 ?_
      refine JM_get X hR1 2 (by decide) rfl rfl gw_5_12 dX11_ridge_29 ?_
      refine J_iload_1 X dX11_ridge_32 ?_
      refine J_iload_2 X dX11_ridge_33 ?_
      refine JM_zst X hR1 2 rfl rfl hp2 hp dX11_ridge_34 (fun h2 hR2 => ?_)
      refine J_iload_3 X dX11_ridge_35 ?_
      exact J_zret X rfl (Inv_fails hI 2 (ix p1)) rfl ⟨by rw [q_v], by rw [q_s]; exact hR2⟩ dX11_ridge_36
    · skip
      rw [if_neg c16] at q_v
      rw [if_neg c16] at q_s
      refine J_iconst (v := 0) X dX11_ridge_19 rfl ?_
      exact J_zret X rfl (by first | exact Or.inl rfl | exact Or.inr rfl) rfl ⟨by rw [q_v], by rw [q_s]; exact hR1⟩ dX11_ridge_20
  have j5_0 : M_ridge_j5 σ p1 p2 = (if (M_isPlace p1) = (0 : Int32) then (1 : Int32) else (0 : Int32)) := rfl
  refine J_if_eq (tgt := 12) X dX11_ridge_5 (by decide) (fun c5 => ?_) (fun c5 => ?_)
  · skip
    rw [if_pos c5] at j5_0
    refine J_iconst (v := 1) X dX11_ridge_12 rfl ?_
    exact K5_13 _ j5_0.symm
  · skip
    rw [if_neg c5] at j5_0
    refine J_iconst (v := 0) X dX11_ridge_8 rfl ?_
    refine J_goto (tgt := 13) X dX11_ridge_9 (by decide) ?_
    exact K5_13 _ j5_0.symm
def M_zone_j5 (σ : St) (p1 : Int32) (p2 : Int32) : Int32 := (if (M_isPlace p1) = (0 : Int32) then (1 : Int32) else (if (M_isZone p2) = (0 : Int32) then (1 : Int32) else (0 : Int32)))
theorem M_zone_j5_b (σ : St) (p1 : Int32) (p2 : Int32) : M_zone_j5 σ p1 p2 = 0 ∨ M_zone_j5 σ p1 p2 = 1 := by
  unfold M_zone_j5
  (repeat' split) <;> first | exact Or.inl rfl | exact Or.inr rfl
def M_zone (σ : St) (p1 : Int32) (p2 : Int32) : Int32 := (if (M_fails σ (M_zone_j5 σ p1 p2)) = (0 : Int32) then ((M_fails_s σ (M_zone_j5 σ p1 p2)) 3 (ix p1)) else (0 : Int32))
def M_zone_s (σ : St) (p1 : Int32) (p2 : Int32) : St := (if (M_fails σ (M_zone_j5 σ p1 p2)) = (0 : Int32) then (sS (M_fails_s σ (M_zone_j5 σ p1 p2)) 3 (ix p1) p2) else (M_fails_s σ (M_zone_j5 σ p1 p2)))
theorem ok_zone0 {σ : St} {p1 p2 : Int32} (hI : Inv σ) (c : M_fails σ (M_zone_j5 σ p1 p2) = 0) : vp_in p1 64 := by
  refine isPlace_in (fun q => ?_)
  exact fz c (by unfold M_zone_j5; simp [q])
theorem ok_zone1 {σ : St} {p1 p2 : Int32} (hI : Inv σ) (c : M_fails σ (M_zone_j5 σ p1 p2) = 0) : vp_in p2 4 := by
  refine isZone_in (fun q => ?_)
  exact fz c (by unfold M_zone_j5; simp [q])
theorem cw_X11_zone : Cond.instanceMethod yX11_zone ∈ GW ∧ Cond.selects RX11 yX11_zone yX11_zone ∈ GW ∧ Cond.initialized RX11 ∈ GW ∧ Cond.code yX11_zone cX11_zone 4 (some .int) ∈ GW ∧ yX11_zone.cls = RX11 ∧ (yX11_zone.cls ≠ "java/lang/invoke/MethodHandle" ∧ yX11_zone.cls ≠ "java/lang/invoke/VarHandle") ∧ (parseMethodDescriptor yX11_zone.desc).map (fun d => d.parameters.length) = some 2 := ⟨gw_5_156, gw_5_157, gw_1_14, gw_5_158, rfl, ⟨by decide, by decide⟩, by decide +kernel⟩
set_option maxRecDepth 100000 in
set_option maxHeartbeats 4000000 in
theorem c_M_zone {l : Launch} {D : va_G} {ca : Nat → Nat} {h : fH} {m : Nat} {ρ : Nat → Nat} {σ : St} (hR : RM ca h m ρ σ) (hI : Inv σ) (p1 : Int32) (p2 : Int32) : FM l D ca yX11_zone (.code yX11_zone cX11_zone 4 (some .int)) { frames := 3, cells := 0, slots := 0, locals := 62 } [.ref m, .int p1, .int p2] h (pIM (M_zone σ p1 p2) (fun h2 => RM ca h2 m ρ (M_zone_s σ p1 p2))) noX := by
  refine FM.of [some (.ref m), some (.int p1), some (.int p2), none] (by decide) (Nat.le_of_ble_eq_true rfl) rfl ?_
  rintro K X rfl rfl rfl
  have q_v : (M_zone σ p1 p2) = (if (M_fails σ (M_zone_j5 σ p1 p2)) = (0 : Int32) then ((M_fails_s σ (M_zone_j5 σ p1 p2)) 3 (ix p1)) else (0 : Int32)) := rfl
  have q_s : (M_zone_s σ p1 p2) = (if (M_fails σ (M_zone_j5 σ p1 p2)) = (0 : Int32) then (sS (M_fails_s σ (M_zone_j5 σ p1 p2)) 3 (ix p1) p2) else (M_fails_s σ (M_zone_j5 σ p1 p2))) := rfl
  refine J_aload_0 X dX11_zone_0 ?_
  refine J_iload_1 X dX11_zone_1 ?_
  refine J_callS X (c_M_isPlace p1) (And.intro gw_5_145 cw_X11_isPlace) rfl rfl (Nat.le_of_ble_eq_true rfl) dX11_zone_2 rfl (J.pi ?_) JE.no
  have K5_20 : ∀ (v5_0 : Int32), v5_0 = (M_zone_j5 σ p1 p2) → J K h [some (.ref m), some (.int p1), some (.int p2), none] [.int v5_0, .ref m] 20 0 0 := by
    intro v5_0 ev5_0
    try rw [ev5_0]
    clear ev5_0
    refine J_callV X (c_M_fails hR (M_zone_j5 σ p1 p2)) (And.intro gw_5_151 cw_X11_fails) hR.1 rfl rfl rfl (Nat.le_of_ble_eq_true rfl) dX11_zone_20 rfl (J.pim (fun h1 hR1 => ?_)) JE.no
    have hI1 : Inv (M_fails_s σ (M_zone_j5 σ p1 p2)) := (Inv_fails hI)
    refine J_if_eq (tgt := 28) X dX11_zone_23 (by decide) (fun c23 => ?_) (fun c23 => ?_)
    · skip
      rw [if_pos c23] at q_v
      rw [if_pos c23] at q_s
      have hp := ok_zone0 hI c23
      refine J_aload_0 X dX11_zone_28 ?_
      refine JM_get X hR1 3 (by decide) rfl rfl gw_5_13 dX11_zone_29 ?_
      refine J_iload_1 X dX11_zone_32 ?_
      refine JM_ald X hR1 3 rfl rfl hp dX11_zone_33 ?_
      refine J_istore_3 X dX11_zone_34 rfl (by decide) ?_
      refine J_aload_0 X dX11_zone_35 ?_
      refine JM_get X hR1 3 (by decide) rfl rfl gw_5_13 dX11_zone_36 ?_
      refine J_iload_1 X dX11_zone_39 ?_
      refine J_iload_2 X dX11_zone_40 ?_
      refine JM_ast X hR1 3 rfl rfl hp dX11_zone_41 (fun h2 hR2 => ?_)
      refine J_iload_3 X dX11_zone_42 ?_
      exact J_iret X rfl rfl ⟨by rw [q_v], by rw [q_s]; exact hR2⟩ dX11_zone_43
    · skip
      rw [if_neg c23] at q_v
      rw [if_neg c23] at q_s
      refine J_iconst (v := 0) X dX11_zone_26 rfl ?_
      exact J_iret X rfl rfl ⟨by rw [q_v], by rw [q_s]; exact hR1⟩ dX11_zone_27
  have j5_0 : M_zone_j5 σ p1 p2 = (if (M_isPlace p1) = (0 : Int32) then (1 : Int32) else (if (M_isZone p2) = (0 : Int32) then (1 : Int32) else (0 : Int32))) := rfl
  refine J_if_eq (tgt := 19) X dX11_zone_5 (by decide) (fun c5 => ?_) (fun c5 => ?_)
  · skip
    rw [if_pos c5] at j5_0
    refine J_iconst (v := 1) X dX11_zone_19 rfl ?_
    exact K5_20 _ j5_0.symm
  · skip
    rw [if_neg c5] at j5_0
    refine J_iload_2 X dX11_zone_8 ?_
    refine J_callS X (c_M_isZone p2) (And.intro gw_5_159 cw_X11_isZone) rfl rfl (Nat.le_of_ble_eq_true rfl) dX11_zone_9 rfl (J.pi ?_) JE.no
    refine J_if_eq (tgt := 19) X dX11_zone_12 (by decide) (fun c12 => ?_) (fun c12 => ?_)
    · skip
      rw [if_pos c12] at j5_0
      refine J_iconst (v := 1) X dX11_zone_19 rfl ?_
      exact K5_20 _ j5_0.symm
    · skip
      rw [if_neg c12] at j5_0
      refine J_iconst (v := 0) X dX11_zone_15 rfl ?_
      refine J_goto (tgt := 20) X dX11_zone_16 (by decide) ?_
      exact K5_20 _ j5_0.symm
def M_law_j8 (σ : St) (p1 : Int32) (p2 : Int32) (p3 : Int32) (p4 : Int32) : Int32 := (if (M_isIn p2 (18 : Int32) (24 : Int32)) = (0 : Int32) then (0 : Int32) else (if (M_isIn p3 (0 : Int32) (2 : Int32)) = (0 : Int32) then (0 : Int32) else (if (M_isIn p4 (0 : Int32) (10 : Int32)) = (0 : Int32) then (0 : Int32) else (1 : Int32))))
theorem M_law_j8_b (σ : St) (p1 : Int32) (p2 : Int32) (p3 : Int32) (p4 : Int32) : M_law_j8 σ p1 p2 p3 p4 = 0 ∨ M_law_j8 σ p1 p2 p3 p4 = 1 := by
  unfold M_law_j8
  (repeat' split) <;> first | exact Or.inl rfl | exact Or.inr rfl
def M_law_j43 (σ : St) (p1 : Int32) (p2 : Int32) (p3 : Int32) (p4 : Int32) : Int32 := (if (M_isZone p1) = (0 : Int32) then (1 : Int32) else (if (M_law_j8 σ p1 p2 p3 p4) = (0 : Int32) then (2 : Int32) else (0 : Int32)))
def M_law_j63_s (σ : St) (p1 : Int32) (p2 : Int32) (p3 : Int32) (p4 : Int32) : St := (if (M_fails σ (M_law_j43 σ p1 p2 p3 p4)) = (0 : Int32) then (sS (sS (sS (M_fails_s σ (M_law_j43 σ p1 p2 p3 p4)) 4 (ix p1) p2) 5 (ix p1) p3) 6 (ix p1) p4) else (M_fails_s σ (M_law_j43 σ p1 p2 p3 p4)))
def M_law_s (σ : St) (p1 : Int32) (p2 : Int32) (p3 : Int32) (p4 : Int32) : St := (M_law_j63_s σ p1 p2 p3 p4)
theorem ok_law0 {σ : St} {p1 p2 p3 p4 : Int32} (hI : Inv σ) (c : M_fails σ (M_law_j43 σ p1 p2 p3 p4) = 0) : vp_in p1 4 := by
  refine isZone_in (fun q => ?_)
  exact fz c (by unfold M_law_j43; simp [q])
theorem cw_X11_law : Cond.instanceMethod yX11_law ∈ GW ∧ Cond.selects RX11 yX11_law yX11_law ∈ GW ∧ Cond.initialized RX11 ∈ GW ∧ Cond.code yX11_law cX11_law 6 none ∈ GW ∧ yX11_law.cls = RX11 ∧ (yX11_law.cls ≠ "java/lang/invoke/MethodHandle" ∧ yX11_law.cls ≠ "java/lang/invoke/VarHandle") ∧ (parseMethodDescriptor yX11_law.desc).map (fun d => d.parameters.length) = some 4 := ⟨gw_5_163, gw_5_164, gw_1_14, gw_5_165, rfl, ⟨by decide, by decide⟩, by decide +kernel⟩
set_option maxRecDepth 100000 in
set_option maxHeartbeats 4000000 in
theorem c_M_law {l : Launch} {D : va_G} {ca : Nat → Nat} {h : fH} {m : Nat} {ρ : Nat → Nat} {σ : St} (hR : RM ca h m ρ σ) (hI : Inv σ) (p1 : Int32) (p2 : Int32) (p3 : Int32) (p4 : Int32) : FM l D ca yX11_law (.code yX11_law cX11_law 6 none) { frames := 3, cells := 0, slots := 0, locals := 62 } [.ref m, .int p1, .int p2, .int p3, .int p4] h (pVM (fun h2 => RM ca h2 m ρ (M_law_s σ p1 p2 p3 p4))) noX := by
  refine FM.of [some (.ref m), some (.int p1), some (.int p2), some (.int p3), some (.int p4), none] (by decide) (Nat.le_of_ble_eq_true rfl) rfl ?_
  rintro K X rfl rfl rfl
  have q_s : (M_law_s σ p1 p2 p3 p4) = (M_law_j63_s σ p1 p2 p3 p4) := rfl
  refine J_iload_2 X dX11_law_0 ?_
  refine J_bipush (v := (18 : Int32)) X dX11_law_1 (by decide) ?_
  refine J_bipush (v := (24 : Int32)) X dX11_law_3 (by decide) ?_
  refine J_callS X (c_M_isIn p2 (18 : Int32) (24 : Int32)) (And.intro gw_5_148 cw_X11_isIn) rfl rfl (Nat.le_of_ble_eq_true rfl) dX11_law_5 rfl (J.pi ?_) JE.no
  have K8_36 : ∀ (v8_0 : Int32), v8_0 = (M_law_j8 σ p1 p2 p3 p4) → J K h [some (.ref m), some (.int p1), some (.int p2), some (.int p3), some (.int p4), none] [.int v8_0] 36 0 0 := by
    intro v8_0 ev8_0
    try rw [ev8_0]
    clear ev8_0
    refine J_istore_5 X dX11_law_36 rfl (by decide) ?_
    refine J_aload_0 X dX11_law_38 ?_
    refine J_iload_1 X dX11_law_39 ?_
    refine J_callS X (c_M_isZone p1) (And.intro gw_5_159 cw_X11_isZone) rfl rfl (Nat.le_of_ble_eq_true rfl) dX11_law_40 rfl (J.pi ?_) JE.no
    have K43_60 : ∀ (v43_0 : Int32), v43_0 = (M_law_j43 σ p1 p2 p3 p4) → J K h [some (.ref m), some (.int p1), some (.int p2), some (.int p3), some (.int p4), some (.int (M_law_j8 σ p1 p2 p3 p4))] [.int v43_0, .ref m] 60 0 0 := by
      intro v43_0 ev43_0
      try rw [ev43_0]
      clear ev43_0
      refine J_callV X (c_M_fails hR (M_law_j43 σ p1 p2 p3 p4)) (And.intro gw_5_151 cw_X11_fails) hR.1 rfl rfl rfl (Nat.le_of_ble_eq_true rfl) dX11_law_60 rfl (J.pim (fun h1 hR1 => ?_)) JE.no
      have hI1 : Inv (M_fails_s σ (M_law_j43 σ p1 p2 p3 p4)) := (Inv_fails hI)
      have K63_88 : ∀ hj2 : fH, RM (kca K) hj2 m ρ (M_law_j63_s σ p1 p2 p3 p4) → J K hj2 [some (.ref m), some (.int p1), some (.int p2), some (.int p3), some (.int p4), some (.int (M_law_j8 σ p1 p2 p3 p4))] [] 88 0 0 := by
        intro hj2 hRj2
        exact J_vret X rfl rfl ⟨rfl, by rw [q_s]; exact hRj2⟩ dX11_law_88
      have j63_0 : M_law_j63_s σ p1 p2 p3 p4 = (if (M_fails σ (M_law_j43 σ p1 p2 p3 p4)) = (0 : Int32) then (sS (sS (sS (M_fails_s σ (M_law_j43 σ p1 p2 p3 p4)) 4 (ix p1) p2) 5 (ix p1) p3) 6 (ix p1) p4) else (M_fails_s σ (M_law_j43 σ p1 p2 p3 p4))) := rfl
      refine J_if_ne (tgt := 88) X dX11_law_63 (by decide) (fun c63 => ?_) (fun c63 => ?_)
      · skip
        rw [if_neg c63] at j63_0
        exact K63_88 _ (by rw [j63_0]; exact hR1)
      · skip
        rw [if_pos c63] at j63_0
        have hp := ok_law0 hI c63
        refine J_aload_0 X dX11_law_66 ?_
        refine JM_get X hR1 4 (by decide) rfl rfl gw_5_14 dX11_law_67 ?_
        refine J_iload_1 X dX11_law_70 ?_
        refine J_iload_2 X dX11_law_71 ?_
        refine JM_ast X hR1 4 rfl rfl hp dX11_law_72 (fun h3 hR3 => ?_)
        refine J_aload_0 X dX11_law_73 ?_
        refine JM_get X hR3 5 (by decide) rfl rfl gw_5_15 dX11_law_74 ?_
        refine J_iload_1 X dX11_law_77 ?_
        refine J_iload_3 X dX11_law_78 ?_
        refine JM_ast X hR3 5 rfl rfl hp dX11_law_79 (fun h4 hR4 => ?_)
        refine J_aload_0 X dX11_law_80 ?_
        refine JM_get X hR4 6 (by decide) rfl rfl gw_5_16 dX11_law_81 ?_
        refine J_iload_1 X dX11_law_84 ?_
        refine J_iload_4 X dX11_law_85 ?_
        refine JM_ast X hR4 6 rfl rfl hp dX11_law_87 (fun h5 hR5 => ?_)
        exact K63_88 _ (by rw [j63_0]; exact hR5)
    have j43_0 : M_law_j43 σ p1 p2 p3 p4 = (if (M_isZone p1) = (0 : Int32) then (1 : Int32) else (if (M_law_j8 σ p1 p2 p3 p4) = (0 : Int32) then (2 : Int32) else (0 : Int32))) := rfl
    refine J_if_ne (tgt := 50) X dX11_law_43 (by decide) (fun c43 => ?_) (fun c43 => ?_)
    · skip
      rw [if_neg c43] at j43_0
      refine J_iload_5 X dX11_law_50 ?_
      refine J_if_eq (tgt := 59) X dX11_law_52 (by decide) (fun c52 => ?_) (fun c52 => ?_)
      · skip
        rw [if_pos c52] at j43_0
        refine J_iconst (v := 2) X dX11_law_59 rfl ?_
        exact K43_60 _ j43_0.symm
      · skip
        rw [if_neg c52] at j43_0
        refine J_iconst (v := 0) X dX11_law_55 rfl ?_
        refine J_goto (tgt := 60) X dX11_law_56 (by decide) ?_
        exact K43_60 _ j43_0.symm
    · skip
      rw [if_pos c43] at j43_0
      refine J_iconst (v := 1) X dX11_law_46 rfl ?_
      refine J_goto (tgt := 60) X dX11_law_47 (by decide) ?_
      exact K43_60 _ j43_0.symm
  have j8_0 : M_law_j8 σ p1 p2 p3 p4 = (if (M_isIn p2 (18 : Int32) (24 : Int32)) = (0 : Int32) then (0 : Int32) else (if (M_isIn p3 (0 : Int32) (2 : Int32)) = (0 : Int32) then (0 : Int32) else (if (M_isIn p4 (0 : Int32) (10 : Int32)) = (0 : Int32) then (0 : Int32) else (1 : Int32)))) := rfl
  refine J_if_eq (tgt := 35) X dX11_law_8 (by decide) (fun c8 => ?_) (fun c8 => ?_)
  · skip
    rw [if_pos c8] at j8_0
    refine J_iconst (v := 0) X dX11_law_35 rfl ?_
    exact K8_36 _ j8_0.symm
  · skip
    rw [if_neg c8] at j8_0
    refine J_iload_3 X dX11_law_11 ?_
    refine J_iconst (v := 0) X dX11_law_12 rfl ?_
    refine J_iconst (v := 2) X dX11_law_13 rfl ?_
    refine J_callS X (c_M_isIn p3 (0 : Int32) (2 : Int32)) (And.intro gw_5_148 cw_X11_isIn) rfl rfl (Nat.le_of_ble_eq_true rfl) dX11_law_14 rfl (J.pi ?_) JE.no
    refine J_if_eq (tgt := 35) X dX11_law_17 (by decide) (fun c17 => ?_) (fun c17 => ?_)
    · skip
      rw [if_pos c17] at j8_0
      refine J_iconst (v := 0) X dX11_law_35 rfl ?_
      exact K8_36 _ j8_0.symm
    · skip
      rw [if_neg c17] at j8_0
      refine J_iload_4 X dX11_law_20 ?_
      refine J_iconst (v := 0) X dX11_law_22 rfl ?_
      refine J_bipush (v := (10 : Int32)) X dX11_law_23 (by decide) ?_
      refine J_callS X (c_M_isIn p4 (0 : Int32) (10 : Int32)) (And.intro gw_5_148 cw_X11_isIn) rfl rfl (Nat.le_of_ble_eq_true rfl) dX11_law_25 rfl (J.pi ?_) JE.no
      refine J_if_eq (tgt := 35) X dX11_law_28 (by decide) (fun c28 => ?_) (fun c28 => ?_)
      · skip
        rw [if_pos c28] at j8_0
        refine J_iconst (v := 0) X dX11_law_35 rfl ?_
        exact K8_36 _ j8_0.symm
      · skip
        rw [if_neg c28] at j8_0
        refine J_iconst (v := 1) X dX11_law_31 rfl ?_
        refine J_goto (tgt := 36) X dX11_law_32 (by decide) ?_
        exact K8_36 _ j8_0.symm
def M_air_j7 (σ : St) (p1 : Int32) : Int32 := (if (M_isIn p1 (0 : Int32) (2 : Int32)) = (0 : Int32) then (1 : Int32) else (0 : Int32))
theorem M_air_j7_b (σ : St) (p1 : Int32) : M_air_j7 σ p1 = 0 ∨ M_air_j7 σ p1 = 1 := by
  unfold M_air_j7
  (repeat' split) <;> first | exact Or.inl rfl | exact Or.inr rfl
def M_air (σ : St) (p1 : Int32) : Int32 := (if (M_fails σ (M_air_j7 σ p1)) = (0 : Int32) then ((M_fails_s σ (M_air_j7 σ p1)) 1 0) else (0 : Int32))
def M_air_s (σ : St) (p1 : Int32) : St := (if (M_fails σ (M_air_j7 σ p1)) = (0 : Int32) then (sC (M_fails_s σ (M_air_j7 σ p1)) 1 p1) else (M_fails_s σ (M_air_j7 σ p1)))
theorem cw_X11_air : Cond.instanceMethod yX11_air ∈ GW ∧ Cond.selects RX11 yX11_air yX11_air ∈ GW ∧ Cond.initialized RX11 ∈ GW ∧ Cond.code yX11_air cX11_air 3 (some .int) ∈ GW ∧ yX11_air.cls = RX11 ∧ (yX11_air.cls ≠ "java/lang/invoke/MethodHandle" ∧ yX11_air.cls ≠ "java/lang/invoke/VarHandle") ∧ (parseMethodDescriptor yX11_air.desc).map (fun d => d.parameters.length) = some 1 := ⟨gw_5_171, gw_5_172, gw_1_14, gw_5_173, rfl, ⟨by decide, by decide⟩, by decide +kernel⟩
set_option maxRecDepth 100000 in
set_option maxHeartbeats 4000000 in
theorem c_M_air {l : Launch} {D : va_G} {ca : Nat → Nat} {h : fH} {m : Nat} {ρ : Nat → Nat} {σ : St} (hR : RM ca h m ρ σ) (hI : Inv σ) (p1 : Int32) : FM l D ca yX11_air (.code yX11_air cX11_air 3 (some .int)) { frames := 2, cells := 0, slots := 0, locals := 42 } [.ref m, .int p1] h (pIM (M_air σ p1) (fun h2 => RM ca h2 m ρ (M_air_s σ p1))) noX := by
  refine FM.of [some (.ref m), some (.int p1), none] (by decide) (Nat.le_of_ble_eq_true rfl) rfl ?_
  rintro K X rfl rfl rfl
  have q_v : (M_air σ p1) = (if (M_fails σ (M_air_j7 σ p1)) = (0 : Int32) then ((M_fails_s σ (M_air_j7 σ p1)) 1 0) else (0 : Int32)) := rfl
  have q_s : (M_air_s σ p1) = (if (M_fails σ (M_air_j7 σ p1)) = (0 : Int32) then (sC (M_fails_s σ (M_air_j7 σ p1)) 1 p1) else (M_fails_s σ (M_air_j7 σ p1))) := rfl
  refine J_aload_0 X dX11_air_0 ?_
  refine J_iload_1 X dX11_air_1 ?_
  refine J_iconst (v := 0) X dX11_air_2 rfl ?_
  refine J_iconst (v := 2) X dX11_air_3 rfl ?_
  refine J_callS X (c_M_isIn p1 (0 : Int32) (2 : Int32)) (And.intro gw_5_148 cw_X11_isIn) rfl rfl (Nat.le_of_ble_eq_true rfl) dX11_air_4 rfl (J.pi ?_) JE.no
  have K7_15 : ∀ (v7_0 : Int32), v7_0 = (M_air_j7 σ p1) → J K h [some (.ref m), some (.int p1), none] [.int v7_0, .ref m] 15 0 0 := by
    intro v7_0 ev7_0
    try rw [ev7_0]
    clear ev7_0
    refine J_callV X (c_M_fails hR (M_air_j7 σ p1)) (And.intro gw_5_151 cw_X11_fails) hR.1 rfl rfl rfl (Nat.le_of_ble_eq_true rfl) dX11_air_15 rfl (J.pim (fun h1 hR1 => ?_)) JE.no
    have hI1 : Inv (M_fails_s σ (M_air_j7 σ p1)) := (Inv_fails hI)
    refine J_if_eq (tgt := 23) X dX11_air_18 (by decide) (fun c18 => ?_) (fun c18 => ?_)
    · skip
      rw [if_pos c18] at q_v
      rw [if_pos c18] at q_s
      refine J_aload_0 X dX11_air_23 ?_
      refine JM_get X hR1 1 (by decide) rfl rfl gw_5_11 dX11_air_24 ?_
      refine J_istore_2 X dX11_air_27 rfl (by decide) ?_
      refine J_aload_0 X dX11_air_28 ?_
      refine J_iload_1 X dX11_air_29 ?_
      refine JM_put X hR1 1 (by decide) rfl rfl rfl rfl rfl rfl gw_5_11 dX11_air_30 (fun h2 hR2 => ?_)
      refine J_iload_2 X dX11_air_33 ?_
      exact J_iret X rfl rfl ⟨by rw [q_v], by rw [q_s]; exact hR2⟩ dX11_air_34
    · skip
      rw [if_neg c18] at q_v
      rw [if_neg c18] at q_s
      refine J_iconst (v := 0) X dX11_air_21 rfl ?_
      exact J_iret X rfl rfl ⟨by rw [q_v], by rw [q_s]; exact hR1⟩ dX11_air_22
  have j7_0 : M_air_j7 σ p1 = (if (M_isIn p1 (0 : Int32) (2 : Int32)) = (0 : Int32) then (1 : Int32) else (0 : Int32)) := rfl
  refine J_if_eq (tgt := 14) X dX11_air_7 (by decide) (fun c7 => ?_) (fun c7 => ?_)
  · skip
    rw [if_pos c7] at j7_0
    refine J_iconst (v := 1) X dX11_air_14 rfl ?_
    exact K7_15 _ j7_0.symm
  · skip
    rw [if_neg c7] at j7_0
    refine J_iconst (v := 0) X dX11_air_10 rfl ?_
    refine J_goto (tgt := 15) X dX11_air_11 (by decide) ?_
    exact K7_15 _ j7_0.symm
def M_exempt_j6 (σ : St) (p1 : Int32) (p2 : Int32) : Int32 := (if (M_isLamp σ p1) = (0 : Int32) then (1 : Int32) else (0 : Int32))
theorem M_exempt_j6_b (σ : St) (p1 : Int32) (p2 : Int32) : M_exempt_j6 σ p1 p2 = 0 ∨ M_exempt_j6 σ p1 p2 = 1 := by
  unfold M_exempt_j6
  (repeat' split) <;> first | exact Or.inl rfl | exact Or.inr rfl
def M_exempt (σ : St) (p1 : Int32) (p2 : Int32) : Int32 := (if (M_fails σ (M_exempt_j6 σ p1 p2)) = (0 : Int32) then ((M_fails_s σ (M_exempt_j6 σ p1 p2)) 22 (ix p1)) else (0 : Int32))
def M_exempt_s (σ : St) (p1 : Int32) (p2 : Int32) : St := (if (M_fails σ (M_exempt_j6 σ p1 p2)) = (0 : Int32) then (sS (M_fails_s σ (M_exempt_j6 σ p1 p2)) 22 (ix p1) p2) else (M_fails_s σ (M_exempt_j6 σ p1 p2)))
theorem ok_exempt0 {σ : St} {p1 p2 : Int32} (hI : Inv σ) (c : M_fails σ (M_exempt_j6 σ p1 p2) = 0) : vp_in p1 40 := by
  refine isLamp_in hI (fun q => ?_)
  exact fz c (by unfold M_exempt_j6; simp [q])
theorem cw_X11_exempt : Cond.instanceMethod yX11_exempt ∈ GW ∧ Cond.selects RX11 yX11_exempt yX11_exempt ∈ GW ∧ Cond.initialized RX11 ∈ GW ∧ Cond.code yX11_exempt cX11_exempt 4 (some .boolean) ∈ GW ∧ yX11_exempt.cls = RX11 ∧ (yX11_exempt.cls ≠ "java/lang/invoke/MethodHandle" ∧ yX11_exempt.cls ≠ "java/lang/invoke/VarHandle") ∧ (parseMethodDescriptor yX11_exempt.desc).map (fun d => d.parameters.length) = some 2 := ⟨gw_5_212, gw_5_213, gw_1_14, gw_5_214, rfl, ⟨by decide, by decide⟩, by decide +kernel⟩
set_option maxRecDepth 100000 in
set_option maxHeartbeats 4000000 in
theorem c_M_exempt {l : Launch} {D : va_G} {ca : Nat → Nat} {h : fH} {m : Nat} {ρ : Nat → Nat} {σ : St} (hR : RM ca h m ρ σ) (hI : Inv σ) (p1 : Int32) (p2 : Int32) (hp2 : p2 = 0 ∨ p2 = 1) : FM l D ca yX11_exempt (.code yX11_exempt cX11_exempt 4 (some .boolean)) { frames := 3, cells := 0, slots := 0, locals := 63 } [.ref m, .int p1, .int p2] h (pIM (M_exempt σ p1 p2) (fun h2 => RM ca h2 m ρ (M_exempt_s σ p1 p2))) noX := by
  refine FM.of [some (.ref m), some (.int p1), some (.int p2), none] (by decide) (Nat.le_of_ble_eq_true rfl) rfl ?_
  rintro K X rfl rfl rfl
  have q_v : (M_exempt σ p1 p2) = (if (M_fails σ (M_exempt_j6 σ p1 p2)) = (0 : Int32) then ((M_fails_s σ (M_exempt_j6 σ p1 p2)) 22 (ix p1)) else (0 : Int32)) := rfl
  have q_s : (M_exempt_s σ p1 p2) = (if (M_fails σ (M_exempt_j6 σ p1 p2)) = (0 : Int32) then (sS (M_fails_s σ (M_exempt_j6 σ p1 p2)) 22 (ix p1) p2) else (M_fails_s σ (M_exempt_j6 σ p1 p2))) := rfl
  refine J_aload_0 X dX11_exempt_0 ?_
  refine J_aload_0 X dX11_exempt_1 ?_
  refine J_iload_1 X dX11_exempt_2 ?_
  refine J_callV X (c_M_isLamp hR p1) (And.intro gw_5_203 cw_X11_isLamp) hR.1 rfl rfl rfl (Nat.le_of_ble_eq_true rfl) dX11_exempt_3 rfl (J.pi ?_) JE.no
  have K6_14 : ∀ (v6_0 : Int32), v6_0 = (M_exempt_j6 σ p1 p2) → J K h [some (.ref m), some (.int p1), some (.int p2), none] [.int v6_0, .ref m] 14 0 0 := by
    intro v6_0 ev6_0
    try rw [ev6_0]
    clear ev6_0
    refine J_callV X (c_M_fails hR (M_exempt_j6 σ p1 p2)) (And.intro gw_5_151 cw_X11_fails) hR.1 rfl rfl rfl (Nat.le_of_ble_eq_true rfl) dX11_exempt_14 rfl (J.pim (fun h1 hR1 => ?_)) JE.no
    have hI1 : Inv (M_fails_s σ (M_exempt_j6 σ p1 p2)) := (Inv_fails hI)
    refine J_if_eq (tgt := 22) X dX11_exempt_17 (by decide) (fun c17 => ?_) (fun c17 => ?_)
    · skip
      rw [if_pos c17] at q_v
      rw [if_pos c17] at q_s
      have hp := ok_exempt0 hI c17
      refine J_aload_0 X dX11_exempt_22 ?_
      refine JM_get X hR1 22 (by decide) rfl rfl gw_5_32 dX11_exempt_23 ?_
      refine J_iload_1 X dX11_exempt_26 ?_
      refine JM_zld X hR1 22 rfl rfl hp dX11_exempt_27 ?_
      refine J_istore_3 X dX11_exempt_28 rfl (by decide) ?_
      refine J_aload_0 X dX11_exempt_29 ?_
      refine JM_get X hR1 22 (by decide) rfl rfl gw_5_32 dX11_exempt_30 ?_
      refine J_iload_1 X dX11_exempt_33 ?_
      refine J_iload_2 X dX11_exempt_34 ?_
      refine JM_zst X hR1 22 rfl rfl hp2 hp dX11_exempt_35 (fun h2 hR2 => ?_)
      refine J_iload_3 X dX11_exempt_36 ?_
      exact J_zret X rfl (Inv_fails hI 22 (ix p1)) rfl ⟨by rw [q_v], by rw [q_s]; exact hR2⟩ dX11_exempt_37
    · skip
      rw [if_neg c17] at q_v
      rw [if_neg c17] at q_s
      refine J_iconst (v := 0) X dX11_exempt_20 rfl ?_
      exact J_zret X rfl (by first | exact Or.inl rfl | exact Or.inr rfl) rfl ⟨by rw [q_v], by rw [q_s]; exact hR1⟩ dX11_exempt_21
  have j6_0 : M_exempt_j6 σ p1 p2 = (if (M_isLamp σ p1) = (0 : Int32) then (1 : Int32) else (0 : Int32)) := rfl
  refine J_if_eq (tgt := 13) X dX11_exempt_6 (by decide) (fun c6 => ?_) (fun c6 => ?_)
  · skip
    rw [if_pos c6] at j6_0
    refine J_iconst (v := 1) X dX11_exempt_13 rfl ?_
    exact K6_14 _ j6_0.symm
  · skip
    rw [if_neg c6] at j6_0
    refine J_iconst (v := 0) X dX11_exempt_9 rfl ?_
    refine J_goto (tgt := 14) X dX11_exempt_10 (by decide) ?_
    exact K6_14 _ j6_0.symm
def M_outage_j6 (σ : St) (p1 : Int32) (p2 : Int32) : Int32 := (if (M_isVillage σ p1) = (0 : Int32) then (1 : Int32) else (if (M_isIn p2 (0 : Int32) (500 : Int32)) = (0 : Int32) then (2 : Int32) else (0 : Int32)))
def M_outage_j47 (σ : St) (p1 : Int32) (p2 : Int32) : Int32 := (if ((M_fails_s σ (M_outage_j6 σ p1 p2)) 12 (ix p1)) ≤ ((M_fails_s σ (M_outage_j6 σ p1 p2)) 0 0) then (0 : Int32) else (((M_fails_s σ (M_outage_j6 σ p1 p2)) 12 (ix p1)) - ((M_fails_s σ (M_outage_j6 σ p1 p2)) 0 0)))
def M_outage (σ : St) (p1 : Int32) (p2 : Int32) : Int32 := (if (M_fails σ (M_outage_j6 σ p1 p2)) = (0 : Int32) then (M_outage_j47 σ p1 p2) else (0 : Int32))
def M_outage_s (σ : St) (p1 : Int32) (p2 : Int32) : St := (if (M_fails σ (M_outage_j6 σ p1 p2)) = (0 : Int32) then (sS (M_fails_s σ (M_outage_j6 σ p1 p2)) 12 (ix p1) (((M_fails_s σ (M_outage_j6 σ p1 p2)) 0 0) + p2)) else (M_fails_s σ (M_outage_j6 σ p1 p2)))
theorem ok_outage0 {σ : St} {p1 p2 : Int32} (hI : Inv σ) (c : M_fails σ (M_outage_j6 σ p1 p2) = 0) : vp_in p1 5 := by
  refine isVillage_in hI (fun q => ?_)
  exact fz c (by unfold M_outage_j6; simp [q])
theorem cw_X11_outage : Cond.instanceMethod yX11_outage ∈ GW ∧ Cond.selects RX11 yX11_outage yX11_outage ∈ GW ∧ Cond.initialized RX11 ∈ GW ∧ Cond.code yX11_outage cX11_outage 4 (some .int) ∈ GW ∧ yX11_outage.cls = RX11 ∧ (yX11_outage.cls ≠ "java/lang/invoke/MethodHandle" ∧ yX11_outage.cls ≠ "java/lang/invoke/VarHandle") ∧ (parseMethodDescriptor yX11_outage.desc).map (fun d => d.parameters.length) = some 2 := ⟨gw_5_216, gw_5_217, gw_1_14, gw_5_218, rfl, ⟨by decide, by decide⟩, by decide +kernel⟩
set_option maxRecDepth 100000 in
set_option maxHeartbeats 4000000 in
theorem c_M_outage {l : Launch} {D : va_G} {ca : Nat → Nat} {h : fH} {m : Nat} {ρ : Nat → Nat} {σ : St} (hR : RM ca h m ρ σ) (hI : Inv σ) (p1 : Int32) (p2 : Int32) : FM l D ca yX11_outage (.code yX11_outage cX11_outage 4 (some .int)) { frames := 3, cells := 0, slots := 0, locals := 63 } [.ref m, .int p1, .int p2] h (pIM (M_outage σ p1 p2) (fun h2 => RM ca h2 m ρ (M_outage_s σ p1 p2))) noX := by
  refine FM.of [some (.ref m), some (.int p1), some (.int p2), none] (by decide) (Nat.le_of_ble_eq_true rfl) rfl ?_
  rintro K X rfl rfl rfl
  have q_v : (M_outage σ p1 p2) = (if (M_fails σ (M_outage_j6 σ p1 p2)) = (0 : Int32) then (M_outage_j47 σ p1 p2) else (0 : Int32)) := rfl
  have q_s : (M_outage_s σ p1 p2) = (if (M_fails σ (M_outage_j6 σ p1 p2)) = (0 : Int32) then (sS (M_fails_s σ (M_outage_j6 σ p1 p2)) 12 (ix p1) (((M_fails_s σ (M_outage_j6 σ p1 p2)) 0 0) + p2)) else (M_fails_s σ (M_outage_j6 σ p1 p2))) := rfl
  refine J_aload_0 X dX11_outage_0 ?_
  refine J_aload_0 X dX11_outage_1 ?_
  refine J_iload_1 X dX11_outage_2 ?_
  refine J_callV X (c_M_isVillage hR p1) (And.intro gw_5_190 cw_X11_isVillage) hR.1 rfl rfl rfl (Nat.le_of_ble_eq_true rfl) dX11_outage_3 rfl (J.pi ?_) JE.no
  have K6_29 : ∀ (v6_0 : Int32), v6_0 = (M_outage_j6 σ p1 p2) → J K h [some (.ref m), some (.int p1), some (.int p2), none] [.int v6_0, .ref m] 29 0 0 := by
    intro v6_0 ev6_0
    try rw [ev6_0]
    clear ev6_0
    refine J_callV X (c_M_fails hR (M_outage_j6 σ p1 p2)) (And.intro gw_5_151 cw_X11_fails) hR.1 rfl rfl rfl (Nat.le_of_ble_eq_true rfl) dX11_outage_29 rfl (J.pim (fun h1 hR1 => ?_)) JE.no
    have hI1 : Inv (M_fails_s σ (M_outage_j6 σ p1 p2)) := (Inv_fails hI)
    refine J_if_eq (tgt := 37) X dX11_outage_32 (by decide) (fun c32 => ?_) (fun c32 => ?_)
    · skip
      rw [if_pos c32] at q_v
      rw [if_pos c32] at q_s
      have hp := ok_outage0 hI c32
      refine J_aload_0 X dX11_outage_37 ?_
      refine JM_get X hR1 12 (by decide) rfl rfl gw_5_22 dX11_outage_38 ?_
      refine J_iload_1 X dX11_outage_41 ?_
      refine JM_ald X hR1 12 rfl rfl hp dX11_outage_42 ?_
      refine J_aload_0 X dX11_outage_43 ?_
      refine JM_get X hR1 0 (by decide) rfl rfl gw_5_10 dX11_outage_44 ?_
      have K47_65 : ∀ (v47_0 : Int32), v47_0 = (M_outage_j47 σ p1 p2) → J K h1 [some (.ref m), some (.int p1), some (.int p2), none] [.int v47_0] 65 0 0 := by
        intro v47_0 ev47_0
        try rw [ev47_0]
        clear ev47_0
        refine J_istore_3 X dX11_outage_65 rfl (by decide) ?_
        refine J_aload_0 X dX11_outage_66 ?_
        refine JM_get X hR1 12 (by decide) rfl rfl gw_5_22 dX11_outage_67 ?_
        refine J_iload_1 X dX11_outage_70 ?_
        refine J_aload_0 X dX11_outage_71 ?_
        refine JM_get X hR1 0 (by decide) rfl rfl gw_5_10 dX11_outage_72 ?_
        refine J_iload_2 X dX11_outage_75 ?_
        refine J_iadd X dX11_outage_76 ?_
        refine JM_ast X hR1 12 rfl rfl hp dX11_outage_77 (fun h2 hR2 => ?_)
        refine J_iload_3 X dX11_outage_78 ?_
        exact J_iret X rfl rfl ⟨by rw [q_v], by rw [q_s]; exact hR2⟩ dX11_outage_79
      have j47_0 : M_outage_j47 σ p1 p2 = (if ((M_fails_s σ (M_outage_j6 σ p1 p2)) 12 (ix p1)) ≤ ((M_fails_s σ (M_outage_j6 σ p1 p2)) 0 0) then (0 : Int32) else (((M_fails_s σ (M_outage_j6 σ p1 p2)) 12 (ix p1)) - ((M_fails_s σ (M_outage_j6 σ p1 p2)) 0 0))) := rfl
      refine J_icmp_le (tgt := 64) X dX11_outage_47 (by decide) (fun c47 => ?_) (fun c47 => ?_)
      · skip
        rw [if_pos c47] at j47_0
        refine J_iconst (v := 0) X dX11_outage_64 rfl ?_
        exact K47_65 _ j47_0.symm
      · skip
        rw [if_neg c47] at j47_0
        refine J_aload_0 X dX11_outage_50 ?_
        refine JM_get X hR1 12 (by decide) rfl rfl gw_5_22 dX11_outage_51 ?_
        refine J_iload_1 X dX11_outage_54 ?_
        refine JM_ald X hR1 12 rfl rfl hp dX11_outage_55 ?_
        refine J_aload_0 X dX11_outage_56 ?_
        refine JM_get X hR1 0 (by decide) rfl rfl gw_5_10 dX11_outage_57 ?_
        refine J_isub X dX11_outage_60 ?_
        refine J_goto (tgt := 65) X dX11_outage_61 (by decide) ?_
        exact K47_65 _ j47_0.symm
    · skip
      rw [if_neg c32] at q_v
      rw [if_neg c32] at q_s
      refine J_iconst (v := 0) X dX11_outage_35 rfl ?_
      exact J_iret X rfl rfl ⟨by rw [q_v], by rw [q_s]; exact hR1⟩ dX11_outage_36
  have j6_0 : M_outage_j6 σ p1 p2 = (if (M_isVillage σ p1) = (0 : Int32) then (1 : Int32) else (if (M_isIn p2 (0 : Int32) (500 : Int32)) = (0 : Int32) then (2 : Int32) else (0 : Int32))) := rfl
  refine J_if_ne (tgt := 13) X dX11_outage_6 (by decide) (fun c6 => ?_) (fun c6 => ?_)
  · skip
    rw [if_neg c6] at j6_0
    refine J_iload_2 X dX11_outage_13 ?_
    refine J_iconst (v := 0) X dX11_outage_14 rfl ?_
    refine J_sipush (v := (500 : Int32)) X dX11_outage_15 (by decide) ?_
    refine J_callS X (c_M_isIn p2 (0 : Int32) (500 : Int32)) (And.intro gw_5_148 cw_X11_isIn) rfl rfl (Nat.le_of_ble_eq_true rfl) dX11_outage_18 rfl (J.pi ?_) JE.no
    refine J_if_eq (tgt := 28) X dX11_outage_21 (by decide) (fun c21 => ?_) (fun c21 => ?_)
    · skip
      rw [if_pos c21] at j6_0
      refine J_iconst (v := 2) X dX11_outage_28 rfl ?_
      exact K6_29 _ j6_0.symm
    · skip
      rw [if_neg c21] at j6_0
      refine J_iconst (v := 0) X dX11_outage_24 rfl ?_
      refine J_goto (tgt := 29) X dX11_outage_25 (by decide) ?_
      exact K6_29 _ j6_0.symm
  · skip
    rw [if_pos c6] at j6_0
    refine J_iconst (v := 1) X dX11_outage_9 rfl ?_
    refine J_goto (tgt := 29) X dX11_outage_10 (by decide) ?_
    exact K6_29 _ j6_0.symm
def M_tell_j6 (σ : St) (p1 : Int32) (p2 : Int32) : Int32 := (if (M_isMeter σ p1) = (0 : Int32) then (1 : Int32) else (if (M_isIn p2 (-5000 : Int32) (5000 : Int32)) = (0 : Int32) then (2 : Int32) else (0 : Int32)))
def M_tell (σ : St) (p1 : Int32) (p2 : Int32) : Int32 := (if (M_fails σ (M_tell_j6 σ p1 p2)) = (0 : Int32) then ((M_fails_s σ (M_tell_j6 σ p1 p2)) 30 (ix p1)) else (0 : Int32))
def M_tell_s (σ : St) (p1 : Int32) (p2 : Int32) : St := (if (M_fails σ (M_tell_j6 σ p1 p2)) = (0 : Int32) then (sS (M_fails_s σ (M_tell_j6 σ p1 p2)) 30 (ix p1) p2) else (M_fails_s σ (M_tell_j6 σ p1 p2)))
theorem ok_tell0 {σ : St} {p1 p2 : Int32} (hI : Inv σ) (c : M_fails σ (M_tell_j6 σ p1 p2) = 0) : vp_in p1 8 := by
  refine isMeter_in hI (fun q => ?_)
  exact fz c (by unfold M_tell_j6; simp [q])
theorem cw_X11_tell : Cond.instanceMethod yX11_tell ∈ GW ∧ Cond.selects RX11 yX11_tell yX11_tell ∈ GW ∧ Cond.initialized RX11 ∈ GW ∧ Cond.code yX11_tell cX11_tell 4 (some .int) ∈ GW ∧ yX11_tell.cls = RX11 ∧ (yX11_tell.cls ≠ "java/lang/invoke/MethodHandle" ∧ yX11_tell.cls ≠ "java/lang/invoke/VarHandle") ∧ (parseMethodDescriptor yX11_tell.desc).map (fun d => d.parameters.length) = some 2 := ⟨gw_6_30, gw_6_31, gw_1_14, gw_6_32, rfl, ⟨by decide, by decide⟩, by decide +kernel⟩
set_option maxRecDepth 100000 in
set_option maxHeartbeats 4000000 in
theorem c_M_tell {l : Launch} {D : va_G} {ca : Nat → Nat} {h : fH} {m : Nat} {ρ : Nat → Nat} {σ : St} (hR : RM ca h m ρ σ) (hI : Inv σ) (p1 : Int32) (p2 : Int32) : FM l D ca yX11_tell (.code yX11_tell cX11_tell 4 (some .int)) { frames := 3, cells := 0, slots := 0, locals := 63 } [.ref m, .int p1, .int p2] h (pIM (M_tell σ p1 p2) (fun h2 => RM ca h2 m ρ (M_tell_s σ p1 p2))) noX := by
  refine FM.of [some (.ref m), some (.int p1), some (.int p2), none] (by decide) (Nat.le_of_ble_eq_true rfl) rfl ?_
  rintro K X rfl rfl rfl
  have q_v : (M_tell σ p1 p2) = (if (M_fails σ (M_tell_j6 σ p1 p2)) = (0 : Int32) then ((M_fails_s σ (M_tell_j6 σ p1 p2)) 30 (ix p1)) else (0 : Int32)) := rfl
  have q_s : (M_tell_s σ p1 p2) = (if (M_fails σ (M_tell_j6 σ p1 p2)) = (0 : Int32) then (sS (M_fails_s σ (M_tell_j6 σ p1 p2)) 30 (ix p1) p2) else (M_fails_s σ (M_tell_j6 σ p1 p2))) := rfl
  refine J_aload_0 X dX11_tell_0 ?_
  refine J_aload_0 X dX11_tell_1 ?_
  refine J_iload_1 X dX11_tell_2 ?_
  refine J_callV X (c_M_isMeter hR p1) (And.intro gw_5_239 cw_X11_isMeter) hR.1 rfl rfl rfl (Nat.le_of_ble_eq_true rfl) dX11_tell_3 rfl (J.pi ?_) JE.no
  have K6_31 : ∀ (v6_0 : Int32), v6_0 = (M_tell_j6 σ p1 p2) → J K h [some (.ref m), some (.int p1), some (.int p2), none] [.int v6_0, .ref m] 31 0 0 := by
    intro v6_0 ev6_0
    try rw [ev6_0]
    clear ev6_0
    refine J_callV X (c_M_fails hR (M_tell_j6 σ p1 p2)) (And.intro gw_5_151 cw_X11_fails) hR.1 rfl rfl rfl (Nat.le_of_ble_eq_true rfl) dX11_tell_31 rfl (J.pim (fun h1 hR1 => ?_)) JE.no
    have hI1 : Inv (M_fails_s σ (M_tell_j6 σ p1 p2)) := (Inv_fails hI)
    refine J_if_eq (tgt := 39) X dX11_tell_34 (by decide) (fun c34 => ?_) (fun c34 => ?_)
    · skip
      rw [if_pos c34] at q_v
      rw [if_pos c34] at q_s
      have hp := ok_tell0 hI c34
      refine J_aload_0 X dX11_tell_39 ?_
      refine JM_get X hR1 30 (by decide) rfl rfl gw_5_40 dX11_tell_40 ?_
      refine J_iload_1 X dX11_tell_43 ?_
      refine JM_ald X hR1 30 rfl rfl hp dX11_tell_44 ?_
      refine J_istore_3 X dX11_tell_45 rfl (by decide) ?_
      refine J_aload_0 X dX11_tell_46 ?_
      refine JM_get X hR1 30 (by decide) rfl rfl gw_5_40 dX11_tell_47 ?_
      refine J_iload_1 X dX11_tell_50 ?_
      refine J_iload_2 X dX11_tell_51 ?_
      refine JM_ast X hR1 30 rfl rfl hp dX11_tell_52 (fun h2 hR2 => ?_)
      refine J_iload_3 X dX11_tell_53 ?_
      exact J_iret X rfl rfl ⟨by rw [q_v], by rw [q_s]; exact hR2⟩ dX11_tell_54
    · skip
      rw [if_neg c34] at q_v
      rw [if_neg c34] at q_s
      refine J_iconst (v := 0) X dX11_tell_37 rfl ?_
      exact J_iret X rfl rfl ⟨by rw [q_v], by rw [q_s]; exact hR1⟩ dX11_tell_38
  have j6_0 : M_tell_j6 σ p1 p2 = (if (M_isMeter σ p1) = (0 : Int32) then (1 : Int32) else (if (M_isIn p2 (-5000 : Int32) (5000 : Int32)) = (0 : Int32) then (2 : Int32) else (0 : Int32))) := rfl
  refine J_if_ne (tgt := 13) X dX11_tell_6 (by decide) (fun c6 => ?_) (fun c6 => ?_)
  · skip
    rw [if_neg c6] at j6_0
    refine J_iload_2 X dX11_tell_13 ?_
    refine J_sipush (v := (-5000 : Int32)) X dX11_tell_14 (by decide) ?_
    refine J_sipush (v := (5000 : Int32)) X dX11_tell_17 (by decide) ?_
    refine J_callS X (c_M_isIn p2 (-5000 : Int32) (5000 : Int32)) (And.intro gw_5_148 cw_X11_isIn) rfl rfl (Nat.le_of_ble_eq_true rfl) dX11_tell_20 rfl (J.pi ?_) JE.no
    refine J_if_eq (tgt := 30) X dX11_tell_23 (by decide) (fun c23 => ?_) (fun c23 => ?_)
    · skip
      rw [if_pos c23] at j6_0
      refine J_iconst (v := 2) X dX11_tell_30 rfl ?_
      exact K6_31 _ j6_0.symm
    · skip
      rw [if_neg c23] at j6_0
      refine J_iconst (v := 0) X dX11_tell_26 rfl ?_
      refine J_goto (tgt := 31) X dX11_tell_27 (by decide) ?_
      exact K6_31 _ j6_0.symm
  · skip
    rw [if_pos c6] at j6_0
    refine J_iconst (v := 1) X dX11_tell_9 rfl ?_
    refine J_goto (tgt := 31) X dX11_tell_10 (by decide) ?_
    exact K6_31 _ j6_0.symm
def M_time (σ : St) : Int32 := ((sC σ 41 (0 : Int32)) 0 0)
def M_time_s (σ : St) : St := (sC σ 41 (0 : Int32))
theorem cw_X11_time : Cond.instanceMethod yX11_time ∈ GW ∧ Cond.selects RX11 yX11_time yX11_time ∈ GW ∧ Cond.initialized RX11 ∈ GW ∧ Cond.code yX11_time cX11_time 1 (some .int) ∈ GW ∧ yX11_time.cls = RX11 ∧ (yX11_time.cls ≠ "java/lang/invoke/MethodHandle" ∧ yX11_time.cls ≠ "java/lang/invoke/VarHandle") ∧ (parseMethodDescriptor yX11_time.desc).map (fun d => d.parameters.length) = some 0 := ⟨gw_6_47, gw_6_48, gw_1_14, gw_6_49, rfl, ⟨by decide, by decide⟩, by decide +kernel⟩
set_option maxRecDepth 100000 in
set_option maxHeartbeats 4000000 in
theorem c_M_time {l : Launch} {D : va_G} {ca : Nat → Nat} {h : fH} {m : Nat} {ρ : Nat → Nat} {σ : St} (hR : RM ca h m ρ σ) : FM l D ca yX11_time (.code yX11_time cX11_time 1 (some .int)) { frames := 1, cells := 0, slots := 0, locals := 20 } [.ref m] h (pIM (M_time σ) (fun h2 => RM ca h2 m ρ (M_time_s σ))) noX := by
  refine FM.of [some (.ref m)] (by decide) (Nat.le_of_ble_eq_true rfl) rfl ?_
  rintro K X rfl rfl rfl
  have q_v : (M_time σ) = ((sC σ 41 (0 : Int32)) 0 0) := rfl
  have q_s : (M_time_s σ) = (sC σ 41 (0 : Int32)) := rfl
  refine J_aload_0 X dX11_time_0 ?_
  refine J_iconst (v := 0) X dX11_time_1 rfl ?_
  refine JM_put X hR 41 (by decide) rfl rfl rfl rfl rfl rfl gw_5_51 dX11_time_2 (fun h1 hR1 => ?_)
  refine J_aload_0 X dX11_time_5 ?_
  refine JM_get X hR1 0 (by decide) rfl rfl gw_5_10 dX11_time_6 ?_
  exact J_iret X rfl rfl ⟨by rw [q_v], by rw [q_s]; exact hR1⟩ dX11_time_9
def M_isHeld_j9 (σ : St) : Int32 := (if ((sC σ 41 (0 : Int32)) 34 0) = (0 : Int32) then (1 : Int32) else (0 : Int32))
theorem M_isHeld_j9_b (σ : St) : M_isHeld_j9 σ = 0 ∨ M_isHeld_j9 σ = 1 := by
  unfold M_isHeld_j9
  (repeat' split) <;> first | exact Or.inl rfl | exact Or.inr rfl
def M_isHeld (σ : St) : Int32 := (M_isHeld_j9 σ)
def M_isHeld_s (σ : St) : St := (sC σ 41 (0 : Int32))
theorem M_isHeld_b (σ : St) : (M_isHeld σ) = 0 ∨ (M_isHeld σ) = 1 := by
  unfold M_isHeld
  (repeat' split) <;> first | exact Or.inl rfl | exact Or.inr rfl | exact M_isHeld_j9_b ..
theorem cw_X11_isHeld : Cond.instanceMethod yX11_isHeld ∈ GW ∧ Cond.selects RX11 yX11_isHeld yX11_isHeld ∈ GW ∧ Cond.initialized RX11 ∈ GW ∧ Cond.code yX11_isHeld cX11_isHeld 1 (some .boolean) ∈ GW ∧ yX11_isHeld.cls = RX11 ∧ (yX11_isHeld.cls ≠ "java/lang/invoke/MethodHandle" ∧ yX11_isHeld.cls ≠ "java/lang/invoke/VarHandle") ∧ (parseMethodDescriptor yX11_isHeld.desc).map (fun d => d.parameters.length) = some 0 := ⟨gw_6_96, gw_6_97, gw_1_14, gw_6_98, rfl, ⟨by decide, by decide⟩, by decide +kernel⟩
set_option maxRecDepth 100000 in
set_option maxHeartbeats 4000000 in
theorem c_M_isHeld {l : Launch} {D : va_G} {ca : Nat → Nat} {h : fH} {m : Nat} {ρ : Nat → Nat} {σ : St} (hR : RM ca h m ρ σ) : FM l D ca yX11_isHeld (.code yX11_isHeld cX11_isHeld 1 (some .boolean)) { frames := 1, cells := 0, slots := 0, locals := 20 } [.ref m] h (pIM (M_isHeld σ) (fun h2 => RM ca h2 m ρ (M_isHeld_s σ))) noX := by
  refine FM.of [some (.ref m)] (by decide) (Nat.le_of_ble_eq_true rfl) rfl ?_
  rintro K X rfl rfl rfl
  have q_v : (M_isHeld σ) = (M_isHeld_j9 σ) := rfl
  have q_s : (M_isHeld_s σ) = (sC σ 41 (0 : Int32)) := rfl
  refine J_aload_0 X dX11_isHeld_0 ?_
  refine J_iconst (v := 0) X dX11_isHeld_1 rfl ?_
  refine JM_put X hR 41 (by decide) rfl rfl rfl rfl rfl rfl gw_5_51 dX11_isHeld_2 (fun h1 hR1 => ?_)
  refine J_aload_0 X dX11_isHeld_5 ?_
  refine JM_get X hR1 34 (by decide) rfl rfl gw_5_44 dX11_isHeld_6 ?_
  have K9_17 : ∀ (v9_0 : Int32), v9_0 = (M_isHeld_j9 σ) → J K h1 [some (.ref m)] [.int v9_0] 17 0 0 := by
    intro v9_0 ev9_0
    try rw [ev9_0]
    clear ev9_0
    exact J_zret X rfl (M_isHeld_j9_b ..) rfl ⟨by rw [q_v], by rw [q_s]; exact hR1⟩ dX11_isHeld_17
  have j9_0 : M_isHeld_j9 σ = (if ((sC σ 41 (0 : Int32)) 34 0) = (0 : Int32) then (1 : Int32) else (0 : Int32)) := rfl
  refine J_if_ne (tgt := 16) X dX11_isHeld_9 (by decide) (fun c9 => ?_) (fun c9 => ?_)
  · skip
    rw [if_neg c9] at j9_0
    refine J_iconst (v := 0) X dX11_isHeld_16 rfl ?_
    exact K9_17 _ j9_0.symm
  · skip
    rw [if_pos c9] at j9_0
    refine J_iconst (v := 1) X dX11_isHeld_12 rfl ?_
    refine J_goto (tgt := 17) X dX11_isHeld_13 (by decide) ?_
    exact K9_17 _ j9_0.symm
def M_thrown (σ : St) : Int32 := (σ 41 0)
theorem cw_X11_thrown : Cond.instanceMethod yX11_thrown ∈ GW ∧ Cond.selects RX11 yX11_thrown yX11_thrown ∈ GW ∧ Cond.initialized RX11 ∈ GW ∧ Cond.code yX11_thrown cX11_thrown 1 (some .int) ∈ GW ∧ yX11_thrown.cls = RX11 ∧ (yX11_thrown.cls ≠ "java/lang/invoke/MethodHandle" ∧ yX11_thrown.cls ≠ "java/lang/invoke/VarHandle") ∧ (parseMethodDescriptor yX11_thrown.desc).map (fun d => d.parameters.length) = some 0 := ⟨gw_5_138, gw_5_139, gw_1_14, gw_5_140, rfl, ⟨by decide, by decide⟩, by decide +kernel⟩
set_option maxRecDepth 100000 in
set_option maxHeartbeats 4000000 in
theorem c_M_thrown {l : Launch} {D : va_G} {ca : Nat → Nat} {h : fH} {m : Nat} {ρ : Nat → Nat} {σ : St} (hR : RM ca h m ρ σ) : FM l D ca yX11_thrown (.code yX11_thrown cX11_thrown 1 (some .int)) { frames := 1, cells := 0, slots := 0, locals := 20 } [.ref m] h (pI (M_thrown σ) h) noX := by
  refine FM.of [some (.ref m)] (by decide) (Nat.le_of_ble_eq_true rfl) rfl ?_
  rintro K X rfl rfl rfl
  have q_v : (M_thrown σ) = (σ 41 0) := rfl
  refine J_aload_0 X dX11_thrown_0 ?_
  refine JM_get X hR 41 (by decide) rfl rfl gw_5_51 dX11_thrown_1 ?_
  exact J_iret X rfl rfl ⟨by rw [q_v], rfl⟩ dX11_thrown_4
def M_gives_j6 (σ : St) (p1 : Int32) (p2 : Int32) : Int32 := (if (M_isLamp σ p1) = (0 : Int32) then (1 : Int32) else (if (M_isPlace p2) = (0 : Int32) then (1 : Int32) else (0 : Int32)))
theorem M_gives_j6_b (σ : St) (p1 : Int32) (p2 : Int32) : M_gives_j6 σ p1 p2 = 0 ∨ M_gives_j6 σ p1 p2 = 1 := by
  unfold M_gives_j6
  (repeat' split) <;> first | exact Or.inl rfl | exact Or.inr rfl
def M_gives_j24 (σ : St) (p1 : Int32) (p2 : Int32) : Int32 := (if (M_fails σ (M_gives_j6 σ p1 p2)) = (0 : Int32) then (M_given (M_fails_s σ (M_gives_j6 σ p1 p2)) p1 p2) else (0 : Int32))
def M_gives (σ : St) (p1 : Int32) (p2 : Int32) : Int32 := (M_gives_j24 σ p1 p2)
def M_gives_s (σ : St) (p1 : Int32) (p2 : Int32) : St := (M_fails_s σ (M_gives_j6 σ p1 p2))
theorem ok_gives0 {σ : St} {p1 p2 : Int32} (hI : Inv σ) (c : M_fails σ (M_gives_j6 σ p1 p2) = 0) : vp_in p1 40 := by
  refine isLamp_in hI (fun q => ?_)
  exact fz c (by unfold M_gives_j6; simp [q])
theorem ok_gives1 {σ : St} {p1 p2 : Int32} (hI : Inv σ) (c : M_fails σ (M_gives_j6 σ p1 p2) = 0) : vp_in p2 64 := by
  refine isPlace_in (fun q => ?_)
  exact fz c (by unfold M_gives_j6; simp [q])
theorem cw_X11_gives : Cond.instanceMethod yX11_gives ∈ GW ∧ Cond.selects RX11 yX11_gives yX11_gives ∈ GW ∧ Cond.initialized RX11 ∈ GW ∧ Cond.code yX11_gives cX11_gives 3 (some .int) ∈ GW ∧ yX11_gives.cls = RX11 ∧ (yX11_gives.cls ≠ "java/lang/invoke/MethodHandle" ∧ yX11_gives.cls ≠ "java/lang/invoke/VarHandle") ∧ (parseMethodDescriptor yX11_gives.desc).map (fun d => d.parameters.length) = some 2 := ⟨gw_6_59, gw_6_60, gw_1_14, gw_6_61, rfl, ⟨by decide, by decide⟩, by decide +kernel⟩
set_option maxRecDepth 100000 in
set_option maxHeartbeats 4000000 in
theorem c_M_gives {l : Launch} {D : va_G} {ca : Nat → Nat} {h : fH} {m : Nat} {ρ : Nat → Nat} {σ : St} (hR : RM ca h m ρ σ) (hI : Inv σ) (p1 : Int32) (p2 : Int32) : FM l D ca yX11_gives (.code yX11_gives cX11_gives 3 (some .int)) { frames := 4, cells := 0, slots := 0, locals := 95 } [.ref m, .int p1, .int p2] h (pIM (M_gives σ p1 p2) (fun h2 => RM ca h2 m ρ (M_gives_s σ p1 p2))) noX := by
  refine FM.of [some (.ref m), some (.int p1), some (.int p2)] (by decide) (Nat.le_of_ble_eq_true rfl) rfl ?_
  rintro K X rfl rfl rfl
  have q_v : (M_gives σ p1 p2) = (M_gives_j24 σ p1 p2) := rfl
  have q_s : (M_gives_s σ p1 p2) = (M_fails_s σ (M_gives_j6 σ p1 p2)) := rfl
  refine J_aload_0 X dX11_gives_0 ?_
  refine J_aload_0 X dX11_gives_1 ?_
  refine J_iload_1 X dX11_gives_2 ?_
  refine J_callV X (c_M_isLamp hR p1) (And.intro gw_5_203 cw_X11_isLamp) hR.1 rfl rfl rfl (Nat.le_of_ble_eq_true rfl) dX11_gives_3 rfl (J.pi ?_) JE.no
  have K6_21 : ∀ (v6_0 : Int32), v6_0 = (M_gives_j6 σ p1 p2) → J K h [some (.ref m), some (.int p1), some (.int p2)] [.int v6_0, .ref m] 21 0 0 := by
    intro v6_0 ev6_0
    try rw [ev6_0]
    clear ev6_0
    refine J_callV X (c_M_fails hR (M_gives_j6 σ p1 p2)) (And.intro gw_5_151 cw_X11_fails) hR.1 rfl rfl rfl (Nat.le_of_ble_eq_true rfl) dX11_gives_21 rfl (J.pim (fun h1 hR1 => ?_)) JE.no
    have hI1 : Inv (M_fails_s σ (M_gives_j6 σ p1 p2)) := (Inv_fails hI)
    have K24_37 : ∀ (v24_0 : Int32), v24_0 = (M_gives_j24 σ p1 p2) → J K h1 [some (.ref m), some (.int p1), some (.int p2)] [.int v24_0] 37 0 0 := by
      intro v24_0 ev24_0
      try rw [ev24_0]
      clear ev24_0
      exact J_iret X rfl rfl ⟨by rw [q_v], by rw [q_s]; exact hR1⟩ dX11_gives_37
    have j24_0 : M_gives_j24 σ p1 p2 = (if (M_fails σ (M_gives_j6 σ p1 p2)) = (0 : Int32) then (M_given (M_fails_s σ (M_gives_j6 σ p1 p2)) p1 p2) else (0 : Int32)) := rfl
    refine J_if_eq (tgt := 31) X dX11_gives_24 (by decide) (fun c24 => ?_) (fun c24 => ?_)
    · skip
      rw [if_pos c24] at j24_0
      have hp := ok_gives0 hI c24
      have hp9 := ok_gives1 hI c24
      refine J_aload_0 X dX11_gives_31 ?_
      refine J_iload_1 X dX11_gives_32 ?_
      refine J_iload_2 X dX11_gives_33 ?_
      refine J_callV X (c_M_given hR1 hI1 p1 p2 hp hp9) (And.intro gw_6_7 cw_X11_given) hR1.1 rfl rfl rfl (Nat.le_of_ble_eq_true rfl) dX11_gives_34 rfl (J.pi ?_) JE.no
      exact K24_37 _ j24_0.symm
    · skip
      rw [if_neg c24] at j24_0
      refine J_iconst (v := 0) X dX11_gives_27 rfl ?_
      refine J_goto (tgt := 37) X dX11_gives_28 (by decide) ?_
      exact K24_37 _ j24_0.symm
  have j6_0 : M_gives_j6 σ p1 p2 = (if (M_isLamp σ p1) = (0 : Int32) then (1 : Int32) else (if (M_isPlace p2) = (0 : Int32) then (1 : Int32) else (0 : Int32))) := rfl
  refine J_if_eq (tgt := 20) X dX11_gives_6 (by decide) (fun c6 => ?_) (fun c6 => ?_)
  · skip
    rw [if_pos c6] at j6_0
    refine J_iconst (v := 1) X dX11_gives_20 rfl ?_
    exact K6_21 _ j6_0.symm
  · skip
    rw [if_neg c6] at j6_0
    refine J_iload_2 X dX11_gives_9 ?_
    refine J_callS X (c_M_isPlace p2) (And.intro gw_5_145 cw_X11_isPlace) rfl rfl (Nat.le_of_ble_eq_true rfl) dX11_gives_10 rfl (J.pi ?_) JE.no
    refine J_if_eq (tgt := 20) X dX11_gives_13 (by decide) (fun c13 => ?_) (fun c13 => ?_)
    · skip
      rw [if_pos c13] at j6_0
      refine J_iconst (v := 1) X dX11_gives_20 rfl ?_
      exact K6_21 _ j6_0.symm
    · skip
      rw [if_neg c13] at j6_0
      refine J_iconst (v := 0) X dX11_gives_16 rfl ?_
      refine J_goto (tgt := 21) X dX11_gives_17 (by decide) ?_
      exact K6_21 _ j6_0.symm
def M_glow_j5 (σ : St) (p1 : Int32) : Int32 := (if (M_isPlace p1) = (0 : Int32) then (1 : Int32) else (0 : Int32))
theorem M_glow_j5_b (σ : St) (p1 : Int32) : M_glow_j5 σ p1 = 0 ∨ M_glow_j5 σ p1 = 1 := by
  unfold M_glow_j5
  (repeat' split) <;> first | exact Or.inl rfl | exact Or.inr rfl
def M_glow_j16 (σ : St) (p1 : Int32) : Int32 := (if (M_fails σ (M_glow_j5 σ p1)) = (0 : Int32) then (M_glowOf (M_fails_s σ (M_glow_j5 σ p1)) p1) else (0 : Int32))
def M_glow (σ : St) (p1 : Int32) : Int32 := (M_glow_j16 σ p1)
def M_glow_s (σ : St) (p1 : Int32) : St := (M_fails_s σ (M_glow_j5 σ p1))
theorem ok_glow0 {σ : St} {p1 : Int32} (hI : Inv σ) (c : M_fails σ (M_glow_j5 σ p1) = 0) : vp_in p1 64 := by
  refine isPlace_in (fun q => ?_)
  exact fz c (by unfold M_glow_j5; simp [q])
theorem cw_X11_glow : Cond.instanceMethod yX11_glow ∈ GW ∧ Cond.selects RX11 yX11_glow yX11_glow ∈ GW ∧ Cond.initialized RX11 ∈ GW ∧ Cond.code yX11_glow cX11_glow 2 (some .int) ∈ GW ∧ yX11_glow.cls = RX11 ∧ (yX11_glow.cls ≠ "java/lang/invoke/MethodHandle" ∧ yX11_glow.cls ≠ "java/lang/invoke/VarHandle") ∧ (parseMethodDescriptor yX11_glow.desc).map (fun d => d.parameters.length) = some 1 := ⟨gw_6_63, gw_6_64, gw_1_14, gw_6_65, rfl, ⟨by decide, by decide⟩, by decide +kernel⟩
set_option maxRecDepth 100000 in
set_option maxHeartbeats 4000000 in
theorem c_M_glow {l : Launch} {D : va_G} {ca : Nat → Nat} {h : fH} {m : Nat} {ρ : Nat → Nat} {σ : St} (hR : RM ca h m ρ σ) (hI : Inv σ) (p1 : Int32) : FM l D ca yX11_glow (.code yX11_glow cX11_glow 2 (some .int)) { frames := 5, cells := 0, slots := 0, locals := 118 } [.ref m, .int p1] h (pIM (M_glow σ p1) (fun h2 => RM ca h2 m ρ (M_glow_s σ p1))) noX := by
  refine FM.of [some (.ref m), some (.int p1)] (by decide) (Nat.le_of_ble_eq_true rfl) rfl ?_
  rintro K X rfl rfl rfl
  have q_v : (M_glow σ p1) = (M_glow_j16 σ p1) := rfl
  have q_s : (M_glow_s σ p1) = (M_fails_s σ (M_glow_j5 σ p1)) := rfl
  refine J_aload_0 X dX11_glow_0 ?_
  refine J_iload_1 X dX11_glow_1 ?_
  refine J_callS X (c_M_isPlace p1) (And.intro gw_5_145 cw_X11_isPlace) rfl rfl (Nat.le_of_ble_eq_true rfl) dX11_glow_2 rfl (J.pi ?_) JE.no
  have K5_13 : ∀ (v5_0 : Int32), v5_0 = (M_glow_j5 σ p1) → J K h [some (.ref m), some (.int p1)] [.int v5_0, .ref m] 13 0 0 := by
    intro v5_0 ev5_0
    try rw [ev5_0]
    clear ev5_0
    refine J_callV X (c_M_fails hR (M_glow_j5 σ p1)) (And.intro gw_5_151 cw_X11_fails) hR.1 rfl rfl rfl (Nat.le_of_ble_eq_true rfl) dX11_glow_13 rfl (J.pim (fun h1 hR1 => ?_)) JE.no
    have hI1 : Inv (M_fails_s σ (M_glow_j5 σ p1)) := (Inv_fails hI)
    have K16_28 : ∀ (v16_0 : Int32), v16_0 = (M_glow_j16 σ p1) → J K h1 [some (.ref m), some (.int p1)] [.int v16_0] 28 0 0 := by
      intro v16_0 ev16_0
      try rw [ev16_0]
      clear ev16_0
      exact J_iret X rfl rfl ⟨by rw [q_v], by rw [q_s]; exact hR1⟩ dX11_glow_28
    have j16_0 : M_glow_j16 σ p1 = (if (M_fails σ (M_glow_j5 σ p1)) = (0 : Int32) then (M_glowOf (M_fails_s σ (M_glow_j5 σ p1)) p1) else (0 : Int32)) := rfl
    refine J_if_eq (tgt := 23) X dX11_glow_16 (by decide) (fun c16 => ?_) (fun c16 => ?_)
    · skip
      rw [if_pos c16] at j16_0
      have hp := ok_glow0 hI c16
      refine J_aload_0 X dX11_glow_23 ?_
      refine J_iload_1 X dX11_glow_24 ?_
      refine J_callV X (c_M_glowOf hR1 hI1 p1 hp) (And.intro gw_6_3 cw_X11_glowOf) hR1.1 rfl rfl rfl (Nat.le_of_ble_eq_true rfl) dX11_glow_25 rfl (J.pi ?_) JE.no
      exact K16_28 _ j16_0.symm
    · skip
      rw [if_neg c16] at j16_0
      refine J_iconst (v := 0) X dX11_glow_19 rfl ?_
      refine J_goto (tgt := 28) X dX11_glow_20 (by decide) ?_
      exact K16_28 _ j16_0.symm
  have j5_0 : M_glow_j5 σ p1 = (if (M_isPlace p1) = (0 : Int32) then (1 : Int32) else (0 : Int32)) := rfl
  refine J_if_eq (tgt := 12) X dX11_glow_5 (by decide) (fun c5 => ?_) (fun c5 => ?_)
  · skip
    rw [if_pos c5] at j5_0
    refine J_iconst (v := 1) X dX11_glow_12 rfl ?_
    exact K5_13 _ j5_0.symm
  · skip
    rw [if_neg c5] at j5_0
    refine J_iconst (v := 0) X dX11_glow_8 rfl ?_
    refine J_goto (tgt := 13) X dX11_glow_9 (by decide) ?_
    exact K5_13 _ j5_0.symm
def M_ground_j5 (σ : St) (p1 : Int32) : Int32 := (if (M_isPlace p1) = (0 : Int32) then (1 : Int32) else (0 : Int32))
theorem M_ground_j5_b (σ : St) (p1 : Int32) : M_ground_j5 σ p1 = 0 ∨ M_ground_j5 σ p1 = 1 := by
  unfold M_ground_j5
  (repeat' split) <;> first | exact Or.inl rfl | exact Or.inr rfl
def M_ground_j16 (σ : St) (p1 : Int32) : Int32 := (if (M_fails σ (M_ground_j5 σ p1)) = (0 : Int32) then (M_groundOf (M_fails_s σ (M_ground_j5 σ p1)) p1) else (0 : Int32))
def M_ground (σ : St) (p1 : Int32) : Int32 := (M_ground_j16 σ p1)
def M_ground_s (σ : St) (p1 : Int32) : St := (M_fails_s σ (M_ground_j5 σ p1))
theorem ok_ground0 {σ : St} {p1 : Int32} (hI : Inv σ) (c : M_fails σ (M_ground_j5 σ p1) = 0) : vp_in p1 64 := by
  refine isPlace_in (fun q => ?_)
  exact fz c (by unfold M_ground_j5; simp [q])
theorem cw_X11_ground : Cond.instanceMethod yX11_ground ∈ GW ∧ Cond.selects RX11 yX11_ground yX11_ground ∈ GW ∧ Cond.initialized RX11 ∈ GW ∧ Cond.code yX11_ground cX11_ground 2 (some .int) ∈ GW ∧ yX11_ground.cls = RX11 ∧ (yX11_ground.cls ≠ "java/lang/invoke/MethodHandle" ∧ yX11_ground.cls ≠ "java/lang/invoke/VarHandle") ∧ (parseMethodDescriptor yX11_ground.desc).map (fun d => d.parameters.length) = some 1 := ⟨gw_6_75, gw_6_76, gw_1_14, gw_6_77, rfl, ⟨by decide, by decide⟩, by decide +kernel⟩
set_option maxRecDepth 100000 in
set_option maxHeartbeats 4000000 in
theorem c_M_ground {l : Launch} {D : va_G} {ca : Nat → Nat} {h : fH} {m : Nat} {ρ : Nat → Nat} {σ : St} (hR : RM ca h m ρ σ) (hI : Inv σ) (p1 : Int32) : FM l D ca yX11_ground (.code yX11_ground cX11_ground 2 (some .int)) { frames := 3, cells := 0, slots := 0, locals := 69 } [.ref m, .int p1] h (pIM (M_ground σ p1) (fun h2 => RM ca h2 m ρ (M_ground_s σ p1))) noX := by
  refine FM.of [some (.ref m), some (.int p1)] (by decide) (Nat.le_of_ble_eq_true rfl) rfl ?_
  rintro K X rfl rfl rfl
  have q_v : (M_ground σ p1) = (M_ground_j16 σ p1) := rfl
  have q_s : (M_ground_s σ p1) = (M_fails_s σ (M_ground_j5 σ p1)) := rfl
  refine J_aload_0 X dX11_ground_0 ?_
  refine J_iload_1 X dX11_ground_1 ?_
  refine J_callS X (c_M_isPlace p1) (And.intro gw_5_145 cw_X11_isPlace) rfl rfl (Nat.le_of_ble_eq_true rfl) dX11_ground_2 rfl (J.pi ?_) JE.no
  have K5_13 : ∀ (v5_0 : Int32), v5_0 = (M_ground_j5 σ p1) → J K h [some (.ref m), some (.int p1)] [.int v5_0, .ref m] 13 0 0 := by
    intro v5_0 ev5_0
    try rw [ev5_0]
    clear ev5_0
    refine J_callV X (c_M_fails hR (M_ground_j5 σ p1)) (And.intro gw_5_151 cw_X11_fails) hR.1 rfl rfl rfl (Nat.le_of_ble_eq_true rfl) dX11_ground_13 rfl (J.pim (fun h1 hR1 => ?_)) JE.no
    have hI1 : Inv (M_fails_s σ (M_ground_j5 σ p1)) := (Inv_fails hI)
    have K16_28 : ∀ (v16_0 : Int32), v16_0 = (M_ground_j16 σ p1) → J K h1 [some (.ref m), some (.int p1)] [.int v16_0] 28 0 0 := by
      intro v16_0 ev16_0
      try rw [ev16_0]
      clear ev16_0
      exact J_iret X rfl rfl ⟨by rw [q_v], by rw [q_s]; exact hR1⟩ dX11_ground_28
    have j16_0 : M_ground_j16 σ p1 = (if (M_fails σ (M_ground_j5 σ p1)) = (0 : Int32) then (M_groundOf (M_fails_s σ (M_ground_j5 σ p1)) p1) else (0 : Int32)) := rfl
    refine J_if_eq (tgt := 23) X dX11_ground_16 (by decide) (fun c16 => ?_) (fun c16 => ?_)
    · skip
      rw [if_pos c16] at j16_0
      have hp := ok_ground0 hI c16
      refine J_aload_0 X dX11_ground_23 ?_
      refine J_iload_1 X dX11_ground_24 ?_
      refine J_callV X (c_M_groundOf hR1 hI1 p1 hp) (And.intro gw_6_78 cw_X11_groundOf) hR1.1 rfl rfl rfl (Nat.le_of_ble_eq_true rfl) dX11_ground_25 rfl (J.pi ?_) JE.no
      exact K16_28 _ j16_0.symm
    · skip
      rw [if_neg c16] at j16_0
      refine J_iconst (v := 0) X dX11_ground_19 rfl ?_
      refine J_goto (tgt := 28) X dX11_ground_20 (by decide) ?_
      exact K16_28 _ j16_0.symm
  have j5_0 : M_ground_j5 σ p1 = (if (M_isPlace p1) = (0 : Int32) then (1 : Int32) else (0 : Int32)) := rfl
  refine J_if_eq (tgt := 12) X dX11_ground_5 (by decide) (fun c5 => ?_) (fun c5 => ?_)
  · skip
    rw [if_pos c5] at j5_0
    refine J_iconst (v := 1) X dX11_ground_12 rfl ?_
    exact K5_13 _ j5_0.symm
  · skip
    rw [if_neg c5] at j5_0
    refine J_iconst (v := 0) X dX11_ground_8 rfl ?_
    refine J_goto (tgt := 13) X dX11_ground_9 (by decide) ?_
    exact K5_13 _ j5_0.symm
end
