noncomputable section
def M_glowFrom_j5 (σ : St) (p1 : Int32) (p2 : Int32) : Int32 := (if (M_isPlace p1) = (0 : Int32) then (1 : Int32) else (if (M_isIn p2 (0 : Int32) (4 : Int32)) = (0 : Int32) then (2 : Int32) else (0 : Int32)))
def M_glowFrom_j57 (σ : St) (p1 : Int32) (p2 : Int32) (k39 : Nat) (a39_3 : Int32) : Int32 := (if (M_direction (M_fails_s σ (M_glowFrom_j5 σ p1 p2)) (nI k39) p1) = p2 then (M_given (M_fails_s σ (M_glowFrom_j5 σ p1 p2)) (nI k39) p1) else (0 : Int32))
def M_glowFrom_L39 (σ : St) (p1 : Int32) (p2 : Int32) (K39 : Int32 → Int32) : Nat → Nat → Int32 → Int32
  | 0, _, a39_3 => K39 a39_3
  | n39 + 1, k39, a39_3 => (M_glowFrom_L39 σ p1 p2 K39 n39 (k39 + 1) (a39_3 + (M_glowFrom_j57 σ p1 p2 k39 a39_3)))
def M_glowFrom_L39_s (σ : St) (p1 : Int32) (p2 : Int32) (K39s : Int32 → St) : Nat → Nat → Int32 → St
  | 0, _, a39_3 => K39s a39_3
  | n39 + 1, k39, a39_3 => (M_glowFrom_L39_s σ p1 p2 K39s n39 (k39 + 1) (a39_3 + (M_glowFrom_j57 σ p1 p2 k39 a39_3)))
def M_glowFrom (σ : St) (p1 : Int32) (p2 : Int32) : Int32 := (if (M_fails σ (M_glowFrom_j5 σ p1 p2)) = (0 : Int32) then (M_glowFrom_L39 σ p1 p2 (fun a39_3 => a39_3) (ix (σ 13 0)) 0 (0 : Int32)) else (0 : Int32))
def M_glowFrom_s (σ : St) (p1 : Int32) (p2 : Int32) : St := (if (M_fails σ (M_glowFrom_j5 σ p1 p2)) = (0 : Int32) then (M_glowFrom_L39_s σ p1 p2 (fun a39_3 => (M_fails_s σ (M_glowFrom_j5 σ p1 p2))) (ix (σ 13 0)) 0 (0 : Int32)) else (M_fails_s σ (M_glowFrom_j5 σ p1 p2)))
theorem ok_glowFrom0 {σ : St} {p1 p2 : Int32} (hI : Inv σ) (c : M_fails σ (M_glowFrom_j5 σ p1 p2) = 0) : vp_in p1 64 := by
  refine isPlace_in (fun q => ?_)
  exact fz c (by unfold M_glowFrom_j5; simp [q])
theorem cw_X11_glowFrom : Cond.instanceMethod yX11_glowFrom ∈ GW ∧ Cond.selects RX11 yX11_glowFrom yX11_glowFrom ∈ GW ∧ Cond.initialized RX11 ∈ GW ∧ Cond.code yX11_glowFrom cX11_glowFrom 5 (some .int) ∈ GW ∧ yX11_glowFrom.cls = RX11 ∧ (yX11_glowFrom.cls ≠ "java/lang/invoke/MethodHandle" ∧ yX11_glowFrom.cls ≠ "java/lang/invoke/VarHandle") ∧ (parseMethodDescriptor yX11_glowFrom.desc).map (fun d => d.parameters.length) = some 2 := ⟨gw_6_67, gw_6_68, gw_1_14, gw_6_69, rfl, ⟨by decide, by decide⟩, by decide +kernel⟩
set_option maxRecDepth 100000 in
set_option maxHeartbeats 4000000 in
theorem c_M_glowFrom {l : Launch} {D : va_G} {ca : Nat → Nat} {h : fH} {m : Nat} {ρ : Nat → Nat} {σ : St} (hR : RM ca h m ρ σ) (hI : Inv σ) (p1 : Int32) (p2 : Int32) : FM l D ca yX11_glowFrom (.code yX11_glowFrom cX11_glowFrom 5 (some .int)) { frames := 4, cells := 0, slots := 0, locals := 95 } [.ref m, .int p1, .int p2] h (pIM (M_glowFrom σ p1 p2) (fun h2 => RM ca h2 m ρ (M_glowFrom_s σ p1 p2))) noX := by
  refine FM.of [some (.ref m), some (.int p1), some (.int p2), none, none] (by decide) (Nat.le_of_ble_eq_true rfl) rfl ?_
  rintro K X rfl rfl rfl
  have q_v : (M_glowFrom σ p1 p2) = (if (M_fails σ (M_glowFrom_j5 σ p1 p2)) = (0 : Int32) then (M_glowFrom_L39 σ p1 p2 (fun a39_3 => a39_3) (ix (σ 13 0)) 0 (0 : Int32)) else (0 : Int32)) := rfl
  have q_s : (M_glowFrom_s σ p1 p2) = (if (M_fails σ (M_glowFrom_j5 σ p1 p2)) = (0 : Int32) then (M_glowFrom_L39_s σ p1 p2 (fun a39_3 => (M_fails_s σ (M_glowFrom_j5 σ p1 p2))) (ix (σ 13 0)) 0 (0 : Int32)) else (M_fails_s σ (M_glowFrom_j5 σ p1 p2))) := rfl
  refine J_aload_0 X dX11_glowFrom_0 ?_
  refine J_iload_1 X dX11_glowFrom_1 ?_
  refine J_callS X (c_M_isPlace p1) (And.intro gw_5_145 cw_X11_isPlace) rfl rfl (Nat.le_of_ble_eq_true rfl) dX11_glowFrom_2 rfl (J.pi ?_) JE.no
  have K5_26 : ∀ (v5_0 : Int32), v5_0 = (M_glowFrom_j5 σ p1 p2) → J K h [some (.ref m), some (.int p1), some (.int p2), none, none] [.int v5_0, .ref m] 26 0 0 := by
    intro v5_0 ev5_0
    try rw [ev5_0]
    clear ev5_0
    refine J_callV X (c_M_fails hR (M_glowFrom_j5 σ p1 p2)) (And.intro gw_5_151 cw_X11_fails) hR.1 rfl rfl rfl (Nat.le_of_ble_eq_true rfl) dX11_glowFrom_26 rfl (J.pim (fun h1 hR1 => ?_)) JE.no
    have hI1 : Inv (M_fails_s σ (M_glowFrom_j5 σ p1 p2)) := (Inv_fails hI)
    refine J_if_eq (tgt := 34) X dX11_glowFrom_29 (by decide) (fun c29 => ?_) (fun c29 => ?_)
    · skip
      rw [if_pos c29] at q_v
      rw [if_pos c29] at q_s
      have hp := ok_glowFrom0 hI c29
      refine J_iconst (v := 0) X dX11_glowFrom_34 rfl ?_
      refine J_istore_3 X dX11_glowFrom_35 rfl (by decide) ?_
      refine J_iconst (v := 0) X dX11_glowFrom_36 rfl ?_
      refine J_istore_4 X dX11_glowFrom_37 rfl (by decide) ?_
      have hle := (cnt (N := 40) (hI 13 0) (by decide)).2
      obtain ⟨K39, hK39⟩ : ∃ f : Int32 → Int32, f = (fun a39_3 => a39_3) := ⟨_, rfl⟩
      obtain ⟨K39s, hK39s⟩ : ∃ f : Int32 → St, f = (fun a39_3 => (M_fails_s σ (M_glowFrom_j5 σ p1 p2))) := ⟨_, rfl⟩
      have X39 : ∀ (a39_3 : Int32) (_ : True), (M_glowFrom σ p1 p2) = a39_3 → (M_glowFrom_s σ p1 p2) = (M_fails_s σ (M_glowFrom_j5 σ p1 p2)) → J K h1 [some (.ref m), some (.int p1), some (.int p2), some (.int a39_3), none] [] 79 0 0 := by
        intro a39_3  _  q_v q_s
        refine J_iload_3 X dX11_glowFrom_79 ?_
        exact J_iret X rfl rfl ⟨by rw [q_v], by rw [q_s]; exact hR1⟩ dX11_glowFrom_80
      have L39 : ∀ (n39 k39 : Nat) (a39_3 : Int32), k39 + n39 = ix (σ 13 0) → (M_glowFrom σ p1 p2) = (M_glowFrom_L39 σ p1 p2 K39 n39 k39 a39_3) → (M_glowFrom_s σ p1 p2) = (M_glowFrom_L39_s σ p1 p2 K39s n39 k39 a39_3) → J K h1 [some (.ref m), some (.int p1), some (.int p2), some (.int a39_3), some (.int (nI k39))] [] 39 0 0 := by
        intro n39
        induction n39 with
        | zero =>
          intro k39 a39_3  hk39  q_v q_s
          rw [M_glowFrom_L39] at q_v
          rw [M_glowFrom_L39_s] at q_s
          refine J_iload_4 X dX11_glowFrom_39 ?_
          refine J_aload_0 X dX11_glowFrom_41 ?_
          refine JM_get X hR1 13 (by decide) rfl rfl gw_5_23 dX11_glowFrom_42 ?_
          refine J_icmp_ge (tgt := 79) X dX11_glowFrom_45 (by decide) (fun _ => ?_) (fun c => absurd (lp_exit (cnt (N := 40) (hI 13 0) (by decide)).1 (by have := (cnt (N := 40) (hI 13 0) (by decide)).2; omega) hk39) c)
          rw [hK39] at q_v
          rw [hK39s] at q_s
          refine J.subL (lv' := [some (.ref m), some (.int p1), some (.int p2), some (.int a39_3), none]) (And.intro rfl (And.intro rfl (And.intro rfl (And.intro rfl trivial)))) ?_
          exact X39 a39_3  trivial  q_v q_s
        | succ n39 ih39 =>
          intro k39 a39_3  hk39  q_v q_s
          rw [M_glowFrom_L39] at q_v
          rw [M_glowFrom_L39_s] at q_s
          have hlt39 : k39 < ix (σ 13 0) := by omega
          refine J_iload_4 X dX11_glowFrom_39 ?_
          refine J_aload_0 X dX11_glowFrom_41 ?_
          refine JM_get X hR1 13 (by decide) rfl rfl gw_5_23 dX11_glowFrom_42 ?_
          refine J_icmp_ge (tgt := 79) X dX11_glowFrom_45 (by decide) (fun c => absurd c (lp_stay (cnt (N := 40) (hI 13 0) (by decide)).1 (by have := (cnt (N := 40) (hI 13 0) (by decide)).2; omega) hk39)) (fun _ => ?_)
          refine J_iload_3 X dX11_glowFrom_48 ?_
          refine J_aload_0 X dX11_glowFrom_49 ?_
          refine J_iload_4 X dX11_glowFrom_50 ?_
          refine J_iload_1 X dX11_glowFrom_52 ?_
          refine J_callV X (c_M_direction hR1 hI1 (nI k39) p1 (vp_in_nI (N := 40) (by omega) (by decide))) (And.intro gw_6_70 cw_X11_direction) hR1.1 rfl rfl rfl (Nat.le_of_ble_eq_true rfl) dX11_glowFrom_53 rfl (J.pi ?_) JE.no
          refine J_iload_2 X dX11_glowFrom_56 ?_
          have K57_71 : ∀ (v57_0 : Int32), v57_0 = (M_glowFrom_j57 σ p1 p2 k39 a39_3) → J K h1 [some (.ref m), some (.int p1), some (.int p2), some (.int a39_3), some (.int (nI k39))] [.int v57_0, .int a39_3] 71 0 0 := by
            intro v57_0 ev57_0
            try rw [ev57_0]
            clear ev57_0
            refine J_iadd X dX11_glowFrom_71 ?_
            refine J_istore_3 X dX11_glowFrom_72 rfl (by decide) ?_
            refine J_iinc_4 (v := (nI (k39 + 1))) X dX11_glowFrom_73 (nI_1 _) rfl (by decide) ?_
            refine J_goto (tgt := 39) X dX11_glowFrom_76 (by decide) ?_
            exact ih39 (k39 + 1) (a39_3 + (M_glowFrom_j57 σ p1 p2 k39 a39_3))  (by omega)  q_v q_s
          have j57_0 : M_glowFrom_j57 σ p1 p2 k39 a39_3 = (if (M_direction (M_fails_s σ (M_glowFrom_j5 σ p1 p2)) (nI k39) p1) = p2 then (M_given (M_fails_s σ (M_glowFrom_j5 σ p1 p2)) (nI k39) p1) else (0 : Int32)) := rfl
          refine J_icmp_ne (tgt := 70) X dX11_glowFrom_57 (by decide) (fun c57 => ?_) (fun c57 => ?_)
          · skip
            rw [if_neg c57] at j57_0
            refine J_iconst (v := 0) X dX11_glowFrom_70 rfl ?_
            exact K57_71 _ j57_0.symm
          · skip
            rw [if_pos c57] at j57_0
            refine J_aload_0 X dX11_glowFrom_60 ?_
            refine J_iload_4 X dX11_glowFrom_61 ?_
            refine J_iload_1 X dX11_glowFrom_63 ?_
            refine J_callV X (c_M_given hR1 hI1 (nI k39) p1 (vp_in_nI (N := 40) (by omega) (by decide)) hp) (And.intro gw_6_7 cw_X11_given) hR1.1 rfl rfl rfl (Nat.le_of_ble_eq_true rfl) dX11_glowFrom_64 rfl (J.pi ?_) JE.no
            refine J_goto (tgt := 71) X dX11_glowFrom_67 (by decide) ?_
            exact K57_71 _ j57_0.symm
      have q_v : (M_glowFrom σ p1 p2) = (M_glowFrom_L39 σ p1 p2 K39 (ix (σ 13 0)) 0 (0 : Int32)) := by rw [hK39]; exact q_v
      have q_s : (M_glowFrom_s σ p1 p2) = (M_glowFrom_L39_s σ p1 p2 K39s (ix (σ 13 0)) 0 (0 : Int32)) := by rw [hK39s]; exact q_s
      exact L39 (ix (σ 13 0)) 0 (0 : Int32)  (Nat.zero_add _)  q_v q_s
    · skip
      rw [if_neg c29] at q_v
      rw [if_neg c29] at q_s
      refine J_iconst (v := 0) X dX11_glowFrom_32 rfl ?_
      exact J_iret X rfl rfl ⟨by rw [q_v], by rw [q_s]; exact hR1⟩ dX11_glowFrom_33
  have j5_0 : M_glowFrom_j5 σ p1 p2 = (if (M_isPlace p1) = (0 : Int32) then (1 : Int32) else (if (M_isIn p2 (0 : Int32) (4 : Int32)) = (0 : Int32) then (2 : Int32) else (0 : Int32))) := rfl
  refine J_if_ne (tgt := 12) X dX11_glowFrom_5 (by decide) (fun c5 => ?_) (fun c5 => ?_)
  · skip
    rw [if_neg c5] at j5_0
    refine J_iload_2 X dX11_glowFrom_12 ?_
    refine J_iconst (v := 0) X dX11_glowFrom_13 rfl ?_
    refine J_iconst (v := 4) X dX11_glowFrom_14 rfl ?_
    refine J_callS X (c_M_isIn p2 (0 : Int32) (4 : Int32)) (And.intro gw_5_148 cw_X11_isIn) rfl rfl (Nat.le_of_ble_eq_true rfl) dX11_glowFrom_15 rfl (J.pi ?_) JE.no
    refine J_if_eq (tgt := 25) X dX11_glowFrom_18 (by decide) (fun c18 => ?_) (fun c18 => ?_)
    · skip
      rw [if_pos c18] at j5_0
      refine J_iconst (v := 2) X dX11_glowFrom_25 rfl ?_
      exact K5_26 _ j5_0.symm
    · skip
      rw [if_neg c18] at j5_0
      refine J_iconst (v := 0) X dX11_glowFrom_21 rfl ?_
      refine J_goto (tgt := 26) X dX11_glowFrom_22 (by decide) ?_
      exact K5_26 _ j5_0.symm
  · skip
    rw [if_pos c5] at j5_0
    refine J_iconst (v := 1) X dX11_glowFrom_8 rfl ?_
    refine J_goto (tgt := 26) X dX11_glowFrom_9 (by decide) ?_
    exact K5_26 _ j5_0.symm
def M_culprit_j5 (σ : St) (p1 : Int32) : Int32 := (if (M_isPlace p1) = (0 : Int32) then (1 : Int32) else (0 : Int32))
theorem M_culprit_j5_b (σ : St) (p1 : Int32) : M_culprit_j5 σ p1 = 0 ∨ M_culprit_j5 σ p1 = 1 := by
  unfold M_culprit_j5
  (repeat' split) <;> first | exact Or.inl rfl | exact Or.inr rfl
def M_culprit_j49 (σ : St) (p1 : Int32) (k28 : Nat) (a28_2 : Int32) (a28_3 : Int32) : Int32 := (if (M_given (M_fails_s σ (M_culprit_j5 σ p1)) (nI k28) p1) ≤ a28_3 then a28_2 else (nI k28))
def M_culprit_j62 (σ : St) (p1 : Int32) (k28 : Nat) (a28_2 : Int32) (a28_3 : Int32) : Int32 := (if (M_given (M_fails_s σ (M_culprit_j5 σ p1)) (nI k28) p1) ≤ a28_3 then a28_3 else (M_given (M_fails_s σ (M_culprit_j5 σ p1)) (nI k28) p1))
def M_culprit_L28 (σ : St) (p1 : Int32) (K28 : Int32 → Int32 → Int32) : Nat → Nat → Int32 → Int32 → Int32
  | 0, _, a28_2, a28_3 => K28 a28_2 a28_3
  | n28 + 1, k28, a28_2, a28_3 => (M_culprit_L28 σ p1 K28 n28 (k28 + 1) (M_culprit_j49 σ p1 k28 a28_2 a28_3) (M_culprit_j62 σ p1 k28 a28_2 a28_3))
def M_culprit_L28_s (σ : St) (p1 : Int32) (K28s : Int32 → Int32 → St) : Nat → Nat → Int32 → Int32 → St
  | 0, _, a28_2, a28_3 => K28s a28_2 a28_3
  | n28 + 1, k28, a28_2, a28_3 => (M_culprit_L28_s σ p1 K28s n28 (k28 + 1) (M_culprit_j49 σ p1 k28 a28_2 a28_3) (M_culprit_j62 σ p1 k28 a28_2 a28_3))
def M_culprit (σ : St) (p1 : Int32) : Int32 := (if (M_fails σ (M_culprit_j5 σ p1)) = (0 : Int32) then (M_culprit_L28 σ p1 (fun a28_2 a28_3 => a28_2) (ix (σ 13 0)) 0 (-1 : Int32) (0 : Int32)) else (0 : Int32))
def M_culprit_s (σ : St) (p1 : Int32) : St := (if (M_fails σ (M_culprit_j5 σ p1)) = (0 : Int32) then (M_culprit_L28_s σ p1 (fun a28_2 a28_3 => (M_fails_s σ (M_culprit_j5 σ p1))) (ix (σ 13 0)) 0 (-1 : Int32) (0 : Int32)) else (M_fails_s σ (M_culprit_j5 σ p1)))
theorem ok_culprit0 {σ : St} {p1 : Int32} (hI : Inv σ) (c : M_fails σ (M_culprit_j5 σ p1) = 0) : vp_in p1 64 := by
  refine isPlace_in (fun q => ?_)
  exact fz c (by unfold M_culprit_j5; simp [q])
theorem cw_X11_culprit : Cond.instanceMethod yX11_culprit ∈ GW ∧ Cond.selects RX11 yX11_culprit yX11_culprit ∈ GW ∧ Cond.initialized RX11 ∈ GW ∧ Cond.code yX11_culprit cX11_culprit 6 (some .int) ∈ GW ∧ yX11_culprit.cls = RX11 ∧ (yX11_culprit.cls ≠ "java/lang/invoke/MethodHandle" ∧ yX11_culprit.cls ≠ "java/lang/invoke/VarHandle") ∧ (parseMethodDescriptor yX11_culprit.desc).map (fun d => d.parameters.length) = some 1 := ⟨gw_6_104, gw_6_105, gw_1_14, gw_6_106, rfl, ⟨by decide, by decide⟩, by decide +kernel⟩
set_option maxRecDepth 100000 in
set_option maxHeartbeats 4000000 in
theorem c_M_culprit {l : Launch} {D : va_G} {ca : Nat → Nat} {h : fH} {m : Nat} {ρ : Nat → Nat} {σ : St} (hR : RM ca h m ρ σ) (hI : Inv σ) (p1 : Int32) : FM l D ca yX11_culprit (.code yX11_culprit cX11_culprit 6 (some .int)) { frames := 4, cells := 0, slots := 0, locals := 95 } [.ref m, .int p1] h (pIM (M_culprit σ p1) (fun h2 => RM ca h2 m ρ (M_culprit_s σ p1))) noX := by
  refine FM.of [some (.ref m), some (.int p1), none, none, none, none] (by decide) (Nat.le_of_ble_eq_true rfl) rfl ?_
  rintro K X rfl rfl rfl
  have q_v : (M_culprit σ p1) = (if (M_fails σ (M_culprit_j5 σ p1)) = (0 : Int32) then (M_culprit_L28 σ p1 (fun a28_2 a28_3 => a28_2) (ix (σ 13 0)) 0 (-1 : Int32) (0 : Int32)) else (0 : Int32)) := rfl
  have q_s : (M_culprit_s σ p1) = (if (M_fails σ (M_culprit_j5 σ p1)) = (0 : Int32) then (M_culprit_L28_s σ p1 (fun a28_2 a28_3 => (M_fails_s σ (M_culprit_j5 σ p1))) (ix (σ 13 0)) 0 (-1 : Int32) (0 : Int32)) else (M_fails_s σ (M_culprit_j5 σ p1))) := rfl
  refine J_aload_0 X dX11_culprit_0 ?_
  refine J_iload_1 X dX11_culprit_1 ?_
  refine J_callS X (c_M_isPlace p1) (And.intro gw_5_145 cw_X11_isPlace) rfl rfl (Nat.le_of_ble_eq_true rfl) dX11_culprit_2 rfl (J.pi ?_) JE.no
  have K5_13 : ∀ (v5_0 : Int32), v5_0 = (M_culprit_j5 σ p1) → J K h [some (.ref m), some (.int p1), none, none, none, none] [.int v5_0, .ref m] 13 0 0 := by
    intro v5_0 ev5_0
    try rw [ev5_0]
    clear ev5_0
    refine J_callV X (c_M_fails hR (M_culprit_j5 σ p1)) (And.intro gw_5_151 cw_X11_fails) hR.1 rfl rfl rfl (Nat.le_of_ble_eq_true rfl) dX11_culprit_13 rfl (J.pim (fun h1 hR1 => ?_)) JE.no
    have hI1 : Inv (M_fails_s σ (M_culprit_j5 σ p1)) := (Inv_fails hI)
    refine J_if_eq (tgt := 21) X dX11_culprit_16 (by decide) (fun c16 => ?_) (fun c16 => ?_)
    · skip
      rw [if_pos c16] at q_v
      rw [if_pos c16] at q_s
      have hp := ok_culprit0 hI c16
      refine J_iconst (v := -1) X dX11_culprit_21 rfl ?_
      refine J_istore_2 X dX11_culprit_22 rfl (by decide) ?_
      refine J_iconst (v := 0) X dX11_culprit_23 rfl ?_
      refine J_istore_3 X dX11_culprit_24 rfl (by decide) ?_
      refine J_iconst (v := 0) X dX11_culprit_25 rfl ?_
      refine J_istore_4 X dX11_culprit_26 rfl (by decide) ?_
      have hle := (cnt (N := 40) (hI 13 0) (by decide)).2
      obtain ⟨K28, hK28⟩ : ∃ f : Int32 → Int32 → Int32, f = (fun a28_2 a28_3 => a28_2) := ⟨_, rfl⟩
      obtain ⟨K28s, hK28s⟩ : ∃ f : Int32 → Int32 → St, f = (fun a28_2 a28_3 => (M_fails_s σ (M_culprit_j5 σ p1))) := ⟨_, rfl⟩
      have X28 : ∀ (a28_2 : Int32) (a28_3 : Int32) (_ : True), (M_culprit σ p1) = a28_2 → (M_culprit_s σ p1) = (M_fails_s σ (M_culprit_j5 σ p1)) → J K h1 [some (.ref m), some (.int p1), some (.int a28_2), some (.int a28_3), none, none] [] 78 0 0 := by
        intro a28_2 a28_3  _  q_v q_s
        refine J_iload_2 X dX11_culprit_78 ?_
        exact J_iret X rfl rfl ⟨by rw [q_v], by rw [q_s]; exact hR1⟩ dX11_culprit_79
      have L28 : ∀ (n28 k28 : Nat) (a28_2 : Int32) (a28_3 : Int32), k28 + n28 = ix (σ 13 0) → (M_culprit σ p1) = (M_culprit_L28 σ p1 K28 n28 k28 a28_2 a28_3) → (M_culprit_s σ p1) = (M_culprit_L28_s σ p1 K28s n28 k28 a28_2 a28_3) → J K h1 [some (.ref m), some (.int p1), some (.int a28_2), some (.int a28_3), some (.int (nI k28)), none] [] 28 0 0 := by
        intro n28
        induction n28 with
        | zero =>
          intro k28 a28_2 a28_3  hk28  q_v q_s
          rw [M_culprit_L28] at q_v
          rw [M_culprit_L28_s] at q_s
          refine J_iload_4 X dX11_culprit_28 ?_
          refine J_aload_0 X dX11_culprit_30 ?_
          refine JM_get X hR1 13 (by decide) rfl rfl gw_5_23 dX11_culprit_31 ?_
          refine J_icmp_ge (tgt := 78) X dX11_culprit_34 (by decide) (fun _ => ?_) (fun c => absurd (lp_exit (cnt (N := 40) (hI 13 0) (by decide)).1 (by have := (cnt (N := 40) (hI 13 0) (by decide)).2; omega) hk28) c)
          rw [hK28] at q_v
          rw [hK28s] at q_s
          refine J.subL (lv' := [some (.ref m), some (.int p1), some (.int a28_2), some (.int a28_3), none, none]) (And.intro rfl (And.intro rfl (And.intro rfl (And.intro rfl trivial)))) ?_
          exact X28 a28_2 a28_3  trivial  q_v q_s
        | succ n28 ih28 =>
          intro k28 a28_2 a28_3  hk28  q_v q_s
          rw [M_culprit_L28] at q_v
          rw [M_culprit_L28_s] at q_s
          have hlt28 : k28 < ix (σ 13 0) := by omega
          refine J_iload_4 X dX11_culprit_28 ?_
          refine J_aload_0 X dX11_culprit_30 ?_
          refine JM_get X hR1 13 (by decide) rfl rfl gw_5_23 dX11_culprit_31 ?_
          refine J_icmp_ge (tgt := 78) X dX11_culprit_34 (by decide) (fun c => absurd c (lp_stay (cnt (N := 40) (hI 13 0) (by decide)).1 (by have := (cnt (N := 40) (hI 13 0) (by decide)).2; omega) hk28)) (fun _ => ?_)
          refine J_aload_0 X dX11_culprit_37 ?_
          refine J_iload_4 X dX11_culprit_38 ?_
          refine J_iload_1 X dX11_culprit_40 ?_
          refine J_callV X (c_M_given hR1 hI1 (nI k28) p1 (vp_in_nI (N := 40) (by omega) (by decide)) hp) (And.intro gw_6_7 cw_X11_given) hR1.1 rfl rfl rfl (Nat.le_of_ble_eq_true rfl) dX11_culprit_41 rfl (J.pi ?_) JE.no
          refine J_istore_5 X dX11_culprit_44 rfl (by decide) ?_
          refine J_iload_5 X dX11_culprit_46 ?_
          refine J_iload_3 X dX11_culprit_48 ?_
          have K49_58 : ∀ (v49_0 : Int32), v49_0 = (M_culprit_j49 σ p1 k28 a28_2 a28_3) → J K h1 [some (.ref m), some (.int p1), some (.int a28_2), some (.int a28_3), some (.int (nI k28)), some (.int (M_given (M_fails_s σ (M_culprit_j5 σ p1)) (nI k28) p1))] [.int v49_0] 58 0 0 := by
            intro v49_0 ev49_0
            try rw [ev49_0]
            clear ev49_0
            refine J_istore_2 X dX11_culprit_58 rfl (by decide) ?_
            refine J_iload_5 X dX11_culprit_59 ?_
            refine J_iload_3 X dX11_culprit_61 ?_
            have K62_71 : ∀ (v62_0 : Int32), v62_0 = (M_culprit_j62 σ p1 k28 a28_2 a28_3) → J K h1 [some (.ref m), some (.int p1), some (.int (M_culprit_j49 σ p1 k28 a28_2 a28_3)), some (.int a28_3), some (.int (nI k28)), some (.int (M_given (M_fails_s σ (M_culprit_j5 σ p1)) (nI k28) p1))] [.int v62_0] 71 0 0 := by
              intro v62_0 ev62_0
              try rw [ev62_0]
              clear ev62_0
              refine J_istore_3 X dX11_culprit_71 rfl (by decide) ?_
              refine J_iinc_4 (v := (nI (k28 + 1))) X dX11_culprit_72 (nI_1 _) rfl (by decide) ?_
              refine J_goto (tgt := 28) X dX11_culprit_75 (by decide) ?_
              refine J.subL (lv' := [some (.ref m), some (.int p1), some (.int (M_culprit_j49 σ p1 k28 a28_2 a28_3)), some (.int (M_culprit_j62 σ p1 k28 a28_2 a28_3)), some (.int (nI (k28 + 1))), none]) (And.intro rfl (And.intro rfl (And.intro rfl (And.intro rfl (And.intro rfl trivial))))) ?_
              exact ih28 (k28 + 1) (M_culprit_j49 σ p1 k28 a28_2 a28_3) (M_culprit_j62 σ p1 k28 a28_2 a28_3)  (by omega)  q_v q_s
            have j62_0 : M_culprit_j62 σ p1 k28 a28_2 a28_3 = (if (M_given (M_fails_s σ (M_culprit_j5 σ p1)) (nI k28) p1) ≤ a28_3 then a28_3 else (M_given (M_fails_s σ (M_culprit_j5 σ p1)) (nI k28) p1)) := rfl
            refine J_icmp_le (tgt := 70) X dX11_culprit_62 (by decide) (fun c62 => ?_) (fun c62 => ?_)
            · skip
              rw [if_pos c62] at j62_0
              refine J_iload_3 X dX11_culprit_70 ?_
              exact K62_71 _ j62_0.symm
            · skip
              rw [if_neg c62] at j62_0
              refine J_iload_5 X dX11_culprit_65 ?_
              refine J_goto (tgt := 71) X dX11_culprit_67 (by decide) ?_
              exact K62_71 _ j62_0.symm
          have j49_0 : M_culprit_j49 σ p1 k28 a28_2 a28_3 = (if (M_given (M_fails_s σ (M_culprit_j5 σ p1)) (nI k28) p1) ≤ a28_3 then a28_2 else (nI k28)) := rfl
          refine J_icmp_le (tgt := 57) X dX11_culprit_49 (by decide) (fun c49 => ?_) (fun c49 => ?_)
          · skip
            rw [if_pos c49] at j49_0
            refine J_iload_2 X dX11_culprit_57 ?_
            exact K49_58 _ j49_0.symm
          · skip
            rw [if_neg c49] at j49_0
            refine J_iload_4 X dX11_culprit_52 ?_
            refine J_goto (tgt := 58) X dX11_culprit_54 (by decide) ?_
            exact K49_58 _ j49_0.symm
      have q_v : (M_culprit σ p1) = (M_culprit_L28 σ p1 K28 (ix (σ 13 0)) 0 (-1 : Int32) (0 : Int32)) := by rw [hK28]; exact q_v
      have q_s : (M_culprit_s σ p1) = (M_culprit_L28_s σ p1 K28s (ix (σ 13 0)) 0 (-1 : Int32) (0 : Int32)) := by rw [hK28s]; exact q_s
      exact L28 (ix (σ 13 0)) 0 (-1 : Int32) (0 : Int32)  (Nat.zero_add _)  q_v q_s
    · skip
      rw [if_neg c16] at q_v
      rw [if_neg c16] at q_s
      refine J_iconst (v := 0) X dX11_culprit_19 rfl ?_
      exact J_iret X rfl rfl ⟨by rw [q_v], by rw [q_s]; exact hR1⟩ dX11_culprit_20
  have j5_0 : M_culprit_j5 σ p1 = (if (M_isPlace p1) = (0 : Int32) then (1 : Int32) else (0 : Int32)) := rfl
  refine J_if_eq (tgt := 12) X dX11_culprit_5 (by decide) (fun c5 => ?_) (fun c5 => ?_)
  · skip
    rw [if_pos c5] at j5_0
    refine J_iconst (v := 1) X dX11_culprit_12 rfl ?_
    exact K5_13 _ j5_0.symm
  · skip
    rw [if_neg c5] at j5_0
    refine J_iconst (v := 0) X dX11_culprit_8 rfl ?_
    refine J_goto (tgt := 13) X dX11_culprit_9 (by decide) ?_
    exact K5_13 _ j5_0.symm
def M_ofVillage_j6 (σ : St) (p1 : Int32) (p2 : Int32) : Int32 := (if (M_isVillage σ p1) = (0 : Int32) then (1 : Int32) else (if (M_isIn p2 (0 : Int32) (3 : Int32)) = (0 : Int32) then (2 : Int32) else (0 : Int32)))
def M_ofVillage_j58 (σ : St) (p1 : Int32) (p2 : Int32) (k40 : Nat) (a40_3 : Int32) : Int32 := (if ((M_fails_s σ (M_ofVillage_j6 σ p1 p2)) 14 (ix (nI k40))) = p1 then (if (M_burns (M_fails_s σ (M_ofVillage_j6 σ p1 p2)) (nI k40)) = (0 : Int32) then (0 : Int32) else (1 : Int32)) else (0 : Int32))
theorem M_ofVillage_j58_b (σ : St) (p1 : Int32) (p2 : Int32) (k40 : Nat) (a40_3 : Int32) : M_ofVillage_j58 σ p1 p2 k40 a40_3 = 0 ∨ M_ofVillage_j58 σ p1 p2 k40 a40_3 = 1 := by
  unfold M_ofVillage_j58
  (repeat' split) <;> first | exact Or.inl rfl | exact Or.inr rfl
def M_ofVillage_L40 (σ : St) (p1 : Int32) (p2 : Int32) (K40 : Int32 → Int32) : Nat → Nat → Int32 → Int32
  | 0, _, a40_3 => K40 a40_3
  | n40 + 1, k40, a40_3 => (M_ofVillage_L40 σ p1 p2 K40 n40 (k40 + 1) (a40_3 + (M_ofVillage_j58 σ p1 p2 k40 a40_3)))
def M_ofVillage_L40_s (σ : St) (p1 : Int32) (p2 : Int32) (K40s : Int32 → St) : Nat → Nat → Int32 → St
  | 0, _, a40_3 => K40s a40_3
  | n40 + 1, k40, a40_3 => (M_ofVillage_L40_s σ p1 p2 K40s n40 (k40 + 1) (a40_3 + (M_ofVillage_j58 σ p1 p2 k40 a40_3)))
def M_ofVillage_j84 (σ : St) (p1 : Int32) (p2 : Int32) (a40_3 : Int32) : Int32 := (if p2 = (0 : Int32) then ((M_fails_s σ (M_ofVillage_j6 σ p1 p2)) 10 (ix p1)) else (if p2 = (1 : Int32) then (M_lampsOf (M_fails_s σ (M_ofVillage_j6 σ p1 p2)) p1) else (if p2 = (2 : Int32) then a40_3 else ((M_fails_s σ (M_ofVillage_j6 σ p1 p2)) 11 (ix p1)))))
def M_ofVillage (σ : St) (p1 : Int32) (p2 : Int32) : Int32 := (if (M_fails σ (M_ofVillage_j6 σ p1 p2)) = (0 : Int32) then (M_ofVillage_L40 σ p1 p2 (fun a40_3 => (M_ofVillage_j84 σ p1 p2 a40_3)) (ix (σ 13 0)) 0 (0 : Int32)) else (0 : Int32))
def M_ofVillage_s (σ : St) (p1 : Int32) (p2 : Int32) : St := (if (M_fails σ (M_ofVillage_j6 σ p1 p2)) = (0 : Int32) then (M_ofVillage_L40_s σ p1 p2 (fun a40_3 => (M_fails_s σ (M_ofVillage_j6 σ p1 p2))) (ix (σ 13 0)) 0 (0 : Int32)) else (M_fails_s σ (M_ofVillage_j6 σ p1 p2)))
theorem ok_ofVillage0 {σ : St} {p1 p2 : Int32} (hI : Inv σ) (c : M_fails σ (M_ofVillage_j6 σ p1 p2) = 0) : vp_in p1 5 := by
  refine isVillage_in hI (fun q => ?_)
  exact fz c (by unfold M_ofVillage_j6; simp [q])
theorem cw_X11_ofVillage : Cond.instanceMethod yX11_ofVillage ∈ GW ∧ Cond.selects RX11 yX11_ofVillage yX11_ofVillage ∈ GW ∧ Cond.initialized RX11 ∈ GW ∧ Cond.code yX11_ofVillage cX11_ofVillage 5 (some .int) ∈ GW ∧ yX11_ofVillage.cls = RX11 ∧ (yX11_ofVillage.cls ≠ "java/lang/invoke/MethodHandle" ∧ yX11_ofVillage.cls ≠ "java/lang/invoke/VarHandle") ∧ (parseMethodDescriptor yX11_ofVillage.desc).map (fun d => d.parameters.length) = some 2 := ⟨gw_6_55, gw_6_56, gw_1_14, gw_6_57, rfl, ⟨by decide, by decide⟩, by decide +kernel⟩
set_option maxRecDepth 100000 in
set_option maxHeartbeats 4000000 in
theorem c_M_ofVillage {l : Launch} {D : va_G} {ca : Nat → Nat} {h : fH} {m : Nat} {ρ : Nat → Nat} {σ : St} (hR : RM ca h m ρ σ) (hI : Inv σ) (p1 : Int32) (p2 : Int32) : FM l D ca yX11_ofVillage (.code yX11_ofVillage cX11_ofVillage 5 (some .int)) { frames := 3, cells := 0, slots := 0, locals := 63 } [.ref m, .int p1, .int p2] h (pIM (M_ofVillage σ p1 p2) (fun h2 => RM ca h2 m ρ (M_ofVillage_s σ p1 p2))) noX := by
  refine FM.of [some (.ref m), some (.int p1), some (.int p2), none, none] (by decide) (Nat.le_of_ble_eq_true rfl) rfl ?_
  rintro K X rfl rfl rfl
  have q_v : (M_ofVillage σ p1 p2) = (if (M_fails σ (M_ofVillage_j6 σ p1 p2)) = (0 : Int32) then (M_ofVillage_L40 σ p1 p2 (fun a40_3 => (M_ofVillage_j84 σ p1 p2 a40_3)) (ix (σ 13 0)) 0 (0 : Int32)) else (0 : Int32)) := rfl
  have q_s : (M_ofVillage_s σ p1 p2) = (if (M_fails σ (M_ofVillage_j6 σ p1 p2)) = (0 : Int32) then (M_ofVillage_L40_s σ p1 p2 (fun a40_3 => (M_fails_s σ (M_ofVillage_j6 σ p1 p2))) (ix (σ 13 0)) 0 (0 : Int32)) else (M_fails_s σ (M_ofVillage_j6 σ p1 p2))) := rfl
  refine J_aload_0 X dX11_ofVillage_0 ?_
  refine J_aload_0 X dX11_ofVillage_1 ?_
  refine J_iload_1 X dX11_ofVillage_2 ?_
  refine J_callV X (c_M_isVillage hR p1) (And.intro gw_5_190 cw_X11_isVillage) hR.1 rfl rfl rfl (Nat.le_of_ble_eq_true rfl) dX11_ofVillage_3 rfl (J.pi ?_) JE.no
  have K6_27 : ∀ (v6_0 : Int32), v6_0 = (M_ofVillage_j6 σ p1 p2) → J K h [some (.ref m), some (.int p1), some (.int p2), none, none] [.int v6_0, .ref m] 27 0 0 := by
    intro v6_0 ev6_0
    try rw [ev6_0]
    clear ev6_0
    refine J_callV X (c_M_fails hR (M_ofVillage_j6 σ p1 p2)) (And.intro gw_5_151 cw_X11_fails) hR.1 rfl rfl rfl (Nat.le_of_ble_eq_true rfl) dX11_ofVillage_27 rfl (J.pim (fun h1 hR1 => ?_)) JE.no
    have hI1 : Inv (M_fails_s σ (M_ofVillage_j6 σ p1 p2)) := (Inv_fails hI)
    refine J_if_eq (tgt := 35) X dX11_ofVillage_30 (by decide) (fun c30 => ?_) (fun c30 => ?_)
    · skip
      rw [if_pos c30] at q_v
      rw [if_pos c30] at q_s
      have hp := ok_ofVillage0 hI c30
      refine J_iconst (v := 0) X dX11_ofVillage_35 rfl ?_
      refine J_istore_3 X dX11_ofVillage_36 rfl (by decide) ?_
      refine J_iconst (v := 0) X dX11_ofVillage_37 rfl ?_
      refine J_istore_4 X dX11_ofVillage_38 rfl (by decide) ?_
      have hle := (cnt (N := 40) (hI 13 0) (by decide)).2
      obtain ⟨K40, hK40⟩ : ∃ f : Int32 → Int32, f = (fun a40_3 => (M_ofVillage_j84 σ p1 p2 a40_3)) := ⟨_, rfl⟩
      obtain ⟨K40s, hK40s⟩ : ∃ f : Int32 → St, f = (fun a40_3 => (M_fails_s σ (M_ofVillage_j6 σ p1 p2))) := ⟨_, rfl⟩
      have X40 : ∀ (a40_3 : Int32) (_ : True), (M_ofVillage σ p1 p2) = (M_ofVillage_j84 σ p1 p2 a40_3) → (M_ofVillage_s σ p1 p2) = (M_fails_s σ (M_ofVillage_j6 σ p1 p2)) → J K h1 [some (.ref m), some (.int p1), some (.int p2), some (.int a40_3), none] [] 83 0 0 := by
        intro a40_3  _  q_v q_s
        refine J_iload_2 X dX11_ofVillage_83 ?_
        have K84_124 : ∀ (v84_0 : Int32), v84_0 = (M_ofVillage_j84 σ p1 p2 a40_3) → J K h1 [some (.ref m), some (.int p1), some (.int p2), some (.int a40_3), none] [.int v84_0] 124 0 0 := by
          intro v84_0 ev84_0
          try rw [ev84_0]
          clear ev84_0
          exact J_iret X rfl rfl ⟨by rw [q_v], by rw [q_s]; exact hR1⟩ dX11_ofVillage_124
        have j84_0 : M_ofVillage_j84 σ p1 p2 a40_3 = (if p2 = (0 : Int32) then ((M_fails_s σ (M_ofVillage_j6 σ p1 p2)) 10 (ix p1)) else (if p2 = (1 : Int32) then (M_lampsOf (M_fails_s σ (M_ofVillage_j6 σ p1 p2)) p1) else (if p2 = (2 : Int32) then a40_3 else ((M_fails_s σ (M_ofVillage_j6 σ p1 p2)) 11 (ix p1))))) := rfl
        refine J_if_ne (tgt := 96) X dX11_ofVillage_84 (by decide) (fun c84 => ?_) (fun c84 => ?_)
        · skip
          rw [if_neg c84] at j84_0
          refine J_iload_2 X dX11_ofVillage_96 ?_
          refine J_iconst (v := 1) X dX11_ofVillage_97 rfl ?_
          refine J_icmp_ne (tgt := 109) X dX11_ofVillage_98 (by decide) (fun c98 => ?_) (fun c98 => ?_)
          · skip
            rw [if_neg c98] at j84_0
            refine J_iload_2 X dX11_ofVillage_109 ?_
            refine J_iconst (v := 2) X dX11_ofVillage_110 rfl ?_
            refine J_icmp_ne (tgt := 118) X dX11_ofVillage_111 (by decide) (fun c111 => ?_) (fun c111 => ?_)
            · skip
              rw [if_neg c111] at j84_0
              refine J_aload_0 X dX11_ofVillage_118 ?_
              refine JM_get X hR1 11 (by decide) rfl rfl gw_5_21 dX11_ofVillage_119 ?_
              refine J_iload_1 X dX11_ofVillage_122 ?_
              refine JM_ald X hR1 11 rfl rfl hp dX11_ofVillage_123 ?_
              exact K84_124 _ j84_0.symm
            · skip
              rw [if_pos c111] at j84_0
              refine J_iload_3 X dX11_ofVillage_114 ?_
              refine J_goto (tgt := 124) X dX11_ofVillage_115 (by decide) ?_
              exact K84_124 _ j84_0.symm
          · skip
            rw [if_pos c98] at j84_0
            refine J_aload_0 X dX11_ofVillage_101 ?_
            refine J_iload_1 X dX11_ofVillage_102 ?_
            refine J_callV X (c_M_lampsOf hR1 hI1 p1) (And.intro gw_5_194 cw_X11_lampsOf) hR1.1 rfl rfl rfl (Nat.le_of_ble_eq_true rfl) dX11_ofVillage_103 rfl (J.pi ?_) JE.no
            refine J_goto (tgt := 124) X dX11_ofVillage_106 (by decide) ?_
            exact K84_124 _ j84_0.symm
        · skip
          rw [if_pos c84] at j84_0
          refine J_aload_0 X dX11_ofVillage_87 ?_
          refine JM_get X hR1 10 (by decide) rfl rfl gw_5_20 dX11_ofVillage_88 ?_
          refine J_iload_1 X dX11_ofVillage_91 ?_
          refine JM_ald X hR1 10 rfl rfl hp dX11_ofVillage_92 ?_
          refine J_goto (tgt := 124) X dX11_ofVillage_93 (by decide) ?_
          exact K84_124 _ j84_0.symm
      have L40 : ∀ (n40 k40 : Nat) (a40_3 : Int32), k40 + n40 = ix (σ 13 0) → (M_ofVillage σ p1 p2) = (M_ofVillage_L40 σ p1 p2 K40 n40 k40 a40_3) → (M_ofVillage_s σ p1 p2) = (M_ofVillage_L40_s σ p1 p2 K40s n40 k40 a40_3) → J K h1 [some (.ref m), some (.int p1), some (.int p2), some (.int a40_3), some (.int (nI k40))] [] 40 0 0 := by
        intro n40
        induction n40 with
        | zero =>
          intro k40 a40_3  hk40  q_v q_s
          rw [M_ofVillage_L40] at q_v
          rw [M_ofVillage_L40_s] at q_s
          refine J_iload_4 X dX11_ofVillage_40 ?_
          refine J_aload_0 X dX11_ofVillage_42 ?_
          refine JM_get X hR1 13 (by decide) rfl rfl gw_5_23 dX11_ofVillage_43 ?_
          refine J_icmp_ge (tgt := 83) X dX11_ofVillage_46 (by decide) (fun _ => ?_) (fun c => absurd (lp_exit (cnt (N := 40) (hI 13 0) (by decide)).1 (by have := (cnt (N := 40) (hI 13 0) (by decide)).2; omega) hk40) c)
          rw [hK40] at q_v
          rw [hK40s] at q_s
          refine J.subL (lv' := [some (.ref m), some (.int p1), some (.int p2), some (.int a40_3), none]) (And.intro rfl (And.intro rfl (And.intro rfl (And.intro rfl trivial)))) ?_
          exact X40 a40_3  trivial  q_v q_s
        | succ n40 ih40 =>
          intro k40 a40_3  hk40  q_v q_s
          rw [M_ofVillage_L40] at q_v
          rw [M_ofVillage_L40_s] at q_s
          have hlt40 : k40 < ix (σ 13 0) := by omega
          refine J_iload_4 X dX11_ofVillage_40 ?_
          refine J_aload_0 X dX11_ofVillage_42 ?_
          refine JM_get X hR1 13 (by decide) rfl rfl gw_5_23 dX11_ofVillage_43 ?_
          refine J_icmp_ge (tgt := 83) X dX11_ofVillage_46 (by decide) (fun c => absurd c (lp_stay (cnt (N := 40) (hI 13 0) (by decide)).1 (by have := (cnt (N := 40) (hI 13 0) (by decide)).2; omega) hk40)) (fun _ => ?_)
          refine J_iload_3 X dX11_ofVillage_49 ?_
          refine J_aload_0 X dX11_ofVillage_50 ?_
          refine JM_get X hR1 14 (by decide) rfl rfl gw_5_24 dX11_ofVillage_51 ?_
          refine J_iload_4 X dX11_ofVillage_54 ?_
          refine JM_ald X hR1 14 rfl rfl (vp_in_nI (N := 40) (by omega) (by decide)) dX11_ofVillage_56 ?_
          refine J_iload_1 X dX11_ofVillage_57 ?_
          have K58_75 : ∀ (v58_0 : Int32), v58_0 = (M_ofVillage_j58 σ p1 p2 k40 a40_3) → J K h1 [some (.ref m), some (.int p1), some (.int p2), some (.int a40_3), some (.int (nI k40))] [.int v58_0, .int a40_3] 75 0 0 := by
            intro v58_0 ev58_0
            try rw [ev58_0]
            clear ev58_0
            refine J_iadd X dX11_ofVillage_75 ?_
            refine J_istore_3 X dX11_ofVillage_76 rfl (by decide) ?_
            refine J_iinc_4 (v := (nI (k40 + 1))) X dX11_ofVillage_77 (nI_1 _) rfl (by decide) ?_
            refine J_goto (tgt := 40) X dX11_ofVillage_80 (by decide) ?_
            exact ih40 (k40 + 1) (a40_3 + (M_ofVillage_j58 σ p1 p2 k40 a40_3))  (by omega)  q_v q_s
          have j58_0 : M_ofVillage_j58 σ p1 p2 k40 a40_3 = (if ((M_fails_s σ (M_ofVillage_j6 σ p1 p2)) 14 (ix (nI k40))) = p1 then (if (M_burns (M_fails_s σ (M_ofVillage_j6 σ p1 p2)) (nI k40)) = (0 : Int32) then (0 : Int32) else (1 : Int32)) else (0 : Int32)) := rfl
          refine J_icmp_ne (tgt := 74) X dX11_ofVillage_58 (by decide) (fun c58 => ?_) (fun c58 => ?_)
          · skip
            rw [if_neg c58] at j58_0
            refine J_iconst (v := 0) X dX11_ofVillage_74 rfl ?_
            exact K58_75 _ j58_0.symm
          · skip
            rw [if_pos c58] at j58_0
            refine J_aload_0 X dX11_ofVillage_61 ?_
            refine J_iload_4 X dX11_ofVillage_62 ?_
            refine J_callV X (c_M_burns hR1 hI1 (nI k40) (vp_in_nI (N := 40) (by omega) (by decide))) (And.intro gw_5_178 cw_X11_burns) hR1.1 rfl rfl rfl (Nat.le_of_ble_eq_true rfl) dX11_ofVillage_64 rfl (J.pi ?_) JE.no
            refine J_if_eq (tgt := 74) X dX11_ofVillage_67 (by decide) (fun c67 => ?_) (fun c67 => ?_)
            · skip
              rw [if_pos c67] at j58_0
              refine J_iconst (v := 0) X dX11_ofVillage_74 rfl ?_
              exact K58_75 _ j58_0.symm
            · skip
              rw [if_neg c67] at j58_0
              refine J_iconst (v := 1) X dX11_ofVillage_70 rfl ?_
              refine J_goto (tgt := 75) X dX11_ofVillage_71 (by decide) ?_
              exact K58_75 _ j58_0.symm
      have q_v : (M_ofVillage σ p1 p2) = (M_ofVillage_L40 σ p1 p2 K40 (ix (σ 13 0)) 0 (0 : Int32)) := by rw [hK40]; exact q_v
      have q_s : (M_ofVillage_s σ p1 p2) = (M_ofVillage_L40_s σ p1 p2 K40s (ix (σ 13 0)) 0 (0 : Int32)) := by rw [hK40s]; exact q_s
      exact L40 (ix (σ 13 0)) 0 (0 : Int32)  (Nat.zero_add _)  q_v q_s
    · skip
      rw [if_neg c30] at q_v
      rw [if_neg c30] at q_s
      refine J_iconst (v := 0) X dX11_ofVillage_33 rfl ?_
      exact J_iret X rfl rfl ⟨by rw [q_v], by rw [q_s]; exact hR1⟩ dX11_ofVillage_34
  have j6_0 : M_ofVillage_j6 σ p1 p2 = (if (M_isVillage σ p1) = (0 : Int32) then (1 : Int32) else (if (M_isIn p2 (0 : Int32) (3 : Int32)) = (0 : Int32) then (2 : Int32) else (0 : Int32))) := rfl
  refine J_if_ne (tgt := 13) X dX11_ofVillage_6 (by decide) (fun c6 => ?_) (fun c6 => ?_)
  · skip
    rw [if_neg c6] at j6_0
    refine J_iload_2 X dX11_ofVillage_13 ?_
    refine J_iconst (v := 0) X dX11_ofVillage_14 rfl ?_
    refine J_iconst (v := 3) X dX11_ofVillage_15 rfl ?_
    refine J_callS X (c_M_isIn p2 (0 : Int32) (3 : Int32)) (And.intro gw_5_148 cw_X11_isIn) rfl rfl (Nat.le_of_ble_eq_true rfl) dX11_ofVillage_16 rfl (J.pi ?_) JE.no
    refine J_if_eq (tgt := 26) X dX11_ofVillage_19 (by decide) (fun c19 => ?_) (fun c19 => ?_)
    · skip
      rw [if_pos c19] at j6_0
      refine J_iconst (v := 2) X dX11_ofVillage_26 rfl ?_
      exact K6_27 _ j6_0.symm
    · skip
      rw [if_neg c19] at j6_0
      refine J_iconst (v := 0) X dX11_ofVillage_22 rfl ?_
      refine J_goto (tgt := 27) X dX11_ofVillage_23 (by decide) ?_
      exact K6_27 _ j6_0.symm
  · skip
    rw [if_pos c6] at j6_0
    refine J_iconst (v := 1) X dX11_ofVillage_9 rfl ?_
    refine J_goto (tgt := 27) X dX11_ofVillage_10 (by decide) ?_
    exact K6_27 _ j6_0.symm
theorem tab6 {p : Int32} (h0 : ¬ p = 0) (h1 : ¬ p = 1) (h2 : ¬ p = 2) (h3 : ¬ p = 3) (h4 : ¬ p = 4) (h5 : ¬ p = 5) : p.toInt < 0 ∨ 5 < p.toInt := by
  have g : ∀ k : Int32, ¬ p = k → ¬ p.toInt = k.toInt := fun k h z => h (Int32.toInt_inj.mp z)
  have g0 := g 0 h0
  have g1 := g 1 h1
  have g2 := g 2 h2
  have g3 := g 3 h3
  have g4 := g 4 h4
  have g5 := g 5 h5
  rw [show (0 : Int32).toInt = 0 from rfl] at g0
  rw [show (1 : Int32).toInt = 1 from rfl] at g1
  rw [show (2 : Int32).toInt = 2 from rfl] at g2
  rw [show (3 : Int32).toInt = 3 from rfl] at g3
  rw [show (4 : Int32).toInt = 4 from rfl] at g4
  rw [show (5 : Int32).toInt = 5 from rfl] at g5
  omega
def M_ofLamp_j6 (σ : St) (p1 : Int32) (p2 : Int32) : Int32 := (if (M_isLamp σ p1) = (0 : Int32) then (1 : Int32) else (if (M_isIn p2 (0 : Int32) (6 : Int32)) = (0 : Int32) then (2 : Int32) else (0 : Int32)))
def M_ofLamp_j146 (σ : St) (p1 : Int32) (p2 : Int32) : Int32 := (if (M_isUnlawful (M_fails_s σ (M_ofLamp_j6 σ p1 p2)) p1) = (0 : Int32) then (0 : Int32) else (1 : Int32))
theorem M_ofLamp_j146_b (σ : St) (p1 : Int32) (p2 : Int32) : M_ofLamp_j146 σ p1 p2 = 0 ∨ M_ofLamp_j146 σ p1 p2 = 1 := by
  unfold M_ofLamp_j146
  (repeat' split) <;> first | exact Or.inl rfl | exact Or.inr rfl
def M_ofLamp_j122 (σ : St) (p1 : Int32) (p2 : Int32) : Int32 := (if (M_isBound (M_fails_s σ (M_ofLamp_j6 σ p1 p2)) p1) = (0 : Int32) then (0 : Int32) else (((M_fails_s σ (M_ofLamp_j6 σ p1 p2)) 24 (ix p1)) - ((M_fails_s σ (M_ofLamp_j6 σ p1 p2)) 0 0)))
def M_ofLamp_j81 (σ : St) (p1 : Int32) (p2 : Int32) : Int32 := (if (M_burns (M_fails_s σ (M_ofLamp_j6 σ p1 p2)) p1) = (0 : Int32) then (0 : Int32) else (1 : Int32))
theorem M_ofLamp_j81_b (σ : St) (p1 : Int32) (p2 : Int32) : M_ofLamp_j81 σ p1 p2 = 0 ∨ M_ofLamp_j81 σ p1 p2 = 1 := by
  unfold M_ofLamp_j81
  (repeat' split) <;> first | exact Or.inl rfl | exact Or.inr rfl
def M_ofLamp (σ : St) (p1 : Int32) (p2 : Int32) : Int32 := (if (M_fails σ (M_ofLamp_j6 σ p1 p2)) = (0 : Int32) then (if p2 = 0 then (M_ofLamp_j81 σ p1 p2) else (if p2 = 1 then (M_light (M_fails_s σ (M_ofLamp_j6 σ p1 p2)) p1) else (if p2 = 2 then ((M_fails_s σ (M_ofLamp_j6 σ p1 p2)) 23 (ix p1)) else (if p2 = 3 then ((M_fails_s σ (M_ofLamp_j6 σ p1 p2)) 18 (ix p1)) else (if p2 = 4 then ((M_fails_s σ (M_ofLamp_j6 σ p1 p2)) 19 (ix p1)) else (if p2 = 5 then (M_ofLamp_j122 σ p1 p2) else (M_ofLamp_j146 σ p1 p2))))))) else (0 : Int32))
def M_ofLamp_s (σ : St) (p1 : Int32) (p2 : Int32) : St := (if (M_fails σ (M_ofLamp_j6 σ p1 p2)) = (0 : Int32) then (if p2 = 0 then (M_fails_s σ (M_ofLamp_j6 σ p1 p2)) else (if p2 = 1 then (M_fails_s σ (M_ofLamp_j6 σ p1 p2)) else (if p2 = 2 then (M_fails_s σ (M_ofLamp_j6 σ p1 p2)) else (if p2 = 3 then (M_fails_s σ (M_ofLamp_j6 σ p1 p2)) else (if p2 = 4 then (M_fails_s σ (M_ofLamp_j6 σ p1 p2)) else (if p2 = 5 then (M_fails_s σ (M_ofLamp_j6 σ p1 p2)) else (M_fails_s σ (M_ofLamp_j6 σ p1 p2)))))))) else (M_fails_s σ (M_ofLamp_j6 σ p1 p2)))
theorem ok_ofLamp0 {σ : St} {p1 p2 : Int32} (hI : Inv σ) (c : M_fails σ (M_ofLamp_j6 σ p1 p2) = 0) : vp_in p1 40 := by
  refine isLamp_in hI (fun q => ?_)
  exact fz c (by unfold M_ofLamp_j6; simp [q])
theorem cw_X11_ofLamp : Cond.instanceMethod yX11_ofLamp ∈ GW ∧ Cond.selects RX11 yX11_ofLamp yX11_ofLamp ∈ GW ∧ Cond.initialized RX11 ∈ GW ∧ Cond.code yX11_ofLamp cX11_ofLamp 3 (some .int) ∈ GW ∧ yX11_ofLamp.cls = RX11 ∧ (yX11_ofLamp.cls ≠ "java/lang/invoke/MethodHandle" ∧ yX11_ofLamp.cls ≠ "java/lang/invoke/VarHandle") ∧ (parseMethodDescriptor yX11_ofLamp.desc).map (fun d => d.parameters.length) = some 2 := ⟨gw_6_51, gw_6_52, gw_1_14, gw_6_53, rfl, ⟨by decide, by decide⟩, by decide +kernel⟩
set_option maxRecDepth 100000 in
set_option maxHeartbeats 4000000 in
theorem c_M_ofLamp {l : Launch} {D : va_G} {ca : Nat → Nat} {h : fH} {m : Nat} {ρ : Nat → Nat} {σ : St} (hR : RM ca h m ρ σ) (hI : Inv σ) (p1 : Int32) (p2 : Int32) : FM l D ca yX11_ofLamp (.code yX11_ofLamp cX11_ofLamp 3 (some .int)) { frames := 3, cells := 0, slots := 0, locals := 63 } [.ref m, .int p1, .int p2] h (pIM (M_ofLamp σ p1 p2) (fun h2 => RM ca h2 m ρ (M_ofLamp_s σ p1 p2))) noX := by
  refine FM.of [some (.ref m), some (.int p1), some (.int p2)] (by decide) (Nat.le_of_ble_eq_true rfl) rfl ?_
  rintro K X rfl rfl rfl
  have q_v : (M_ofLamp σ p1 p2) = (if (M_fails σ (M_ofLamp_j6 σ p1 p2)) = (0 : Int32) then (if p2 = 0 then (M_ofLamp_j81 σ p1 p2) else (if p2 = 1 then (M_light (M_fails_s σ (M_ofLamp_j6 σ p1 p2)) p1) else (if p2 = 2 then ((M_fails_s σ (M_ofLamp_j6 σ p1 p2)) 23 (ix p1)) else (if p2 = 3 then ((M_fails_s σ (M_ofLamp_j6 σ p1 p2)) 18 (ix p1)) else (if p2 = 4 then ((M_fails_s σ (M_ofLamp_j6 σ p1 p2)) 19 (ix p1)) else (if p2 = 5 then (M_ofLamp_j122 σ p1 p2) else (M_ofLamp_j146 σ p1 p2))))))) else (0 : Int32)) := rfl
  have q_s : (M_ofLamp_s σ p1 p2) = (if (M_fails σ (M_ofLamp_j6 σ p1 p2)) = (0 : Int32) then (if p2 = 0 then (M_fails_s σ (M_ofLamp_j6 σ p1 p2)) else (if p2 = 1 then (M_fails_s σ (M_ofLamp_j6 σ p1 p2)) else (if p2 = 2 then (M_fails_s σ (M_ofLamp_j6 σ p1 p2)) else (if p2 = 3 then (M_fails_s σ (M_ofLamp_j6 σ p1 p2)) else (if p2 = 4 then (M_fails_s σ (M_ofLamp_j6 σ p1 p2)) else (if p2 = 5 then (M_fails_s σ (M_ofLamp_j6 σ p1 p2)) else (M_fails_s σ (M_ofLamp_j6 σ p1 p2)))))))) else (M_fails_s σ (M_ofLamp_j6 σ p1 p2))) := rfl
  refine J_aload_0 X dX11_ofLamp_0 ?_
  refine J_aload_0 X dX11_ofLamp_1 ?_
  refine J_iload_1 X dX11_ofLamp_2 ?_
  refine J_callV X (c_M_isLamp hR p1) (And.intro gw_5_203 cw_X11_isLamp) hR.1 rfl rfl rfl (Nat.le_of_ble_eq_true rfl) dX11_ofLamp_3 rfl (J.pi ?_) JE.no
  have K6_28 : ∀ (v6_0 : Int32), v6_0 = (M_ofLamp_j6 σ p1 p2) → J K h [some (.ref m), some (.int p1), some (.int p2)] [.int v6_0, .ref m] 28 0 0 := by
    intro v6_0 ev6_0
    try rw [ev6_0]
    clear ev6_0
    refine J_callV X (c_M_fails hR (M_ofLamp_j6 σ p1 p2)) (And.intro gw_5_151 cw_X11_fails) hR.1 rfl rfl rfl (Nat.le_of_ble_eq_true rfl) dX11_ofLamp_28 rfl (J.pim (fun h1 hR1 => ?_)) JE.no
    have hI1 : Inv (M_fails_s σ (M_ofLamp_j6 σ p1 p2)) := (Inv_fails hI)
    refine J_if_eq (tgt := 36) X dX11_ofLamp_31 (by decide) (fun c31 => ?_) (fun c31 => ?_)
    · skip
      rw [if_pos c31] at q_v
      rw [if_pos c31] at q_s
      have hp := ok_ofLamp0 hI c31
      refine J_iload_2 X dX11_ofLamp_36 ?_
      by_cases c37_0 : p2 = 0
      · skip
        rw [if_pos c37_0] at q_v
        rw [if_pos c37_0] at q_s
        refine J.eqi c37_0 ?_
        refine J_tabIn (tgt := 76) X dX11_ofLamp_37 (by decide) (by decide) rfl (by decide) ?_
        refine J_aload_0 X dX11_ofLamp_76 ?_
        refine J_iload_1 X dX11_ofLamp_77 ?_
        refine J_callV X (c_M_burns hR1 hI1 p1 hp) (And.intro gw_5_178 cw_X11_burns) hR1.1 rfl rfl rfl (Nat.le_of_ble_eq_true rfl) dX11_ofLamp_78 rfl (J.pi ?_) JE.no
        have K81_89 : ∀ (v81_0 : Int32), v81_0 = (M_ofLamp_j81 σ p1 p2) → J K h1 [some (.ref m), some (.int p1), some (.int p2)] [.int v81_0] 89 0 0 := by
          intro v81_0 ev81_0
          try rw [ev81_0]
          clear ev81_0
          exact J_iret X rfl rfl ⟨by rw [q_v], by rw [q_s]; exact hR1⟩ dX11_ofLamp_89
        have j81_0 : M_ofLamp_j81 σ p1 p2 = (if (M_burns (M_fails_s σ (M_ofLamp_j6 σ p1 p2)) p1) = (0 : Int32) then (0 : Int32) else (1 : Int32)) := rfl
        refine J_if_eq (tgt := 88) X dX11_ofLamp_81 (by decide) (fun c81 => ?_) (fun c81 => ?_)
        · skip
          rw [if_pos c81] at j81_0
          refine J_iconst (v := 0) X dX11_ofLamp_88 rfl ?_
          exact K81_89 _ j81_0.symm
        · skip
          rw [if_neg c81] at j81_0
          refine J_iconst (v := 1) X dX11_ofLamp_84 rfl ?_
          refine J_goto (tgt := 89) X dX11_ofLamp_85 (by decide) ?_
          exact K81_89 _ j81_0.symm
      rw [if_neg c37_0] at q_v
      rw [if_neg c37_0] at q_s
      by_cases c37_1 : p2 = 1
      · skip
        rw [if_pos c37_1] at q_v
        rw [if_pos c37_1] at q_s
        refine J.eqi c37_1 ?_
        refine J_tabIn (tgt := 90) X dX11_ofLamp_37 (by decide) (by decide) rfl (by decide) ?_
        refine J_aload_0 X dX11_ofLamp_90 ?_
        refine J_iload_1 X dX11_ofLamp_91 ?_
        refine J_callV X (c_M_light hR1 p1 hp) (And.intro gw_6_11 cw_X11_light) hR1.1 rfl rfl rfl (Nat.le_of_ble_eq_true rfl) dX11_ofLamp_92 rfl (J.pi ?_) JE.no
        exact J_iret X rfl rfl ⟨by rw [q_v], by rw [q_s]; exact hR1⟩ dX11_ofLamp_95
      rw [if_neg c37_1] at q_v
      rw [if_neg c37_1] at q_s
      by_cases c37_2 : p2 = 2
      · skip
        rw [if_pos c37_2] at q_v
        rw [if_pos c37_2] at q_s
        refine J.eqi c37_2 ?_
        refine J_tabIn (tgt := 96) X dX11_ofLamp_37 (by decide) (by decide) rfl (by decide) ?_
        refine J_aload_0 X dX11_ofLamp_96 ?_
        refine JM_get X hR1 23 (by decide) rfl rfl gw_5_33 dX11_ofLamp_97 ?_
        refine J_iload_1 X dX11_ofLamp_100 ?_
        refine JM_ald X hR1 23 rfl rfl hp dX11_ofLamp_101 ?_
        exact J_iret X rfl rfl ⟨by rw [q_v], by rw [q_s]; exact hR1⟩ dX11_ofLamp_102
      rw [if_neg c37_2] at q_v
      rw [if_neg c37_2] at q_s
      by_cases c37_3 : p2 = 3
      · skip
        rw [if_pos c37_3] at q_v
        rw [if_pos c37_3] at q_s
        refine J.eqi c37_3 ?_
        refine J_tabIn (tgt := 103) X dX11_ofLamp_37 (by decide) (by decide) rfl (by decide) ?_
        refine J_aload_0 X dX11_ofLamp_103 ?_
        refine JM_get X hR1 18 (by decide) rfl rfl gw_5_28 dX11_ofLamp_104 ?_
        refine J_iload_1 X dX11_ofLamp_107 ?_
        refine JM_ald X hR1 18 rfl rfl hp dX11_ofLamp_108 ?_
        exact J_iret X rfl rfl ⟨by rw [q_v], by rw [q_s]; exact hR1⟩ dX11_ofLamp_109
      rw [if_neg c37_3] at q_v
      rw [if_neg c37_3] at q_s
      by_cases c37_4 : p2 = 4
      · skip
        rw [if_pos c37_4] at q_v
        rw [if_pos c37_4] at q_s
        refine J.eqi c37_4 ?_
        refine J_tabIn (tgt := 110) X dX11_ofLamp_37 (by decide) (by decide) rfl (by decide) ?_
        refine J_aload_0 X dX11_ofLamp_110 ?_
        refine JM_get X hR1 19 (by decide) rfl rfl gw_5_29 dX11_ofLamp_111 ?_
        refine J_iload_1 X dX11_ofLamp_114 ?_
        refine JM_ald X hR1 19 rfl rfl hp dX11_ofLamp_115 ?_
        exact J_iret X rfl rfl ⟨by rw [q_v], by rw [q_s]; exact hR1⟩ dX11_ofLamp_116
      rw [if_neg c37_4] at q_v
      rw [if_neg c37_4] at q_s
      by_cases c37_5 : p2 = 5
      · skip
        rw [if_pos c37_5] at q_v
        rw [if_pos c37_5] at q_s
        refine J.eqi c37_5 ?_
        refine J_tabIn (tgt := 117) X dX11_ofLamp_37 (by decide) (by decide) rfl (by decide) ?_
        refine J_aload_0 X dX11_ofLamp_117 ?_
        refine J_iload_1 X dX11_ofLamp_118 ?_
        refine J_callV X (c_M_isBound hR1 p1 hp) (And.intro gw_5_207 cw_X11_isBound) hR1.1 rfl rfl rfl (Nat.le_of_ble_eq_true rfl) dX11_ofLamp_119 rfl (J.pi ?_) JE.no
        have K122_140 : ∀ (v122_0 : Int32), v122_0 = (M_ofLamp_j122 σ p1 p2) → J K h1 [some (.ref m), some (.int p1), some (.int p2)] [.int v122_0] 140 0 0 := by
          intro v122_0 ev122_0
          try rw [ev122_0]
          clear ev122_0
          exact J_iret X rfl rfl ⟨by rw [q_v], by rw [q_s]; exact hR1⟩ dX11_ofLamp_140
        have j122_0 : M_ofLamp_j122 σ p1 p2 = (if (M_isBound (M_fails_s σ (M_ofLamp_j6 σ p1 p2)) p1) = (0 : Int32) then (0 : Int32) else (((M_fails_s σ (M_ofLamp_j6 σ p1 p2)) 24 (ix p1)) - ((M_fails_s σ (M_ofLamp_j6 σ p1 p2)) 0 0))) := rfl
        refine J_if_eq (tgt := 139) X dX11_ofLamp_122 (by decide) (fun c122 => ?_) (fun c122 => ?_)
        · skip
          rw [if_pos c122] at j122_0
          refine J_iconst (v := 0) X dX11_ofLamp_139 rfl ?_
          exact K122_140 _ j122_0.symm
        · skip
          rw [if_neg c122] at j122_0
          refine J_aload_0 X dX11_ofLamp_125 ?_
          refine JM_get X hR1 24 (by decide) rfl rfl gw_5_34 dX11_ofLamp_126 ?_
          refine J_iload_1 X dX11_ofLamp_129 ?_
          refine JM_ald X hR1 24 rfl rfl hp dX11_ofLamp_130 ?_
          refine J_aload_0 X dX11_ofLamp_131 ?_
          refine JM_get X hR1 0 (by decide) rfl rfl gw_5_10 dX11_ofLamp_132 ?_
          refine J_isub X dX11_ofLamp_135 ?_
          refine J_goto (tgt := 140) X dX11_ofLamp_136 (by decide) ?_
          exact K122_140 _ j122_0.symm
      rw [if_neg c37_5] at q_v
      rw [if_neg c37_5] at q_s
      refine J_tabOut (tgt := 141) X dX11_ofLamp_37 (tab6 c37_0 c37_1 c37_2 c37_3 c37_4 c37_5) (by decide) ?_
      refine J_aload_0 X dX11_ofLamp_141 ?_
      refine J_iload_1 X dX11_ofLamp_142 ?_
      refine J_callV X (c_M_isUnlawful hR1 hI1 p1 hp) (And.intro gw_5_227 cw_X11_isUnlawful) hR1.1 rfl rfl rfl (Nat.le_of_ble_eq_true rfl) dX11_ofLamp_143 rfl (J.pi ?_) JE.no
      have K146_154 : ∀ (v146_0 : Int32), v146_0 = (M_ofLamp_j146 σ p1 p2) → J K h1 [some (.ref m), some (.int p1), some (.int p2)] [.int v146_0] 154 0 0 := by
        intro v146_0 ev146_0
        try rw [ev146_0]
        clear ev146_0
        exact J_iret X rfl rfl ⟨by rw [q_v], by rw [q_s]; exact hR1⟩ dX11_ofLamp_154
      have j146_0 : M_ofLamp_j146 σ p1 p2 = (if (M_isUnlawful (M_fails_s σ (M_ofLamp_j6 σ p1 p2)) p1) = (0 : Int32) then (0 : Int32) else (1 : Int32)) := rfl
      refine J_if_eq (tgt := 153) X dX11_ofLamp_146 (by decide) (fun c146 => ?_) (fun c146 => ?_)
      · skip
        rw [if_pos c146] at j146_0
        refine J_iconst (v := 0) X dX11_ofLamp_153 rfl ?_
        exact K146_154 _ j146_0.symm
      · skip
        rw [if_neg c146] at j146_0
        refine J_iconst (v := 1) X dX11_ofLamp_149 rfl ?_
        refine J_goto (tgt := 154) X dX11_ofLamp_150 (by decide) ?_
        exact K146_154 _ j146_0.symm
    · skip
      rw [if_neg c31] at q_v
      rw [if_neg c31] at q_s
      refine J_iconst (v := 0) X dX11_ofLamp_34 rfl ?_
      exact J_iret X rfl rfl ⟨by rw [q_v], by rw [q_s]; exact hR1⟩ dX11_ofLamp_35
  have j6_0 : M_ofLamp_j6 σ p1 p2 = (if (M_isLamp σ p1) = (0 : Int32) then (1 : Int32) else (if (M_isIn p2 (0 : Int32) (6 : Int32)) = (0 : Int32) then (2 : Int32) else (0 : Int32))) := rfl
  refine J_if_ne (tgt := 13) X dX11_ofLamp_6 (by decide) (fun c6 => ?_) (fun c6 => ?_)
  · skip
    rw [if_neg c6] at j6_0
    refine J_iload_2 X dX11_ofLamp_13 ?_
    refine J_iconst (v := 0) X dX11_ofLamp_14 rfl ?_
    refine J_bipush (v := (6 : Int32)) X dX11_ofLamp_15 (by decide) ?_
    refine J_callS X (c_M_isIn p2 (0 : Int32) (6 : Int32)) (And.intro gw_5_148 cw_X11_isIn) rfl rfl (Nat.le_of_ble_eq_true rfl) dX11_ofLamp_17 rfl (J.pi ?_) JE.no
    refine J_if_eq (tgt := 27) X dX11_ofLamp_20 (by decide) (fun c20 => ?_) (fun c20 => ?_)
    · skip
      rw [if_pos c20] at j6_0
      refine J_iconst (v := 2) X dX11_ofLamp_27 rfl ?_
      exact K6_28 _ j6_0.symm
    · skip
      rw [if_neg c20] at j6_0
      refine J_iconst (v := 0) X dX11_ofLamp_23 rfl ?_
      refine J_goto (tgt := 28) X dX11_ofLamp_24 (by decide) ?_
      exact K6_28 _ j6_0.symm
  · skip
    rw [if_pos c6] at j6_0
    refine J_iconst (v := 1) X dX11_ofLamp_9 rfl ?_
    refine J_goto (tgt := 28) X dX11_ofLamp_10 (by decide) ?_
    exact K6_28 _ j6_0.symm
end
