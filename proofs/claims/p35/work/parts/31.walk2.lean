noncomputable section
theorem cntUp {v : Int32} (h : vp_in v 65) (hl : v < 64) : vp_in (v + 1) 65 := by
  obtain ⟨e, hle⟩ := cnt (N := 64) h (by decide)
  have h1 : ¬ ix v = 64 := fun z => by
    rw [e, z] at hl
    exact absurd hl (by decide)
  rw [e, nI_1]
  exact vp_in_nI (by omega) (by decide)
theorem cnt_exit {v : Int32} {N k : Nat} (h : vp_in v (N + 1)) (hN : N < 1000000) (hk : N ≤ k) (hk2 : k < 1000000) : v ≤ nI k := by
  obtain ⟨e, hle⟩ := cnt (N := N) h hN
  rw [e]
  exact (nI_leI (by omega) (by omega)).mpr (by omega)
theorem shl1 {c : Int32} (h : vp_in c 11) : 1 ≤ ix ((1 : Int32) <<< (c &&& 31)) := by
  obtain ⟨e, hle⟩ := cnt (N := 10) h (by decide)
  rw [e]
  have q : ∀ j : Fin 11, 1 ≤ ix ((1 : Int32) <<< (nI j &&& 31)) := by decide +kernel
  exact q ⟨ix c, by omega⟩
theorem reach_cnt {σ μ : St} {a b c : Int32} (h : vp_in (μ 1 0) 65) : vp_in (X_reach_s σ μ a b c 1 0) 65 := by
  unfold X_reach_s X_reach_j37_s
  (repeat' split) <;> first | exact h | exact cntUp h (by assumption)
theorem goOn31_cnt {σ μ : St} {a b : Int32} (h : vp_in (μ 1 0) 65) : vp_in (X_goOn_j31_s σ μ a b 1 0) 65 := by
  unfold X_goOn_j31_s
  by_cases c : (a - a / (8 : Int32) * (8 : Int32)) ≤ (0 : Int32)
  · rw [if_pos c]; exact h
  · rw [if_neg c]; exact reach_cnt h
theorem goOn47_cnt {σ μ : St} {a b : Int32} (h : vp_in (μ 1 0) 65) : vp_in (X_goOn_j47_s σ μ a b 1 0) 65 := by
  unfold X_goOn_j47_s
  by_cases c : (7 : Int32) ≤ (a - a / (8 : Int32) * (8 : Int32))
  · rw [if_pos c]; exact goOn31_cnt h
  · rw [if_neg c]; exact reach_cnt (goOn31_cnt h)
theorem goOn_cnt {σ μ : St} {a b : Int32} (h : vp_in (μ 1 0) 65) : vp_in (X_goOn_s σ μ a b 1 0) 65 := by
  unfold X_goOn_s
  by_cases c : a < (0 : Int32)
  · rw [if_pos c]; exact h
  · rw [if_neg c]
    by_cases c2 : a < (64 : Int32)
    · rw [if_pos c2]; exact reach_cnt (reach_cnt (goOn47_cnt h))
    · rw [if_neg c2]; exact h
def X_leastSteps_L23 (σ : St) (μ : St) (p1 : Int32) (p2 : Int32) (p3 : Int32) (K23 : St → Int32) : Nat → Nat → St → Int32
  | 0, _, s23 => K23 s23
  | n23 + 1, k23, s23 => (if (s23 1 0) ≤ (nI k23) then (K23 s23) else (if (64 : Int32) ≤ (nI k23) then (if p2 < (0 : Int32) then (-1 : Int32) else (if (64 : Int32) ≤ p2 then (-1 : Int32) else (s23 11 (ix p2)))) else (X_leastSteps_L23 σ μ p1 p2 p3 K23 n23 (k23 + 1) (X_goOn_s σ s23 (s23 12 (ix (nI k23))) p3))))
def X_leastSteps_L23_s (σ : St) (μ : St) (p1 : Int32) (p2 : Int32) (p3 : Int32) (K23s : St → St) : Nat → Nat → St → St
  | 0, _, s23 => K23s s23
  | n23 + 1, k23, s23 => (if (s23 1 0) ≤ (nI k23) then (K23s s23) else (if (64 : Int32) ≤ (nI k23) then (if p2 < (0 : Int32) then s23 else (if (64 : Int32) ≤ p2 then s23 else s23)) else (X_leastSteps_L23_s σ μ p1 p2 p3 K23s n23 (k23 + 1) (X_goOn_s σ s23 (s23 12 (ix (nI k23))) p3))))
def X_leastSteps (σ : St) (μ : St) (p1 : Int32) (p2 : Int32) (p3 : Int32) : Int32 := (X_leastSteps_L23 σ μ p1 p2 p3 (fun s23 => (if p2 < (0 : Int32) then (-1 : Int32) else (if (64 : Int32) ≤ p2 then (-1 : Int32) else (s23 11 (ix p2))))) n64 0 (X_reach_s σ (sS (sF μ 11 (-1 : Int32)) 1 0 (0 : Int32)) p1 (0 : Int32) p3))
def X_leastSteps_s (σ : St) (μ : St) (p1 : Int32) (p2 : Int32) (p3 : Int32) : St := (X_leastSteps_L23_s σ μ p1 p2 p3 (fun s23 => (if p2 < (0 : Int32) then s23 else (if (64 : Int32) ≤ p2 then s23 else s23))) n64 0 (X_reach_s σ (sS (sF μ 11 (-1 : Int32)) 1 0 (0 : Int32)) p1 (0 : Int32) p3))
theorem cw_X8_leastSteps : Cond.instanceMethod yX8_leastSteps ∈ GW ∧ Cond.selects RX8 yX8_leastSteps yX8_leastSteps ∈ GW ∧ Cond.initialized RX8 ∈ GW ∧ Cond.code yX8_leastSteps cX8_leastSteps 5 (some .int) ∈ GW ∧ yX8_leastSteps.cls = RX8 ∧ (yX8_leastSteps.cls ≠ "java/lang/invoke/MethodHandle" ∧ yX8_leastSteps.cls ≠ "java/lang/invoke/VarHandle") ∧ (parseMethodDescriptor yX8_leastSteps.desc).map (fun d => d.parameters.length) = some 3 := ⟨gw_4_28, gw_4_29, gw_1_6, gw_4_30, rfl, ⟨by decide, by decide⟩, by decide +kernel⟩
set_option maxRecDepth 100000 in
set_option maxHeartbeats 4000000 in
theorem c_X_leastSteps {l : Launch} {D : va_G} {ca : Nat → Nat} {h : fH} {ρ : Nat → Nat → Nat} {μ : St} {cap : Nat → Nat} {σ : St} (hR : RX ca h ρ μ cap σ) (p1 : Int32) (p2 : Int32) (p3 : Int32) : FM l D ca yX8_leastSteps (.code yX8_leastSteps cX8_leastSteps 5 (some .int)) { frames := 3, cells := 0, slots := 0, locals := 67 } [.ref (ρ 4 0), .int p1, .int p2, .int p3] h (pIM (X_leastSteps σ μ p1 p2 p3) (fun h2 => RX ca h2 ρ (X_leastSteps_s σ μ p1 p2 p3) cap σ)) noX := by
  refine FM.of [some (.ref (ρ 4 0)), some (.int p1), some (.int p2), some (.int p3), none] (by decide) (Nat.le_of_ble_eq_true rfl) rfl ?_
  rintro K X rfl rfl rfl
  have q_v : (X_leastSteps σ μ p1 p2 p3) = (X_leastSteps_L23 σ μ p1 p2 p3 (fun s23 => (if p2 < (0 : Int32) then (-1 : Int32) else (if (64 : Int32) ≤ p2 then (-1 : Int32) else (s23 11 (ix p2))))) n64 0 (X_reach_s σ (sS (sF μ 11 (-1 : Int32)) 1 0 (0 : Int32)) p1 (0 : Int32) p3)) := rfl
  have q_s : (X_leastSteps_s σ μ p1 p2 p3) = (X_leastSteps_L23_s σ μ p1 p2 p3 (fun s23 => (if p2 < (0 : Int32) then s23 else (if (64 : Int32) ≤ p2 then s23 else s23))) n64 0 (X_reach_s σ (sS (sF μ 11 (-1 : Int32)) 1 0 (0 : Int32)) p1 (0 : Int32) p3)) := rfl
  refine J_aload_0 X dX8_leastSteps_0 ?_
  refine J_get X (C := RX8) (T := TX8) (N := 4) (ref := "NightValley$Walk") hR.walk rfl 1 (by decide) rfl in_X8 gw_1_84 (fun _ z => z) dX8_leastSteps_1 ?_
  refine J_iconst (v := -1) X dX8_leastSteps_4 rfl ?_
  refine J_callS X (c_fill (hR.warr (by decide)) (-1 : Int32)) (And.intro gw_4_19 cw_J7_fill_53178) rfl rfl (Nat.le_of_ble_eq_true rfl) dX8_leastSteps_5 rfl (J.pvmX (fun h1 e => ?_)) JE.no
  have hR1 := RXm_fill1 hR (v := (-1 : Int32))
  rw [← e] at hR1
  refine J_aload_0 X dX8_leastSteps_8 ?_
  refine J_iconst (v := 0) X dX8_leastSteps_9 rfl ?_
  refine JXm_reachedCount X hR1 (v := (0 : Int32)) gw_1_86 dX8_leastSteps_10 (fun h2 hR2 => ?_)
  refine J_aload_0 X dX8_leastSteps_13 ?_
  refine J_iload_1 X dX8_leastSteps_14 ?_
  refine J_iconst (v := 0) X dX8_leastSteps_15 rfl ?_
  refine J_iload_3 X dX8_leastSteps_16 ?_
  refine J_callV X (c_X_reach hR2 p1 (0 : Int32) p3) (And.intro gw_4_31 cw_X8_reach) hR2.walk rfl rfl rfl (Nat.le_of_ble_eq_true rfl) dX8_leastSteps_17 rfl (J.pvm (fun h3 hR3 => ?_)) JE.no
  refine J_iconst (v := 0) X dX8_leastSteps_20 rfl ?_
  refine J_istore_4 X dX8_leastSteps_21 rfl (by decide) ?_
  have h64 := n64_eq
  obtain ⟨K23, hK23⟩ : ∃ f : St → Int32, f = (fun s23 => (if p2 < (0 : Int32) then (-1 : Int32) else (if (64 : Int32) ≤ p2 then (-1 : Int32) else (s23 11 (ix p2))))) := ⟨_, rfl⟩
  obtain ⟨K23s, hK23s⟩ : ∃ f : St → St, f = (fun s23 => (if p2 < (0 : Int32) then s23 else (if (64 : Int32) ≤ p2 then s23 else s23))) := ⟨_, rfl⟩
  have X23 : ∀ (s23 : St) (h23_ : fH) (_ : True), RX (kca K) h23_ ρ s23 cap σ → vp_in (s23 1 0) 65 → (X_leastSteps σ μ p1 p2 p3) = (if p2 < (0 : Int32) then (-1 : Int32) else (if (64 : Int32) ≤ p2 then (-1 : Int32) else (s23 11 (ix p2)))) → (X_leastSteps_s σ μ p1 p2 p3) = (if p2 < (0 : Int32) then s23 else (if (64 : Int32) ≤ p2 then s23 else s23)) → J K h23_ [some (.ref (ρ 4 0)), some (.int p1), some (.int p2), some (.int p3), none] [] 60 0 0 := by
    intro s23 h23_ _ hR23_ hc23 q_v q_s
    refine J_iload_2 X dX8_leastSteps_60 ?_
    refine J_if_lt (tgt := 82) X dX8_leastSteps_61 (by decide) (fun c61 => ?_) (fun c61 => ?_)
    · skip
      rw [if_pos c61] at q_v
      rw [if_pos c61] at q_s
      refine J_iconst (v := -1) X dX8_leastSteps_82 rfl ?_
      exact J_iret X rfl rfl ⟨by rw [q_v], by rw [q_s]; exact hR23_⟩ dX8_leastSteps_83
    · skip
      rw [if_neg c61] at q_v
      rw [if_neg c61] at q_s
      refine J_iload_2 X dX8_leastSteps_64 ?_
      refine J_aload_0 X dX8_leastSteps_65 ?_
      refine J_get X (C := RX8) (T := TX8) (N := 4) (ref := "NightValley$Walk") hR23_.walk rfl 1 (by decide) rfl in_X8 gw_1_84 (fun _ z => z) dX8_leastSteps_66 ?_
      refine J_alen X (v := 64) (t := 0) (hR23_.warr (by decide)) rfl rfl dX8_leastSteps_69 ?_
      refine J_icmp_ge (tgt := 82) X dX8_leastSteps_70 (by decide) (fun c70 => ?_) (fun c70 => ?_)
      · skip
        rw [if_pos c70] at q_v
        rw [if_pos c70] at q_s
        refine J_iconst (v := -1) X dX8_leastSteps_82 rfl ?_
        exact J_iret X rfl rfl ⟨by rw [q_v], by rw [q_s]; exact hR23_⟩ dX8_leastSteps_83
      · skip
        rw [if_neg c70] at q_v
        rw [if_neg c70] at q_s
        refine J_aload_0 X dX8_leastSteps_73 ?_
        refine J_get X (C := RX8) (T := TX8) (N := 4) (ref := "NightValley$Walk") hR23_.walk rfl 1 (by decide) rfl in_X8 gw_1_84 (fun _ z => z) dX8_leastSteps_74 ?_
        refine J_iload_2 X dX8_leastSteps_77 ?_
        refine J_iald X (hR23_.warr (by decide)) (vp_c c61 c70 (by decide)) dX8_leastSteps_78 ?_
        refine J_goto (tgt := 83) X dX8_leastSteps_79 (by decide) ?_
        exact J_iret X rfl rfl ⟨by rw [q_v], by rw [q_s]; exact hR23_⟩ dX8_leastSteps_83
  have L23 : ∀ (n23 k23 : Nat) (s23 : St) (h23_ : fH), k23 + n23 = n64 → RX (kca K) h23_ ρ s23 cap σ → vp_in (s23 1 0) 65 → (X_leastSteps σ μ p1 p2 p3) = (X_leastSteps_L23 σ μ p1 p2 p3 K23 n23 k23 s23) → (X_leastSteps_s σ μ p1 p2 p3) = (X_leastSteps_L23_s σ μ p1 p2 p3 K23s n23 k23 s23) → J K h23_ [some (.ref (ρ 4 0)), some (.int p1), some (.int p2), some (.int p3), some (.int (nI k23))] [] 23 0 0 := by
    intro n23
    induction n23 with
    | zero =>
      intro k23 s23 h23_ hk23 hR23_ hc23 q_v q_s
      rw [X_leastSteps_L23] at q_v
      rw [X_leastSteps_L23_s] at q_s
      refine J_iload_4 X dX8_leastSteps_23 ?_
      refine J_aload_0 X dX8_leastSteps_25 ?_
      refine J_get X (C := RX8) (T := TX8) (N := 4) (ref := "NightValley$Walk") hR23_.walk rfl 3 (by decide) rfl in_X8 gw_1_86 (fun _ z => z) dX8_leastSteps_26 ?_
      refine J_icmp_ge (tgt := 60) X dX8_leastSteps_29 (by decide) (fun _ => ?_) (fun c => absurd ((cnt_exit (N := 64) hc23 (by decide) (by omega) (by omega))) c)
      rw [hK23] at q_v
      rw [hK23s] at q_s
      refine J.subL (lv' := [some (.ref (ρ 4 0)), some (.int p1), some (.int p2), some (.int p3), none]) (And.intro rfl (And.intro rfl (And.intro rfl (And.intro rfl trivial)))) ?_
      exact X23 s23 h23_ trivial hR23_ hc23 q_v q_s
    | succ n23 ih23 =>
      intro k23 s23 h23_ hk23 hR23_ hc23 q_v q_s
      rw [X_leastSteps_L23] at q_v
      rw [X_leastSteps_L23_s] at q_s
      have hlt23 : k23 < n64 := by omega
      refine J_iload_4 X dX8_leastSteps_23 ?_
      refine J_aload_0 X dX8_leastSteps_25 ?_
      refine J_get X (C := RX8) (T := TX8) (N := 4) (ref := "NightValley$Walk") hR23_.walk rfl 3 (by decide) rfl in_X8 gw_1_86 (fun _ z => z) dX8_leastSteps_26 ?_
      refine J_icmp_ge (tgt := 60) X dX8_leastSteps_29 (by decide) (fun c29 => ?_) (fun c29 => ?_)
      · skip
        rw [if_pos c29] at q_v
        rw [if_pos c29] at q_s
        rw [hK23] at q_v
        rw [hK23s] at q_s
        refine J.subL (lv' := [some (.ref (ρ 4 0)), some (.int p1), some (.int p2), some (.int p3), none]) (And.intro rfl (And.intro rfl (And.intro rfl (And.intro rfl trivial)))) ?_
        exact X23 s23 h23_ trivial hR23_ hc23 q_v q_s
      · skip
        rw [if_neg c29] at q_v
        rw [if_neg c29] at q_s
        refine J_iload_4 X dX8_leastSteps_32 ?_
        refine J_aload_0 X dX8_leastSteps_34 ?_
        refine J_get X (C := RX8) (T := TX8) (N := 4) (ref := "NightValley$Walk") hR23_.walk rfl 2 (by decide) rfl in_X8 gw_1_85 (fun _ z => z) dX8_leastSteps_35 ?_
        refine J_alen X (v := 64) (t := 0) (hR23_.warr (by decide)) rfl rfl dX8_leastSteps_38 ?_
        refine J_icmp_ge (tgt := 60) X dX8_leastSteps_39 (by decide) (fun c39 => ?_) (fun c39 => ?_)
        · skip
          rw [if_pos c39] at q_v
          rw [if_pos c39] at q_s
          refine J_iload_2 X dX8_leastSteps_60 ?_
          refine J_if_lt (tgt := 82) X dX8_leastSteps_61 (by decide) (fun c61 => ?_) (fun c61 => ?_)
          · skip
            rw [if_pos c61] at q_v
            rw [if_pos c61] at q_s
            refine J_iconst (v := -1) X dX8_leastSteps_82 rfl ?_
            exact J_iret X rfl rfl ⟨by rw [q_v], by rw [q_s]; exact hR23_⟩ dX8_leastSteps_83
          · skip
            rw [if_neg c61] at q_v
            rw [if_neg c61] at q_s
            refine J_iload_2 X dX8_leastSteps_64 ?_
            refine J_aload_0 X dX8_leastSteps_65 ?_
            refine J_get X (C := RX8) (T := TX8) (N := 4) (ref := "NightValley$Walk") hR23_.walk rfl 1 (by decide) rfl in_X8 gw_1_84 (fun _ z => z) dX8_leastSteps_66 ?_
            refine J_alen X (v := 64) (t := 0) (hR23_.warr (by decide)) rfl rfl dX8_leastSteps_69 ?_
            refine J_icmp_ge (tgt := 82) X dX8_leastSteps_70 (by decide) (fun c70 => ?_) (fun c70 => ?_)
            · skip
              rw [if_pos c70] at q_v
              rw [if_pos c70] at q_s
              refine J_iconst (v := -1) X dX8_leastSteps_82 rfl ?_
              exact J_iret X rfl rfl ⟨by rw [q_v], by rw [q_s]; exact hR23_⟩ dX8_leastSteps_83
            · skip
              rw [if_neg c70] at q_v
              rw [if_neg c70] at q_s
              refine J_aload_0 X dX8_leastSteps_73 ?_
              refine J_get X (C := RX8) (T := TX8) (N := 4) (ref := "NightValley$Walk") hR23_.walk rfl 1 (by decide) rfl in_X8 gw_1_84 (fun _ z => z) dX8_leastSteps_74 ?_
              refine J_iload_2 X dX8_leastSteps_77 ?_
              refine J_iald X (hR23_.warr (by decide)) (vp_c c61 c70 (by decide)) dX8_leastSteps_78 ?_
              refine J_goto (tgt := 83) X dX8_leastSteps_79 (by decide) ?_
              exact J_iret X rfl rfl ⟨by rw [q_v], by rw [q_s]; exact hR23_⟩ dX8_leastSteps_83
        · skip
          rw [if_neg c39] at q_v
          rw [if_neg c39] at q_s
          refine J_aload_0 X dX8_leastSteps_42 ?_
          refine J_aload_0 X dX8_leastSteps_43 ?_
          refine J_get X (C := RX8) (T := TX8) (N := 4) (ref := "NightValley$Walk") hR23_.walk rfl 2 (by decide) rfl in_X8 gw_1_85 (fun _ z => z) dX8_leastSteps_44 ?_
          refine J_iload_4 X dX8_leastSteps_47 ?_
          refine J_iald X (hR23_.warr (by decide)) (vp_in_nI (N := 64) (by omega) (by omega)) dX8_leastSteps_49 ?_
          refine J_iload_3 X dX8_leastSteps_50 ?_
          refine J_callV X (c_X_goOn hR23_ (s23 12 (ix (nI k23))) p3) (And.intro gw_4_35 cw_X8_goOn) hR23_.walk rfl rfl rfl (Nat.le_of_ble_eq_true rfl) dX8_leastSteps_51 rfl (J.pvm (fun h4 hR4 => ?_)) JE.no
          refine J_iinc_4 (v := (nI (k23 + 1))) X dX8_leastSteps_54 (nI_1 _) rfl (by decide) ?_
          refine J_goto (tgt := 23) X dX8_leastSteps_57 (by decide) ?_
          exact ih23 (k23 + 1) (X_goOn_s σ s23 (s23 12 (ix (nI k23))) p3) h4 (by omega) hR4 (goOn_cnt hc23) q_v q_s
  have q_v : (X_leastSteps σ μ p1 p2 p3) = (X_leastSteps_L23 σ μ p1 p2 p3 K23 n64 0 (X_reach_s σ (sS (sF μ 11 (-1 : Int32)) 1 0 (0 : Int32)) p1 (0 : Int32) p3)) := by rw [hK23]; exact q_v
  have q_s : (X_leastSteps_s σ μ p1 p2 p3) = (X_leastSteps_L23_s σ μ p1 p2 p3 K23s n64 0 (X_reach_s σ (sS (sF μ 11 (-1 : Int32)) 1 0 (0 : Int32)) p1 (0 : Int32) p3)) := by rw [hK23s]; exact q_s
  exact L23 n64 0 (X_reach_s σ (sS (sF μ 11 (-1 : Int32)) 1 0 (0 : Int32)) p1 (0 : Int32) p3) h3 (Nat.zero_add _) hR3 (reach_cnt (vp_in_nI (n := 0) (N := 65) (by decide) (by decide))) q_v q_s
def X_sumOver_j28l3 (σ : St) (μ : St) (p1 : Int32) (r : Nat) (k5 : Nat) (a5_3 : Int32) : Int32 := (if ((p1 >>> ((nI k5) &&& 31)) &&& (1 : Int32)) = (1 : Int32) then (a5_3 + (μ (20 + r) (ix (nI k5)))) else a5_3)
def X_sumOver_L5 (σ : St) (μ : St) (p1 : Int32) (r : Nat) (K5 : Int32 → Int32) : Nat → Nat → Int32 → Int32
  | 0, _, a5_3 => K5 a5_3
  | n5 + 1, k5, a5_3 => (if (μ 2 0) ≤ (nI k5) then (K5 a5_3) else (if (10 : Int32) ≤ (nI k5) then a5_3 else (X_sumOver_L5 σ μ p1 r K5 n5 (k5 + 1) (X_sumOver_j28l3 σ μ p1 r k5 a5_3))))
def X_sumOver (σ : St) (μ : St) (p1 : Int32) (r : Nat) : Int32 := (X_sumOver_L5 σ μ p1 r (fun a5_3 => a5_3) n10 0 (0 : Int32))
theorem cw_X0_sumOver : Cond.instanceMethod yX0_sumOver ∈ GW ∧ Cond.selects RX0 yX0_sumOver yX0_sumOver ∈ GW ∧ Cond.initialized RX0 ∈ GW ∧ Cond.code yX0_sumOver cX0_sumOver 5 (some .int) ∈ GW ∧ yX0_sumOver.cls = RX0 ∧ (yX0_sumOver.cls ≠ "java/lang/invoke/MethodHandle" ∧ yX0_sumOver.cls ≠ "java/lang/invoke/VarHandle") ∧ (parseMethodDescriptor yX0_sumOver.desc).map (fun d => d.parameters.length) = some 2 := ⟨gw_4_70, gws_21, gw_1_7, gw_4_71, rfl, ⟨by decide, by decide⟩, by decide +kernel⟩
set_option maxRecDepth 100000 in
set_option maxHeartbeats 4000000 in
theorem c_X_sumOver {l : Launch} {D : va_G} {ca : Nat → Nat} {h : fH} {ρ : Nat → Nat → Nat} {μ : St} {cap : Nat → Nat} {σ : St} (hR : RX ca h ρ μ cap σ) (p1 : Int32) (r : Nat) (hr : r < 2) (hc : vp_in (μ 2 0) 11) : FM l D ca yX0_sumOver (.code yX0_sumOver cX0_sumOver 5 (some .int)) { frames := 1, cells := 0, slots := 0, locals := 20 } [.ref (ρ 5 0), .int p1, .ref (ρ 15 r)] h (pI (X_sumOver σ μ p1 r) h) noX := by
  refine FM.of [some (.ref (ρ 5 0)), some (.int p1), some (.ref (ρ 15 r)), none, none] (by decide) (Nat.le_of_ble_eq_true rfl) rfl ?_
  rintro K X rfl rfl rfl
  have q_v : (X_sumOver σ μ p1 r) = (X_sumOver_L5 σ μ p1 r (fun a5_3 => a5_3) n10 0 (0 : Int32)) := rfl
  refine J_iconst (v := 0) X dX0_sumOver_0 rfl ?_
  refine J_istore_3 X dX0_sumOver_1 rfl (by decide) ?_
  refine J_iconst (v := 0) X dX0_sumOver_2 rfl ?_
  refine J_istore_4 X dX0_sumOver_3 rfl (by decide) ?_
  have h10 := n10_eq
  obtain ⟨K5, hK5⟩ : ∃ f : Int32 → Int32, f = (fun a5_3 => a5_3) := ⟨_, rfl⟩
  have X5 : ∀ (a5_3 : Int32) (_ : True), (X_sumOver σ μ p1 r) = a5_3 → J K h [some (.ref (ρ 5 0)), some (.int p1), some (.ref (ρ 15 r)), some (.int a5_3), none] [] 44 0 0 := by
    intro a5_3  _  q_v
    refine J_iload_3 X dX0_sumOver_44 ?_
    exact J_iret X rfl rfl ⟨by rw [q_v], rfl⟩ dX0_sumOver_45
  have L5 : ∀ (n5 k5 : Nat) (a5_3 : Int32), k5 + n5 = n10 → (X_sumOver σ μ p1 r) = (X_sumOver_L5 σ μ p1 r K5 n5 k5 a5_3) → J K h [some (.ref (ρ 5 0)), some (.int p1), some (.ref (ρ 15 r)), some (.int a5_3), some (.int (nI k5))] [] 5 0 0 := by
    intro n5
    induction n5 with
    | zero =>
      intro k5 a5_3  hk5  q_v
      rw [X_sumOver_L5] at q_v
      refine J_iload_4 X dX0_sumOver_5 ?_
      refine J_aload_0 X dX0_sumOver_7 ?_
      refine J_get X (C := RX0) (T := TX0) (N := 3) (ref := "NightValley$Choice") hR.choice rfl 2 (by decide) rfl in_X0 gw_1_105 (fun _ z => z) dX0_sumOver_8 ?_
      refine J_icmp_ge (tgt := 44) X dX0_sumOver_11 (by decide) (fun _ => ?_) (fun c => absurd ((cnt_exit (N := 10) hc (by decide) (by omega) (by omega))) c)
      rw [hK5] at q_v
      refine J.subL (lv' := [some (.ref (ρ 5 0)), some (.int p1), some (.ref (ρ 15 r)), some (.int a5_3), none]) (And.intro rfl (And.intro rfl (And.intro rfl (And.intro rfl trivial)))) ?_
      exact X5 a5_3  trivial  q_v
    | succ n5 ih5 =>
      intro k5 a5_3  hk5  q_v
      rw [X_sumOver_L5] at q_v
      have hlt5 : k5 < n10 := by omega
      refine J_iload_4 X dX0_sumOver_5 ?_
      refine J_aload_0 X dX0_sumOver_7 ?_
      refine J_get X (C := RX0) (T := TX0) (N := 3) (ref := "NightValley$Choice") hR.choice rfl 2 (by decide) rfl in_X0 gw_1_105 (fun _ z => z) dX0_sumOver_8 ?_
      refine J_icmp_ge (tgt := 44) X dX0_sumOver_11 (by decide) (fun c11 => ?_) (fun c11 => ?_)
      · skip
        rw [if_pos c11] at q_v
        rw [hK5] at q_v
        refine J.subL (lv' := [some (.ref (ρ 5 0)), some (.int p1), some (.ref (ρ 15 r)), some (.int a5_3), none]) (And.intro rfl (And.intro rfl (And.intro rfl (And.intro rfl trivial)))) ?_
        exact X5 a5_3  trivial  q_v
      · skip
        rw [if_neg c11] at q_v
        refine J_iload_4 X dX0_sumOver_14 ?_
        refine J_aload_2 X dX0_sumOver_16 ?_
        refine J_alen X (v := 10) (t := 0) (hR.carr hr) rfl rfl dX0_sumOver_17 ?_
        refine J_icmp_ge (tgt := 44) X dX0_sumOver_18 (by decide) (fun c18 => ?_) (fun c18 => ?_)
        · skip
          rw [if_pos c18] at q_v
          refine J_iload_3 X dX0_sumOver_44 ?_
          exact J_iret X rfl rfl ⟨by rw [q_v], rfl⟩ dX0_sumOver_45
        · skip
          rw [if_neg c18] at q_v
          refine J_iload_1 X dX0_sumOver_21 ?_
          refine J_iload_4 X dX0_sumOver_22 ?_
          refine J_ishr X dX0_sumOver_24 ?_
          refine J_iconst (v := 1) X dX0_sumOver_25 rfl ?_
          refine J_iand X dX0_sumOver_26 ?_
          refine J_iconst (v := 1) X dX0_sumOver_27 rfl ?_
          have K28_38 : ∀ (v28_0 : Int32), v28_0 = (X_sumOver_j28l3 σ μ p1 r k5 a5_3) → J K h [some (.ref (ρ 5 0)), some (.int p1), some (.ref (ρ 15 r)), some (.int v28_0), some (.int (nI k5))] [] 38 0 0 := by
            intro v28_0 ev28_0
            try rw [ev28_0]
            clear ev28_0
            refine J_iinc_4 (v := (nI (k5 + 1))) X dX0_sumOver_38 (nI_1 _) rfl (by decide) ?_
            refine J_goto (tgt := 5) X dX0_sumOver_41 (by decide) ?_
            exact ih5 (k5 + 1) (X_sumOver_j28l3 σ μ p1 r k5 a5_3)  (by omega)  q_v
          have j28_0 : X_sumOver_j28l3 σ μ p1 r k5 a5_3 = (if ((p1 >>> ((nI k5) &&& 31)) &&& (1 : Int32)) = (1 : Int32) then (a5_3 + (μ (20 + r) (ix (nI k5)))) else a5_3) := rfl
          refine J_icmp_ne (tgt := 38) X dX0_sumOver_28 (by decide) (fun c28 => ?_) (fun c28 => ?_)
          · skip
            rw [if_neg c28] at j28_0
            exact K28_38 _ j28_0.symm
          · skip
            rw [if_pos c28] at j28_0
            refine J_iload_3 X dX0_sumOver_31 ?_
            refine J_aload_2 X dX0_sumOver_32 ?_
            refine J_iload_4 X dX0_sumOver_33 ?_
            refine J_iald X (hR.carr hr) (vp_in_nI (N := 10) (by omega) (by omega)) dX0_sumOver_35 ?_
            refine J_iadd X dX0_sumOver_36 ?_
            refine J_istore_3 X dX0_sumOver_37 rfl (by decide) ?_
            exact K28_38 _ j28_0.symm
  have q_v : (X_sumOver σ μ p1 r) = (X_sumOver_L5 σ μ p1 r K5 n10 0 (0 : Int32)) := by rw [hK5]; exact q_v
  exact L5 n10 0 (0 : Int32)  (Nat.zero_add _)  q_v
def X_best_j36 (σ : St) (μ : St) (p1 : Int32) (k10 : Nat) (a10_2 : Int32) (a10_3 : Int32) (a10_4 : Int32) : Int32 := (if p1 < (X_sumOver σ μ (nI k10) 0) then (-1 : Int32) else (X_sumOver σ μ (nI k10) 1))
def X_best_j59l2 (σ : St) (μ : St) (p1 : Int32) (k10 : Nat) (a10_2 : Int32) (a10_3 : Int32) (a10_4 : Int32) : Int32 := (if a10_4 < (X_best_j36 σ μ p1 k10 a10_2 a10_3 a10_4) then (nI k10) else (if (X_best_j36 σ μ p1 k10 a10_2 a10_3 a10_4) = a10_4 then (if a10_3 ≤ (X_sumOver σ μ (nI k10) 0) then a10_2 else (nI k10)) else a10_2))
def X_best_j59l3 (σ : St) (μ : St) (p1 : Int32) (k10 : Nat) (a10_2 : Int32) (a10_3 : Int32) (a10_4 : Int32) : Int32 := (if a10_4 < (X_best_j36 σ μ p1 k10 a10_2 a10_3 a10_4) then (X_sumOver σ μ (nI k10) 0) else (if (X_best_j36 σ μ p1 k10 a10_2 a10_3 a10_4) = a10_4 then (if a10_3 ≤ (X_sumOver σ μ (nI k10) 0) then a10_3 else (X_sumOver σ μ (nI k10) 0)) else a10_3))
def X_best_j59l4 (σ : St) (μ : St) (p1 : Int32) (k10 : Nat) (a10_2 : Int32) (a10_3 : Int32) (a10_4 : Int32) : Int32 := (if a10_4 < (X_best_j36 σ μ p1 k10 a10_2 a10_3 a10_4) then (X_best_j36 σ μ p1 k10 a10_2 a10_3 a10_4) else (if (X_best_j36 σ μ p1 k10 a10_2 a10_3 a10_4) = a10_4 then (if a10_3 ≤ (X_sumOver σ μ (nI k10) 0) then a10_4 else (X_best_j36 σ μ p1 k10 a10_2 a10_3 a10_4)) else a10_4))
def X_best_L10 (σ : St) (μ : St) (p1 : Int32) (K10 : Int32 → Int32 → Int32 → Int32) : Nat → Nat → Int32 → Int32 → Int32 → Int32
  | 0, _, a10_2, a10_3, a10_4 => K10 a10_2 a10_3 a10_4
  | n10 + 1, k10, a10_2, a10_3, a10_4 => (X_best_L10 σ μ p1 K10 n10 (k10 + 1) (X_best_j59l2 σ μ p1 k10 a10_2 a10_3 a10_4) (X_best_j59l3 σ μ p1 k10 a10_2 a10_3 a10_4) (X_best_j59l4 σ μ p1 k10 a10_2 a10_3 a10_4))
def X_best (σ : St) (μ : St) (p1 : Int32) : Int32 := (X_best_L10 σ μ p1 (fun a10_2 a10_3 a10_4 => a10_2) (ix ((1 : Int32) <<< ((μ 2 0) &&& 31)) - 1) 1 (0 : Int32) (0 : Int32) (0 : Int32))
theorem cw_X0_best : Cond.instanceMethod yX0_best ∈ GW ∧ Cond.selects RX0 yX0_best yX0_best ∈ GW ∧ Cond.initialized RX0 ∈ GW ∧ Cond.code yX0_best cX0_best 8 (some .int) ∈ GW ∧ yX0_best.cls = RX0 ∧ (yX0_best.cls ≠ "java/lang/invoke/MethodHandle" ∧ yX0_best.cls ≠ "java/lang/invoke/VarHandle") ∧ (parseMethodDescriptor yX0_best.desc).map (fun d => d.parameters.length) = some 1 := ⟨gw_4_65, gw_4_66, gw_1_7, gw_4_67, rfl, ⟨by decide, by decide⟩, by decide +kernel⟩
set_option maxRecDepth 100000 in
set_option maxHeartbeats 4000000 in
theorem c_X_best {l : Launch} {D : va_G} {ca : Nat → Nat} {h : fH} {ρ : Nat → Nat → Nat} {μ : St} {cap : Nat → Nat} {σ : St} (hR : RX ca h ρ μ cap σ) (p1 : Int32) (hc : vp_in (μ 2 0) 11) : FM l D ca yX0_best (.code yX0_best cX0_best 8 (some .int)) { frames := 2, cells := 0, slots := 0, locals := 44 } [.ref (ρ 5 0), .int p1] h (pI (X_best σ μ p1) h) noX := by
  refine FM.of [some (.ref (ρ 5 0)), some (.int p1), none, none, none, none, none, none] (by decide) (Nat.le_of_ble_eq_true rfl) rfl ?_
  rintro K X rfl rfl rfl
  have q_v : (X_best σ μ p1) = (X_best_L10 σ μ p1 (fun a10_2 a10_3 a10_4 => a10_2) (ix ((1 : Int32) <<< ((μ 2 0) &&& 31)) - 1) 1 (0 : Int32) (0 : Int32) (0 : Int32)) := rfl
  refine J_iconst (v := 0) X dX0_best_0 rfl ?_
  refine J_istore_2 X dX0_best_1 rfl (by decide) ?_
  refine J_iconst (v := 0) X dX0_best_2 rfl ?_
  refine J_istore_3 X dX0_best_3 rfl (by decide) ?_
  refine J_iconst (v := 0) X dX0_best_4 rfl ?_
  refine J_istore_4 X dX0_best_5 rfl (by decide) ?_
  refine J_iconst (v := 1) X dX0_best_7 rfl ?_
  refine J_istore_5 X dX0_best_8 rfl (by decide) ?_
  obtain ⟨K10, hK10⟩ : ∃ f : Int32 → Int32 → Int32 → Int32, f = (fun a10_2 a10_3 a10_4 => a10_2) := ⟨_, rfl⟩
  have X10 : ∀ (a10_2 : Int32) (a10_3 : Int32) (a10_4 : Int32) (_ : True), (X_best σ μ p1) = a10_2 → J K h [some (.ref (ρ 5 0)), some (.int p1), some (.int a10_2), some (.int a10_3), some (.int a10_4), none, none, none] [] 91 0 0 := by
    intro a10_2 a10_3 a10_4  _  q_v
    refine J_iload_2 X dX0_best_91 ?_
    exact J_iret X rfl rfl ⟨by rw [q_v], rfl⟩ dX0_best_92
  have L10 : ∀ (n10 k10 : Nat) (a10_2 : Int32) (a10_3 : Int32) (a10_4 : Int32), k10 + n10 = ix ((1 : Int32) <<< ((μ 2 0) &&& 31)) → (X_best σ μ p1) = (X_best_L10 σ μ p1 K10 n10 k10 a10_2 a10_3 a10_4) → J K h [some (.ref (ρ 5 0)), some (.int p1), some (.int a10_2), some (.int a10_3), some (.int a10_4), some (.int (nI k10)), none, none] [] 10 0 0 := by
    intro n10
    induction n10 with
    | zero =>
      intro k10 a10_2 a10_3 a10_4  hk10  q_v
      rw [X_best_L10] at q_v
      refine J_iload_5 X dX0_best_10 ?_
      refine J_iconst (v := 1) X dX0_best_12 rfl ?_
      refine J_aload_0 X dX0_best_13 ?_
      refine J_get X (C := RX0) (T := TX0) (N := 3) (ref := "NightValley$Choice") hR.choice rfl 2 (by decide) rfl in_X0 gw_1_105 (fun _ z => z) dX0_best_14 ?_
      refine J_ishl X dX0_best_17 ?_
      refine J_icmp_ge (tgt := 91) X dX0_best_18 (by decide) (fun _ => ?_) (fun c => absurd ((lp_exit' hk10)) c)
      rw [hK10] at q_v
      refine J.subL (lv' := [some (.ref (ρ 5 0)), some (.int p1), some (.int a10_2), some (.int a10_3), some (.int a10_4), none, none, none]) (And.intro rfl (And.intro rfl (And.intro rfl (And.intro rfl (And.intro rfl trivial))))) ?_
      exact X10 a10_2 a10_3 a10_4  trivial  q_v
    | succ n10 ih10 =>
      intro k10 a10_2 a10_3 a10_4  hk10  q_v
      rw [X_best_L10] at q_v
      have hlt10 : k10 < ix ((1 : Int32) <<< ((μ 2 0) &&& 31)) := by omega
      refine J_iload_5 X dX0_best_10 ?_
      refine J_iconst (v := 1) X dX0_best_12 rfl ?_
      refine J_aload_0 X dX0_best_13 ?_
      refine J_get X (C := RX0) (T := TX0) (N := 3) (ref := "NightValley$Choice") hR.choice rfl 2 (by decide) rfl in_X0 gw_1_105 (fun _ z => z) dX0_best_14 ?_
      refine J_ishl X dX0_best_17 ?_
      refine J_icmp_ge (tgt := 91) X dX0_best_18 (by decide) (fun c => absurd c ((lp_stay' hk10))) (fun _ => ?_)
      refine J_aload_0 X dX0_best_21 ?_
      refine J_iload_5 X dX0_best_22 ?_
      refine J_aload_0 X dX0_best_24 ?_
      refine J_get X (C := RX0) (T := TX0) (N := 3) (ref := "NightValley$Choice") hR.choice rfl 0 (by decide) rfl in_X0 gw_1_103 (fun _ z => z) dX0_best_25 ?_
      refine J_callV X (c_X_sumOver hR (nI k10) 0 (by decide) hc) (And.intro gw_4_68 cw_X0_sumOver) hR.choice rfl rfl rfl (Nat.le_of_ble_eq_true rfl) dX0_best_28 rfl (J.pi ?_) JE.no
      refine J_istore_6 X dX0_best_31 rfl (by decide) ?_
      refine J_iload_6 X dX0_best_33 ?_
      refine J_iload_1 X dX0_best_35 ?_
      have K36_53 : ∀ (v36_0 : Int32), v36_0 = (X_best_j36 σ μ p1 k10 a10_2 a10_3 a10_4) → J K h [some (.ref (ρ 5 0)), some (.int p1), some (.int a10_2), some (.int a10_3), some (.int a10_4), some (.int (nI k10)), some (.int (X_sumOver σ μ (nI k10) 0)), none] [.int v36_0] 53 0 0 := by
        intro v36_0 ev36_0
        try rw [ev36_0]
        clear ev36_0
        refine J_istore_7 X dX0_best_53 rfl (by decide) ?_
        refine J_iload_7 X dX0_best_55 ?_
        refine J_iload_4 X dX0_best_57 ?_
        have K59_85 : ∀ (v59_0 : Int32), v59_0 = (X_best_j59l2 σ μ p1 k10 a10_2 a10_3 a10_4) → ∀ (v59_1 : Int32), v59_1 = (X_best_j59l3 σ μ p1 k10 a10_2 a10_3 a10_4) → ∀ (v59_2 : Int32), v59_2 = (X_best_j59l4 σ μ p1 k10 a10_2 a10_3 a10_4) → J K h [some (.ref (ρ 5 0)), some (.int p1), some (.int v59_0), some (.int v59_1), some (.int v59_2), some (.int (nI k10)), some (.int (X_sumOver σ μ (nI k10) 0)), some (.int (X_best_j36 σ μ p1 k10 a10_2 a10_3 a10_4))] [] 85 0 0 := by
          intro v59_0 ev59_0
          try rw [ev59_0]
          clear ev59_0
          intro v59_1 ev59_1
          try rw [ev59_1]
          clear ev59_1
          intro v59_2 ev59_2
          try rw [ev59_2]
          clear ev59_2
          refine J_iinc_5 (v := (nI (k10 + 1))) X dX0_best_85 (nI_1 _) rfl (by decide) ?_
          refine J_goto (tgt := 10) X dX0_best_88 (by decide) ?_
          refine J.subL (lv' := [some (.ref (ρ 5 0)), some (.int p1), some (.int (X_best_j59l2 σ μ p1 k10 a10_2 a10_3 a10_4)), some (.int (X_best_j59l3 σ μ p1 k10 a10_2 a10_3 a10_4)), some (.int (X_best_j59l4 σ μ p1 k10 a10_2 a10_3 a10_4)), some (.int (nI (k10 + 1))), none, none]) (And.intro rfl (And.intro rfl (And.intro rfl (And.intro rfl (And.intro rfl (And.intro rfl trivial)))))) ?_
          exact ih10 (k10 + 1) (X_best_j59l2 σ μ p1 k10 a10_2 a10_3 a10_4) (X_best_j59l3 σ μ p1 k10 a10_2 a10_3 a10_4) (X_best_j59l4 σ μ p1 k10 a10_2 a10_3 a10_4)  (by omega)  q_v
        have j59_0 : X_best_j59l2 σ μ p1 k10 a10_2 a10_3 a10_4 = (if a10_4 < (X_best_j36 σ μ p1 k10 a10_2 a10_3 a10_4) then (nI k10) else (if (X_best_j36 σ μ p1 k10 a10_2 a10_3 a10_4) = a10_4 then (if a10_3 ≤ (X_sumOver σ μ (nI k10) 0) then a10_2 else (nI k10)) else a10_2)) := rfl
        have j59_1 : X_best_j59l3 σ μ p1 k10 a10_2 a10_3 a10_4 = (if a10_4 < (X_best_j36 σ μ p1 k10 a10_2 a10_3 a10_4) then (X_sumOver σ μ (nI k10) 0) else (if (X_best_j36 σ μ p1 k10 a10_2 a10_3 a10_4) = a10_4 then (if a10_3 ≤ (X_sumOver σ μ (nI k10) 0) then a10_3 else (X_sumOver σ μ (nI k10) 0)) else a10_3)) := rfl
        have j59_2 : X_best_j59l4 σ μ p1 k10 a10_2 a10_3 a10_4 = (if a10_4 < (X_best_j36 σ μ p1 k10 a10_2 a10_3 a10_4) then (X_best_j36 σ μ p1 k10 a10_2 a10_3 a10_4) else (if (X_best_j36 σ μ p1 k10 a10_2 a10_3 a10_4) = a10_4 then (if a10_3 ≤ (X_sumOver σ μ (nI k10) 0) then a10_4 else (X_best_j36 σ μ p1 k10 a10_2 a10_3 a10_4)) else a10_4)) := rfl
        refine J_icmp_gt (tgt := 75) X dX0_best_59 (by decide) (fun c59 => ?_) (fun c59 => ?_)
        · skip
          rw [if_pos c59] at j59_0
          rw [if_pos c59] at j59_1
          rw [if_pos c59] at j59_2
          refine J_iload_5 X dX0_best_75 ?_
          refine J_istore_2 X dX0_best_77 rfl (by decide) ?_
          refine J_iload_6 X dX0_best_78 ?_
          refine J_istore_3 X dX0_best_80 rfl (by decide) ?_
          refine J_iload_7 X dX0_best_81 ?_
          refine J_istore_4 X dX0_best_83 rfl (by decide) ?_
          exact K59_85 _ j59_0.symm _ j59_1.symm _ j59_2.symm
        · skip
          rw [if_neg c59] at j59_0
          rw [if_neg c59] at j59_1
          rw [if_neg c59] at j59_2
          refine J_iload_7 X dX0_best_62 ?_
          refine J_iload_4 X dX0_best_64 ?_
          refine J_icmp_ne (tgt := 85) X dX0_best_66 (by decide) (fun c66 => ?_) (fun c66 => ?_)
          · skip
            rw [if_neg c66] at j59_0
            rw [if_neg c66] at j59_1
            rw [if_neg c66] at j59_2
            exact K59_85 _ j59_0.symm _ j59_1.symm _ j59_2.symm
          · skip
            rw [if_pos c66] at j59_0
            rw [if_pos c66] at j59_1
            rw [if_pos c66] at j59_2
            refine J_iload_6 X dX0_best_69 ?_
            refine J_iload_3 X dX0_best_71 ?_
            refine J_icmp_ge (tgt := 85) X dX0_best_72 (by decide) (fun c72 => ?_) (fun c72 => ?_)
            · skip
              rw [if_pos c72] at j59_0
              rw [if_pos c72] at j59_1
              rw [if_pos c72] at j59_2
              exact K59_85 _ j59_0.symm _ j59_1.symm _ j59_2.symm
            · skip
              rw [if_neg c72] at j59_0
              rw [if_neg c72] at j59_1
              rw [if_neg c72] at j59_2
              refine J_iload_5 X dX0_best_75 ?_
              refine J_istore_2 X dX0_best_77 rfl (by decide) ?_
              refine J_iload_6 X dX0_best_78 ?_
              refine J_istore_3 X dX0_best_80 rfl (by decide) ?_
              refine J_iload_7 X dX0_best_81 ?_
              refine J_istore_4 X dX0_best_83 rfl (by decide) ?_
              exact K59_85 _ j59_0.symm _ j59_1.symm _ j59_2.symm
      have j36_0 : X_best_j36 σ μ p1 k10 a10_2 a10_3 a10_4 = (if p1 < (X_sumOver σ μ (nI k10) 0) then (-1 : Int32) else (X_sumOver σ μ (nI k10) 1)) := rfl
      refine J_icmp_gt (tgt := 52) X dX0_best_36 (by decide) (fun c36 => ?_) (fun c36 => ?_)
      · skip
        rw [if_pos c36] at j36_0
        refine J_iconst (v := -1) X dX0_best_52 rfl ?_
        exact K36_53 _ j36_0.symm
      · skip
        rw [if_neg c36] at j36_0
        refine J_aload_0 X dX0_best_39 ?_
        refine J_iload_5 X dX0_best_40 ?_
        refine J_aload_0 X dX0_best_42 ?_
        refine J_get X (C := RX0) (T := TX0) (N := 3) (ref := "NightValley$Choice") hR.choice rfl 1 (by decide) rfl in_X0 gw_1_104 (fun _ z => z) dX0_best_43 ?_
        refine J_callV X (c_X_sumOver hR (nI k10) 1 (by decide) hc) (And.intro gw_4_68 cw_X0_sumOver) hR.choice rfl rfl rfl (Nat.le_of_ble_eq_true rfl) dX0_best_46 rfl (J.pi ?_) JE.no
        refine J_goto (tgt := 53) X dX0_best_49 (by decide) ?_
        exact K36_53 _ j36_0.symm
  have q_v : (X_best σ μ p1) = (X_best_L10 σ μ p1 K10 (ix ((1 : Int32) <<< ((μ 2 0) &&& 31)) - 1) 1 (0 : Int32) (0 : Int32) (0 : Int32)) := by rw [hK10]; exact q_v
  have ec10 : (1 : Int32) = nI 1 := rfl
  have z10 := L10 (ix ((1 : Int32) <<< ((μ 2 0) &&& 31)) - 1) 1 (0 : Int32) (0 : Int32) (0 : Int32)  (by have := shl1 hc; omega)  q_v
  rw [← ec10] at z10
  exact z10
end
