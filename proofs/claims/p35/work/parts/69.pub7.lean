noncomputable section
def X_lamp_j46 (σ : St) (p1 : Int32) (p2 : Int32) (p3 : Int32) (p4 : Int32) (p5 : Int32) : Int32 := (if (40 : Int32) ≤ (nI (xL σ 3)) then (0 : Int32) else (if (10 : Int32) ≤ (cntO (σ 14) (nI (ix p1)) (ix (σ 13 0))) then (0 : Int32) else (1 : Int32)))
theorem X_lamp_j46_b (σ : St) (p1 : Int32) (p2 : Int32) (p3 : Int32) (p4 : Int32) (p5 : Int32) : X_lamp_j46 σ p1 p2 p3 p4 p5 = 0 ∨ X_lamp_j46 σ p1 p2 p3 p4 p5 = 1 := by
  unfold X_lamp_j46
  (repeat' split) <;> first | exact Or.inl rfl | exact Or.inr rfl
def X_lamp (σ : St) (p1 : Int32) (p2 : Int32) (p3 : Int32) (p4 : Int32) (p5 : Int32) : Int32 := (@ite _ (vp_in p1 (ix (σ 8 0))) (Classical.propDecidable _) (@ite _ (vp_in p2 64) (Classical.propDecidable _) (if M_isIn p3 (1 : Int32) (10000 : Int32) = 0 then (0 : Int32) else (if M_isIn p4 (0 : Int32) (2 : Int32) = 0 then (0 : Int32) else (if M_isIn p5 (0 : Int32) (10 : Int32) = 0 then (0 : Int32) else (if (X_lamp_j46 σ p1 p2 p3 p4 p5) = 0 then (0 : Int32) else (σ 13 0))))) (0 : Int32)) (0 : Int32))
def X_lamp_s (σ : St) (p1 : Int32) (p2 : Int32) (p3 : Int32) (p4 : Int32) (p5 : Int32) : St := (@ite _ (vp_in p1 (ix (σ 8 0))) (Classical.propDecidable _) (@ite _ (vp_in p2 64) (Classical.propDecidable _) (if M_isIn p3 (1 : Int32) (10000 : Int32) = 0 then σ else (if M_isIn p4 (0 : Int32) (2 : Int32) = 0 then σ else (if M_isIn p5 (0 : Int32) (10 : Int32) = 0 then σ else (if (X_lamp_j46 σ p1 p2 p3 p4 p5) = 0 then σ else (newLamp σ p1 p2 p3 p4 p5))))) σ) σ)
def X_lamp_c (σ : St) (p1 : Int32) (p2 : Int32) (p3 : Int32) (p4 : Int32) (p5 : Int32) : Int32 := (@ite _ (vp_in p1 (ix (σ 8 0))) (Classical.propDecidable _) (@ite _ (vp_in p2 64) (Classical.propDecidable _) (if M_isIn p3 (1 : Int32) (10000 : Int32) = 0 then (2 : Int32) else (if M_isIn p4 (0 : Int32) (2 : Int32) = 0 then (2 : Int32) else (if M_isIn p5 (0 : Int32) (10 : Int32) = 0 then (2 : Int32) else (if (X_lamp_j46 σ p1 p2 p3 p4 p5) = 0 then (3 : Int32) else (0 : Int32))))) (1 : Int32)) (1 : Int32))
theorem cw_X10_lamp : Cond.instanceMethod yX10_lamp ∈ GW ∧ Cond.selects RX10 yX10_lamp yX10_lamp ∈ GW ∧ Cond.initialized RX10 ∈ GW ∧ Cond.code yX10_lamp cX10_lamp 8 (some .int) ∈ GW ∧ yX10_lamp.cls = RX10 ∧ (yX10_lamp.cls ≠ "java/lang/invoke/MethodHandle" ∧ yX10_lamp.cls ≠ "java/lang/invoke/VarHandle") ∧ (parseMethodDescriptor yX10_lamp.desc).map (fun d => d.parameters.length) = some 5 := ⟨gw_3_44, gw_3_45, gw_1_1, gw_3_46, rfl, ⟨by decide, by decide⟩, by decide +kernel⟩
set_option maxRecDepth 100000 in
set_option maxHeartbeats 4000000 in
theorem c_X_lamp {l : Launch} {D : va_G} {ca : Nat → Nat} {h : fH} {ρ : Nat → Nat → Nat} {μ : Nat → Nat → Int32} {cap : Nat → Nat} {σ : St} (hR : RX ca h ρ μ cap σ) (hI : InvX σ) (p1 : Int32) (p2 : Int32) (p3 : Int32) (p4 : Int32) (p5 : Int32) (hcap : ∀ k, cap k ≤ 100) : FM l D ca yX10_lamp (.code yX10_lamp cX10_lamp 8 (some .int)) { frames := 8, cells := 8, slots := 148, locals := 291 } [.ref (ρ 0 0), .int p1, .int p2, .int p3, .int p4, .int p5] h (pPub (some (.int (X_lamp σ p1 p2 p3 p4 p5))) (X_lamp_c σ p1 p2 p3 p4 p5) (fun h2 => RA ca h2 (ρ 0 0) (X_lamp_s σ p1 p2 p3 p4 p5))) (pxX (X_lamp_c σ p1 p2 p3 p4 p5) (fun h2 => RA ca h2 (ρ 0 0) (X_lamp_s σ p1 p2 p3 p4 p5))) := by
  refine FM.of [some (.ref (ρ 0 0)), some (.int p1), some (.int p2), some (.int p3), some (.int p4), some (.int p5), none, none] (by decide) (Nat.le_of_ble_eq_true rfl) rfl ?_
  rintro K X rfl rfl rfl
  have q_v : (X_lamp σ p1 p2 p3 p4 p5) = (@ite _ (vp_in p1 (ix (σ 8 0))) (Classical.propDecidable _) (@ite _ (vp_in p2 64) (Classical.propDecidable _) (if M_isIn p3 (1 : Int32) (10000 : Int32) = 0 then (0 : Int32) else (if M_isIn p4 (0 : Int32) (2 : Int32) = 0 then (0 : Int32) else (if M_isIn p5 (0 : Int32) (10 : Int32) = 0 then (0 : Int32) else (if (X_lamp_j46 σ p1 p2 p3 p4 p5) = 0 then (0 : Int32) else (σ 13 0))))) (0 : Int32)) (0 : Int32)) := rfl
  have q_s : (X_lamp_s σ p1 p2 p3 p4 p5) = (@ite _ (vp_in p1 (ix (σ 8 0))) (Classical.propDecidable _) (@ite _ (vp_in p2 64) (Classical.propDecidable _) (if M_isIn p3 (1 : Int32) (10000 : Int32) = 0 then σ else (if M_isIn p4 (0 : Int32) (2 : Int32) = 0 then σ else (if M_isIn p5 (0 : Int32) (10 : Int32) = 0 then σ else (if (X_lamp_j46 σ p1 p2 p3 p4 p5) = 0 then σ else (newLamp σ p1 p2 p3 p4 p5))))) σ) σ) := rfl
  have q_c : (X_lamp_c σ p1 p2 p3 p4 p5) = (@ite _ (vp_in p1 (ix (σ 8 0))) (Classical.propDecidable _) (@ite _ (vp_in p2 64) (Classical.propDecidable _) (if M_isIn p3 (1 : Int32) (10000 : Int32) = 0 then (2 : Int32) else (if M_isIn p4 (0 : Int32) (2 : Int32) = 0 then (2 : Int32) else (if M_isIn p5 (0 : Int32) (10 : Int32) = 0 then (2 : Int32) else (if (X_lamp_j46 σ p1 p2 p3 p4 p5) = 0 then (3 : Int32) else (0 : Int32))))) (1 : Int32)) (1 : Int32)) := rfl
  refine J_aload_0 X dX10_lamp_0 ?_
  refine J_iload_1 X dX10_lamp_1 ?_
  refine J_callV X (c_villageOf hR hI p1) (And.intro gw_3_47 cw_X10_villageOf) hR.root rfl rfl rfl (Nat.le_of_ble_eq_true rfl) dX10_lamp_2 rfl (fun v h2 e => ?_) (fun E h2 e => ?_)
  · skip
    obtain ⟨e1, e2, c2⟩ := e
    subst e1
    rw [e2]
    clear e2
    rw [if_pos c2] at q_v
    rw [if_pos c2] at q_s
    rw [if_pos c2] at q_c
    show J K h [some (.ref (ρ 0 0)), some (.int p1), some (.int p2), some (.int p3), some (.int p4), some (.int p5), none, none] [.ref (ρ 9 (ix p1))] 5 1 6
    refine J_astore_6 X dX10_lamp_5 rfl (by decide) ?_
    refine J_aload_0 X dX10_lamp_7 ?_
    refine J_iload_2 X dX10_lamp_8 ?_
    refine J_callV X (c_placeOf hR hI p2) (And.intro gw_2_30 cw_X10_placeOf) hR.root rfl rfl rfl (Nat.le_of_ble_eq_true rfl) dX10_lamp_9 rfl (fun v h2 e => ?_) (fun E h2 e => ?_)
    · skip
      obtain ⟨e1, e2, c9⟩ := e
      subst e1
      rw [e2]
      clear e2
      rw [if_pos c9] at q_v
      rw [if_pos c9] at q_s
      rw [if_pos c9] at q_c
      show J K h [some (.ref (ρ 0 0)), some (.int p1), some (.int p2), some (.int p3), some (.int p4), some (.int p5), some (.ref (ρ 9 (ix p1))), none] [.ref (ρ 8 (ix p2))] 12 2 12
      refine J_astore_7 X dX10_lamp_12 rfl (by decide) ?_
      refine J_iload_3 X dX10_lamp_14 ?_
      refine J_iconst (v := 1) X dX10_lamp_15 rfl ?_
      refine J_sipush (v := (10000 : Int32)) X dX10_lamp_16 (by decide) ?_
      refine J_callS X (c_needRange p3 (1 : Int32) (10000 : Int32)) (And.intro gw_2_198 cw_X10_needRange) rfl rfl (Nat.le_of_ble_eq_true rfl) dX10_lamp_19 rfl (fun v h2 e => ?_) (fun E h2 e => ?_)
      · skip
        obtain ⟨e1, e2, c19⟩ := e
        subst e1
        rw [e2]
        clear e2
        rw [if_neg c19] at q_v
        rw [if_neg c19] at q_s
        rw [if_neg c19] at q_c
        show J K h [some (.ref (ρ 0 0)), some (.int p1), some (.int p2), some (.int p3), some (.int p4), some (.int p5), some (.ref (ρ 9 (ix p1))), some (.ref (ρ 8 (ix p2)))] [] 22 3 18
        refine J_iload_4 X dX10_lamp_22 ?_
        refine J_iconst (v := 0) X dX10_lamp_24 rfl ?_
        refine J_iconst (v := 2) X dX10_lamp_25 rfl ?_
        refine J_callS X (c_needRange p4 (0 : Int32) (2 : Int32)) (And.intro gw_2_198 cw_X10_needRange) rfl rfl (Nat.le_of_ble_eq_true rfl) dX10_lamp_26 rfl (fun v h2 e => ?_) (fun E h2 e => ?_)
        · skip
          obtain ⟨e1, e2, c26⟩ := e
          subst e1
          rw [e2]
          clear e2
          rw [if_neg c26] at q_v
          rw [if_neg c26] at q_s
          rw [if_neg c26] at q_c
          show J K h [some (.ref (ρ 0 0)), some (.int p1), some (.int p2), some (.int p3), some (.int p4), some (.int p5), some (.ref (ρ 9 (ix p1))), some (.ref (ρ 8 (ix p2)))] [] 29 4 24
          refine J_iload_5 X dX10_lamp_29 ?_
          refine J_iconst (v := 0) X dX10_lamp_31 rfl ?_
          refine J_bipush (v := (10 : Int32)) X dX10_lamp_32 (by decide) ?_
          refine J_callS X (c_needRange p5 (0 : Int32) (10 : Int32)) (And.intro gw_2_198 cw_X10_needRange) rfl rfl (Nat.le_of_ble_eq_true rfl) dX10_lamp_34 rfl (fun v h2 e => ?_) (fun E h2 e => ?_)
          · skip
            obtain ⟨e1, e2, c34⟩ := e
            subst e1
            rw [e2]
            clear e2
            rw [if_neg c34] at q_v
            rw [if_neg c34] at q_s
            rw [if_neg c34] at q_c
            show J K h [some (.ref (ρ 0 0)), some (.int p1), some (.int p2), some (.int p3), some (.int p4), some (.int p5), some (.ref (ρ 9 (ix p1))), some (.ref (ρ 8 (ix p2)))] [] 37 5 30
            refine J_aload_0 X dX10_lamp_37 ?_
            refine J_get X (C := RX10) (T := TX10) (N := 11) (ref := "NightValley") hR.root rfl 3 (by decide) rfl in_X10 gw_1_235 (fun _ z => z) dX10_lamp_38 ?_
            refine J_callV X (c_Xsize hR (k := 3) (by omega)) (And.intro gw_2_34 cw_Jx4a65c_size_8abf5) (hR.list (by omega)) rfl rfl rfl (Nat.le_of_ble_eq_true rfl) dX10_lamp_41 rfl (J.pi ?_) JE.no
            refine J_bipush (v := (40 : Int32)) X dX10_lamp_44 (by decide) ?_
            have K46_64 : ∀ (v46_0 : Int32), v46_0 = (X_lamp_j46 σ p1 p2 p3 p4 p5) → J K h [some (.ref (ρ 0 0)), some (.int p1), some (.int p2), some (.int p3), some (.int p4), some (.int p5), some (.ref (ρ 9 (ix p1))), some (.ref (ρ 8 (ix p2)))] [.int v46_0] 64 5 30 := by
              intro v46_0 ev46_0
              try rw [ev46_0]
              clear ev46_0
              refine J_callS X (c_needState (X_lamp_j46 σ p1 p2 p3 p4 p5)) (And.intro gw_2_232 cw_X10_needState) rfl rfl (Nat.le_of_ble_eq_true rfl) dX10_lamp_64 rfl (fun v h2 e => ?_) (fun E h2 e => ?_)
              · skip
                obtain ⟨e1, e2, c64⟩ := e
                subst e1
                rw [e2]
                clear e2
                rw [if_neg c64] at q_v
                rw [if_neg c64] at q_s
                rw [if_neg c64] at q_c
                show J K h [some (.ref (ρ 0 0)), some (.int p1), some (.int p2), some (.int p3), some (.int p4), some (.int p5), some (.ref (ρ 9 (ix p1))), some (.ref (ρ 8 (ix p2)))] [] 67 6 36
                have hlt40 : ix (σ 13 0) < 40 := by
                  have hc := c64
                  have hb := IX_lamps hI
                  unfold X_lamp_j46 at hc
                  by_cases z : (40 : Int32) ≤ nI (xL σ 3)
                  · rw [if_pos z] at hc; exact absurd rfl hc
                  · exact Classical.byContradiction fun w => z ((nI_leI (a := 40) (b := ix (σ 13 0)) (by omega) (by omega)).mpr (by omega))
                refine J_aload_0 X dX10_lamp_67 ?_
                refine J_get X (C := RX10) (T := TX10) (N := 11) (ref := "NightValley") hR.root rfl 3 (by decide) rfl in_X10 gw_1_235 (fun _ z => z) dX10_lamp_68 ?_
                refine J_new X (C := RX2) (T := TX2) (N := 12) (ci := 3) (fs := [.null, .null, .int 0, .int 0, .int 0, .int 0, .int 0, .int 0, .int 0, .int 0, .int 0, .int 0]) rfl in_X2 tyX2 tyX2_ok gw_2_118 gw_3_51 gw_1_23 (by
                      intro j hj
                      match j with
                      | 0 => rfl
                      | 1 => rfl
                      | 2 => rfl
                      | 3 => rfl
                      | 4 => rfl
                      | 5 => rfl
                      | 6 => rfl
                      | 7 => rfl
                      | 8 => rfl
                      | 9 => rfl
                      | 10 => rfl
                      | 11 => rfl
                      | k + 12 => exact absurd hj (by omega)) rfl dX10_lamp_71 (fun a ha => ?_)
                refine J_dup X dX10_lamp_74 rfl ?_
                refine J_aload_6 X dX10_lamp_75 ?_
                refine J_aload_7 X dX10_lamp_77 ?_
                refine J_iload_3 X dX10_lamp_79 ?_
                refine J_iload_4 X dX10_lamp_80 ?_
                refine J_iload_5 X dX10_lamp_82 ?_
                refine J_callI X (c_newLamp (fU_same _ _ _)) (And.intro gw_3_52 cw_X2_init) rfl rfl (Nat.le_of_ble_eq_true rfl) dX10_lamp_84 rfl (J.pvmX (fun h2 e2 => ?_)) JE.no
                rw [e2, fU_fU]
                refine J_callV X (c_addX hR hI hcap (q := 3) (by omega) ha rfl (cst_in (i := 25) rfl)) (And.intro gw_1_145 cw_Jx4a65c_add_9ea2d) (add_list hR (q := 3) (by omega) ha) rfl rfl rfl (Nat.le_of_ble_eq_true rfl) dX10_lamp_87 rfl (fun v h3 qq => ?_) JE.no
                obtain ⟨e4, hA⟩ := qq
                subst e4
                show J K h3 [some (.ref (ρ 0 0)), some (.int p1), some (.int p2), some (.int p3), some (.int p4), some (.int p5), some (.ref (ρ 9 (ix p1))), some (.ref (ρ 8 (ix p2)))] [.int 1] 90 8 148
                refine J_pop X dX10_lamp_90 rfl ?_
                have hvc := RX.keepA (k := 9) (i := ix p1) hR (q := 3) (by omega) ha hA (if_pos (vp_lt c2)) (fun z => absurd z.1 (by decide)) (fun z => absurd z.1 (by decide))
                refine J_aload_6 X dX10_lamp_91 ?_
                refine J_dup X dX10_lamp_93 rfl ?_
                refine J_get X (C := RX7) (T := TX7) (N := 5) (ref := "NightValley$Village") hvc rfl 3 (by decide) rfl in_X7 gw_3_30 (fun _ z => z) dX10_lamp_94 ?_
                refine J_iconst (v := 1) X dX10_lamp_97 rfl ?_
                refine J_iadd X dX10_lamp_98 ?_
                refine J_put X (C := RX7) (T := TX7) (N := 5) (ref := "NightValley$Village") hvc rfl 3 (by decide) (Nat.le_of_ble_eq_true rfl) in_X7 tyX7 tyX7_ok nmX7 rfl rfl rfl gw_3_30 (fun _ z => z) dX10_lamp_99 ?_
                obtain ⟨ρ2, μ2, cap2, hR2, hr2, hc2⟩ := RX.addLamp hR hI hcap hlt40 c2 ha hA
                have hR2 : RX (kca K) _ ρ2 μ2 cap2 ((newLamp σ p1 p2 p3 p4 p5)) := hR2
                refine J_aload_0 X dX10_lamp_102 ?_
                refine J_get X (C := RX10) (T := TX10) (N := 11) (ref := "NightValley") (RX.rootAt hR2 hr2) rfl 3 (by decide) rfl in_X10 gw_1_235 (fun _ z => z) dX10_lamp_103 ?_
                refine J_callV X (c_Xsize hR2 (k := 3) (by omega)) (And.intro gw_2_34 cw_Jx4a65c_size_8abf5) (hR2.list (k := 3) (by omega)) rfl rfl rfl (Nat.le_of_ble_eq_true rfl) dX10_lamp_106 rfl (J.pi ?_) JE.no
                refine J_iconst (v := 1) X dX10_lamp_109 rfl ?_
                refine J_isub X dX10_lamp_110 ?_
                exact J_iret X rfl rfl ⟨by rw [q_v]; exact congrArg (fun x => some (Value.int x)) (valLamp hI), by rw [q_c], by rw [q_s]; exact ⟨ρ2, μ2, cap2, hR2, hr2, hc2⟩⟩ dX10_lamp_111
              · skip
                obtain ⟨e1, e2, c64⟩ := e
                subst e1
                rw [e2]
                clear e2
                rw [if_pos c64] at q_v
                rw [if_pos c64] at q_s
                rw [if_pos c64] at q_c
                exact JE_out X rfl rfl ⟨by rw [q_c]; rfl, by rw [q_c]; decide, by rw [q_s]; exact ⟨_, _, _, hR, rfl, hcap⟩⟩
            have j46_0 : X_lamp_j46 σ p1 p2 p3 p4 p5 = (if (40 : Int32) ≤ (nI (xL σ 3)) then (0 : Int32) else (if (10 : Int32) ≤ (cntO (σ 14) (nI (ix p1)) (ix (σ 13 0))) then (0 : Int32) else (1 : Int32))) := rfl
            refine J_icmp_ge (tgt := 63) X dX10_lamp_46 (by decide) (fun c46 => ?_) (fun c46 => ?_)
            · skip
              rw [if_pos c46] at j46_0
              refine J_iconst (v := 0) X dX10_lamp_63 rfl ?_
              exact K46_64 _ j46_0.symm
            · skip
              rw [if_neg c46] at j46_0
              refine J_aload_6 X dX10_lamp_49 ?_
              refine J_get X (C := RX7) (T := TX7) (N := 5) (ref := "NightValley$Village") (hR.village (vp_lt c2)) rfl 3 (by decide) rfl in_X7 gw_3_30 (fun _ z => z) dX10_lamp_51 ?_
              refine J_bipush (v := (10 : Int32)) X dX10_lamp_54 (by decide) ?_
              refine J_icmp_ge (tgt := 63) X dX10_lamp_56 (by decide) (fun c56 => ?_) (fun c56 => ?_)
              · skip
                rw [if_pos c56] at j46_0
                refine J_iconst (v := 0) X dX10_lamp_63 rfl ?_
                exact K46_64 _ j46_0.symm
              · skip
                rw [if_neg c56] at j46_0
                refine J_iconst (v := 1) X dX10_lamp_59 rfl ?_
                refine J_goto (tgt := 64) X dX10_lamp_60 (by decide) ?_
                exact K46_64 _ j46_0.symm
          · skip
            obtain ⟨e1, e2, c34⟩ := e
            subst e1
            rw [e2]
            clear e2
            rw [if_pos c34] at q_v
            rw [if_pos c34] at q_s
            rw [if_pos c34] at q_c
            exact JE_out X rfl rfl ⟨by rw [q_c]; rfl, by rw [q_c]; decide, by rw [q_s]; exact ⟨_, _, _, hR, rfl, hcap⟩⟩
        · skip
          obtain ⟨e1, e2, c26⟩ := e
          subst e1
          rw [e2]
          clear e2
          rw [if_pos c26] at q_v
          rw [if_pos c26] at q_s
          rw [if_pos c26] at q_c
          exact JE_out X rfl rfl ⟨by rw [q_c]; rfl, by rw [q_c]; decide, by rw [q_s]; exact ⟨_, _, _, hR, rfl, hcap⟩⟩
      · skip
        obtain ⟨e1, e2, c19⟩ := e
        subst e1
        rw [e2]
        clear e2
        rw [if_pos c19] at q_v
        rw [if_pos c19] at q_s
        rw [if_pos c19] at q_c
        exact JE_out X rfl rfl ⟨by rw [q_c]; rfl, by rw [q_c]; decide, by rw [q_s]; exact ⟨_, _, _, hR, rfl, hcap⟩⟩
    · skip
      obtain ⟨e1, e2, c9⟩ := e
      subst e1
      rw [e2]
      clear e2
      rw [if_neg c9] at q_v
      rw [if_neg c9] at q_s
      rw [if_neg c9] at q_c
      exact JE_out X rfl rfl ⟨by rw [q_c]; rfl, by rw [q_c]; decide, by rw [q_s]; exact ⟨_, _, _, hR, rfl, hcap⟩⟩
  · skip
    obtain ⟨e1, e2, c2⟩ := e
    subst e1
    rw [e2]
    clear e2
    rw [if_neg c2] at q_v
    rw [if_neg c2] at q_s
    rw [if_neg c2] at q_c
    exact JE_out X rfl rfl ⟨by rw [q_c]; rfl, by rw [q_c]; decide, by rw [q_s]; exact ⟨_, _, _, hR, rfl, hcap⟩⟩
def X_meter_j31 (σ : St) (p1 : Int32) (p2 : Int32) (p3 : Int32) : Int32 := (if (8 : Int32) ≤ (nI (xL σ 4)) then (0 : Int32) else (1 : Int32))
theorem X_meter_j31_b (σ : St) (p1 : Int32) (p2 : Int32) (p3 : Int32) : X_meter_j31 σ p1 p2 p3 = 0 ∨ X_meter_j31 σ p1 p2 p3 = 1 := by
  unfold X_meter_j31
  (repeat' split) <;> first | exact Or.inl rfl | exact Or.inr rfl
def X_meter (σ : St) (p1 : Int32) (p2 : Int32) (p3 : Int32) : Int32 := (@ite _ (vp_in p1 64) (Classical.propDecidable _) (if M_isIn p2 (-50 : Int32) (50 : Int32) = 0 then (0 : Int32) else (if M_isIn p3 (-3 : Int32) (3 : Int32) = 0 then (0 : Int32) else (if (X_meter_j31 σ p1 p2 p3) = 0 then (0 : Int32) else (σ 26 0)))) (0 : Int32))
def X_meter_s (σ : St) (p1 : Int32) (p2 : Int32) (p3 : Int32) : St := (@ite _ (vp_in p1 64) (Classical.propDecidable _) (if M_isIn p2 (-50 : Int32) (50 : Int32) = 0 then σ else (if M_isIn p3 (-3 : Int32) (3 : Int32) = 0 then σ else (if (X_meter_j31 σ p1 p2 p3) = 0 then σ else (newMet σ p1 p2 p3)))) σ)
def X_meter_c (σ : St) (p1 : Int32) (p2 : Int32) (p3 : Int32) : Int32 := (@ite _ (vp_in p1 64) (Classical.propDecidable _) (if M_isIn p2 (-50 : Int32) (50 : Int32) = 0 then (2 : Int32) else (if M_isIn p3 (-3 : Int32) (3 : Int32) = 0 then (2 : Int32) else (if (X_meter_j31 σ p1 p2 p3) = 0 then (3 : Int32) else (0 : Int32)))) (1 : Int32))
theorem cw_X10_meter : Cond.instanceMethod yX10_meter ∈ GW ∧ Cond.selects RX10 yX10_meter yX10_meter ∈ GW ∧ Cond.initialized RX10 ∈ GW ∧ Cond.code yX10_meter cX10_meter 5 (some .int) ∈ GW ∧ yX10_meter.cls = RX10 ∧ (yX10_meter.cls ≠ "java/lang/invoke/MethodHandle" ∧ yX10_meter.cls ≠ "java/lang/invoke/VarHandle") ∧ (parseMethodDescriptor yX10_meter.desc).map (fun d => d.parameters.length) = some 3 := ⟨gw_3_150, gw_3_151, gw_1_1, gw_3_152, rfl, ⟨by decide, by decide⟩, by decide +kernel⟩
set_option maxRecDepth 100000 in
set_option maxHeartbeats 4000000 in
theorem c_X_meter {l : Launch} {D : va_G} {ca : Nat → Nat} {h : fH} {ρ : Nat → Nat → Nat} {μ : Nat → Nat → Int32} {cap : Nat → Nat} {σ : St} (hR : RX ca h ρ μ cap σ) (hI : InvX σ) (p1 : Int32) (p2 : Int32) (p3 : Int32) (hcap : ∀ k, cap k ≤ 100) : FM l D ca yX10_meter (.code yX10_meter cX10_meter 5 (some .int)) { frames := 8, cells := 7, slots := 132, locals := 291 } [.ref (ρ 0 0), .int p1, .int p2, .int p3] h (pPub (some (.int (X_meter σ p1 p2 p3))) (X_meter_c σ p1 p2 p3) (fun h2 => RA ca h2 (ρ 0 0) (X_meter_s σ p1 p2 p3))) (pxX (X_meter_c σ p1 p2 p3) (fun h2 => RA ca h2 (ρ 0 0) (X_meter_s σ p1 p2 p3))) := by
  refine FM.of [some (.ref (ρ 0 0)), some (.int p1), some (.int p2), some (.int p3), none] (by decide) (Nat.le_of_ble_eq_true rfl) rfl ?_
  rintro K X rfl rfl rfl
  have q_v : (X_meter σ p1 p2 p3) = (@ite _ (vp_in p1 64) (Classical.propDecidable _) (if M_isIn p2 (-50 : Int32) (50 : Int32) = 0 then (0 : Int32) else (if M_isIn p3 (-3 : Int32) (3 : Int32) = 0 then (0 : Int32) else (if (X_meter_j31 σ p1 p2 p3) = 0 then (0 : Int32) else (σ 26 0)))) (0 : Int32)) := rfl
  have q_s : (X_meter_s σ p1 p2 p3) = (@ite _ (vp_in p1 64) (Classical.propDecidable _) (if M_isIn p2 (-50 : Int32) (50 : Int32) = 0 then σ else (if M_isIn p3 (-3 : Int32) (3 : Int32) = 0 then σ else (if (X_meter_j31 σ p1 p2 p3) = 0 then σ else (newMet σ p1 p2 p3)))) σ) := rfl
  have q_c : (X_meter_c σ p1 p2 p3) = (@ite _ (vp_in p1 64) (Classical.propDecidable _) (if M_isIn p2 (-50 : Int32) (50 : Int32) = 0 then (2 : Int32) else (if M_isIn p3 (-3 : Int32) (3 : Int32) = 0 then (2 : Int32) else (if (X_meter_j31 σ p1 p2 p3) = 0 then (3 : Int32) else (0 : Int32)))) (1 : Int32)) := rfl
  refine J_aload_0 X dX10_meter_0 ?_
  refine J_iload_1 X dX10_meter_1 ?_
  refine J_callV X (c_placeOf hR hI p1) (And.intro gw_2_30 cw_X10_placeOf) hR.root rfl rfl rfl (Nat.le_of_ble_eq_true rfl) dX10_meter_2 rfl (fun v h2 e => ?_) (fun E h2 e => ?_)
  · skip
    obtain ⟨e1, e2, c2⟩ := e
    subst e1
    rw [e2]
    clear e2
    rw [if_pos c2] at q_v
    rw [if_pos c2] at q_s
    rw [if_pos c2] at q_c
    show J K h [some (.ref (ρ 0 0)), some (.int p1), some (.int p2), some (.int p3), none] [.ref (ρ 8 (ix p1))] 5 1 6
    refine J_astore_4 X dX10_meter_5 rfl (by decide) ?_
    refine J_iload_2 X dX10_meter_7 ?_
    refine J_bipush (v := (-50 : Int32)) X dX10_meter_8 (by decide) ?_
    refine J_bipush (v := (50 : Int32)) X dX10_meter_10 (by decide) ?_
    refine J_callS X (c_needRange p2 (-50 : Int32) (50 : Int32)) (And.intro gw_2_198 cw_X10_needRange) rfl rfl (Nat.le_of_ble_eq_true rfl) dX10_meter_12 rfl (fun v h2 e => ?_) (fun E h2 e => ?_)
    · skip
      obtain ⟨e1, e2, c12⟩ := e
      subst e1
      rw [e2]
      clear e2
      rw [if_neg c12] at q_v
      rw [if_neg c12] at q_s
      rw [if_neg c12] at q_c
      show J K h [some (.ref (ρ 0 0)), some (.int p1), some (.int p2), some (.int p3), some (.ref (ρ 8 (ix p1)))] [] 15 2 12
      refine J_iload_3 X dX10_meter_15 ?_
      refine J_bipush (v := (-3 : Int32)) X dX10_meter_16 (by decide) ?_
      refine J_iconst (v := 3) X dX10_meter_18 rfl ?_
      refine J_callS X (c_needRange p3 (-3 : Int32) (3 : Int32)) (And.intro gw_2_198 cw_X10_needRange) rfl rfl (Nat.le_of_ble_eq_true rfl) dX10_meter_19 rfl (fun v h2 e => ?_) (fun E h2 e => ?_)
      · skip
        obtain ⟨e1, e2, c19⟩ := e
        subst e1
        rw [e2]
        clear e2
        rw [if_neg c19] at q_v
        rw [if_neg c19] at q_s
        rw [if_neg c19] at q_c
        show J K h [some (.ref (ρ 0 0)), some (.int p1), some (.int p2), some (.int p3), some (.ref (ρ 8 (ix p1)))] [] 22 3 18
        refine J_aload_0 X dX10_meter_22 ?_
        refine J_get X (C := RX10) (T := TX10) (N := 11) (ref := "NightValley") hR.root rfl 4 (by decide) rfl in_X10 gw_1_236 (fun _ z => z) dX10_meter_23 ?_
        refine J_callV X (c_Xsize hR (k := 4) (by omega)) (And.intro gw_2_34 cw_Jx4a65c_size_8abf5) (hR.list (by omega)) rfl rfl rfl (Nat.le_of_ble_eq_true rfl) dX10_meter_26 rfl (J.pi ?_) JE.no
        refine J_bipush (v := (8 : Int32)) X dX10_meter_29 (by decide) ?_
        have K31_39 : ∀ (v31_0 : Int32), v31_0 = (X_meter_j31 σ p1 p2 p3) → J K h [some (.ref (ρ 0 0)), some (.int p1), some (.int p2), some (.int p3), some (.ref (ρ 8 (ix p1)))] [.int v31_0] 39 3 18 := by
          intro v31_0 ev31_0
          try rw [ev31_0]
          clear ev31_0
          refine J_callS X (c_needState (X_meter_j31 σ p1 p2 p3)) (And.intro gw_2_232 cw_X10_needState) rfl rfl (Nat.le_of_ble_eq_true rfl) dX10_meter_39 rfl (fun v h2 e => ?_) (fun E h2 e => ?_)
          · skip
            obtain ⟨e1, e2, c39⟩ := e
            subst e1
            rw [e2]
            clear e2
            rw [if_neg c39] at q_v
            rw [if_neg c39] at q_s
            rw [if_neg c39] at q_c
            show J K h [some (.ref (ρ 0 0)), some (.int p1), some (.int p2), some (.int p3), some (.ref (ρ 8 (ix p1)))] [] 42 4 24
            have hlt8 : ix (σ 26 0) < 8 := by
              have hc := c39
              have hb := IX_meters hI
              unfold X_meter_j31 at hc
              by_cases z : (8 : Int32) ≤ nI (xL σ 4)
              · rw [if_pos z] at hc; exact absurd rfl hc
              · exact Classical.byContradiction fun w => z ((nI_leI (a := 8) (b := ix (σ 26 0)) (by omega) (by omega)).mpr (by omega))
            refine J_aload_0 X dX10_meter_42 ?_
            refine J_get X (C := RX10) (T := TX10) (N := 11) (ref := "NightValley") hR.root rfl 4 (by decide) rfl in_X10 gw_1_236 (fun _ z => z) dX10_meter_43 ?_
            refine J_new X (C := RX3) (T := TX3) (N := 5) (ci := 4) (fs := [.null, .int 0, .int 0, .null, .int 0]) rfl in_X3 tyX3 tyX3_ok gw_3_153 gw_3_154 gw_1_24 (by
                  intro j hj
                  match j with
                  | 0 => rfl
                  | 1 => rfl
                  | 2 => rfl
                  | 3 => rfl
                  | 4 => rfl
                  | k + 5 => exact absurd hj (by omega)) rfl dX10_meter_46 (fun a ha => ?_)
            refine J_dup X dX10_meter_49 rfl ?_
            refine J_aload_4 X dX10_meter_50 ?_
            refine J_iload_2 X dX10_meter_52 ?_
            refine J_iload_3 X dX10_meter_53 ?_
            refine J_callI X (c_newMeter (fU_same _ _ _)) (And.intro gw_3_155 cw_X3_init) rfl rfl (Nat.le_of_ble_eq_true rfl) dX10_meter_54 rfl (J.pvmX (fun h2 e2 => ?_)) JE.no
            obtain ⟨b, hb, e2⟩ := e2
            have hab : a ≠ b := fun z => by rw [← z, fU_same] at hb; cases hb
            have hb0 : h b = none := by rw [fU_ne hab.symm] at hb; exact hb
            have e3 : h2 = fU (fU h b (.inr (0, [.int 0, .ref (kca K 4), .int 0]))) a (.inr (4, [.ref (ρ 8 (ix p1)), .int p2, .int p3, .ref b, .int 0])) := by
              rw [e2]
              funext x
              by_cases w : x = a
              · rw [w, fU_same, fU_same]
              · rw [fU_ne w, fU_ne w]
                by_cases v : x = b
                · rw [v, fU_same, fU_same]
                · rw [fU_ne v, fU_ne v, fU_ne w]
            rw [e3]
            have ha2 : fU h b (.inr (0, [.int 0, .ref (kca K 4), .int 0])) a = none := by rw [fU_ne hab]; exact ha
            have hRb := hR.fresh (x := .inr (0, [.int 0, .ref (kca K 4), .int 0])) hb0
            refine J_callV X (c_addX hRb hI hcap (q := 4) (by omega) ha2 rfl (cst_in (i := 26) rfl)) (And.intro gw_1_145 cw_Jx4a65c_add_9ea2d) (add_list hRb (q := 4) (by omega) ha2) rfl rfl rfl (Nat.le_of_ble_eq_true rfl) dX10_meter_57 rfl (fun v h3 qq => ?_) JE.no
            obtain ⟨e4, hA⟩ := qq
            subst e4
            show J K h3 [some (.ref (ρ 0 0)), some (.int p1), some (.int p2), some (.int p3), some (.ref (ρ 8 (ix p1)))] [.int 1] 60 7 132
            refine J_pop X dX10_meter_60 rfl ?_
            obtain ⟨ρ2, μ2, cap2, hR2, hr2, hc2⟩ := RX.addMet hR hI hcap ha hb0 hab hA hlt8
            refine J_aload_0 X dX10_meter_61 ?_
            refine J_get X (C := RX10) (T := TX10) (N := 11) (ref := "NightValley") (RX.rootAt hR2 hr2) rfl 4 (by decide) rfl in_X10 gw_1_236 (fun _ z => z) dX10_meter_62 ?_
            refine J_callV X (c_Xsize hR2 (k := 4) (by omega)) (And.intro gw_2_34 cw_Jx4a65c_size_8abf5) (hR2.list (k := 4) (by omega)) rfl rfl rfl (Nat.le_of_ble_eq_true rfl) dX10_meter_65 rfl (J.pi ?_) JE.no
            refine J_iconst (v := 1) X dX10_meter_68 rfl ?_
            refine J_isub X dX10_meter_69 ?_
            exact J_iret X rfl rfl ⟨by rw [q_v]; exact congrArg (fun x => some (Value.int x)) (valMet hI), by rw [q_c], by rw [q_s]; exact ⟨ρ2, μ2, cap2, hR2, hr2, hc2⟩⟩ dX10_meter_70
          · skip
            obtain ⟨e1, e2, c39⟩ := e
            subst e1
            rw [e2]
            clear e2
            rw [if_pos c39] at q_v
            rw [if_pos c39] at q_s
            rw [if_pos c39] at q_c
            exact JE_out X rfl rfl ⟨by rw [q_c]; rfl, by rw [q_c]; decide, by rw [q_s]; exact ⟨_, _, _, hR, rfl, hcap⟩⟩
        have j31_0 : X_meter_j31 σ p1 p2 p3 = (if (8 : Int32) ≤ (nI (xL σ 4)) then (0 : Int32) else (1 : Int32)) := rfl
        refine J_icmp_ge (tgt := 38) X dX10_meter_31 (by decide) (fun c31 => ?_) (fun c31 => ?_)
        · skip
          rw [if_pos c31] at j31_0
          refine J_iconst (v := 0) X dX10_meter_38 rfl ?_
          exact K31_39 _ j31_0.symm
        · skip
          rw [if_neg c31] at j31_0
          refine J_iconst (v := 1) X dX10_meter_34 rfl ?_
          refine J_goto (tgt := 39) X dX10_meter_35 (by decide) ?_
          exact K31_39 _ j31_0.symm
      · skip
        obtain ⟨e1, e2, c19⟩ := e
        subst e1
        rw [e2]
        clear e2
        rw [if_pos c19] at q_v
        rw [if_pos c19] at q_s
        rw [if_pos c19] at q_c
        exact JE_out X rfl rfl ⟨by rw [q_c]; rfl, by rw [q_c]; decide, by rw [q_s]; exact ⟨_, _, _, hR, rfl, hcap⟩⟩
    · skip
      obtain ⟨e1, e2, c12⟩ := e
      subst e1
      rw [e2]
      clear e2
      rw [if_pos c12] at q_v
      rw [if_pos c12] at q_s
      rw [if_pos c12] at q_c
      exact JE_out X rfl rfl ⟨by rw [q_c]; rfl, by rw [q_c]; decide, by rw [q_s]; exact ⟨_, _, _, hR, rfl, hcap⟩⟩
  · skip
    obtain ⟨e1, e2, c2⟩ := e
    subst e1
    rw [e2]
    clear e2
    rw [if_neg c2] at q_v
    rw [if_neg c2] at q_s
    rw [if_neg c2] at q_c
    exact JE_out X rfl rfl ⟨by rw [q_c]; rfl, by rw [q_c]; decide, by rw [q_s]; exact ⟨_, _, _, hR, rfl, hcap⟩⟩
end
