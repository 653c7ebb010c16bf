noncomputable section
def X_read (σ : St) (p1 : Int32) : Int32 := (@ite _ (vp_in p1 (ix (σ 26 0))) (Classical.propDecidable _) ((((X_glowOf σ (ix (σ 27 (ix p1)))) + (X_moonAt (σ 0 0))) + (20 : Int32)) + ((σ 28 (ix p1)) + ((σ 29 (ix p1)) * ((σ 0 0) / (24 : Int32))))) (0 : Int32))
def X_read_s (σ : St) (p1 : Int32) : St := (@ite _ (vp_in p1 (ix (σ 26 0))) (Classical.propDecidable _) (keepS σ (ix p1) (σ 0 0) ((((X_glowOf σ (ix (σ 27 (ix p1)))) + (X_moonAt (σ 0 0))) + (20 : Int32)) + ((σ 28 (ix p1)) + ((σ 29 (ix p1)) * ((σ 0 0) / (24 : Int32)))))) σ)
def X_read_c (σ : St) (p1 : Int32) : Int32 := (@ite _ (vp_in p1 (ix (σ 26 0))) (Classical.propDecidable _) (0 : Int32) (1 : Int32))
theorem cw_X10_read : Cond.instanceMethod yX10_read ∈ GW ∧ Cond.selects RX10 yX10_read yX10_read ∈ GW ∧ Cond.initialized RX10 ∈ GW ∧ Cond.code yX10_read cX10_read 5 (some .int) ∈ GW ∧ yX10_read.cls = RX10 ∧ (yX10_read.cls ≠ "java/lang/invoke/MethodHandle" ∧ yX10_read.cls ≠ "java/lang/invoke/VarHandle") ∧ (parseMethodDescriptor yX10_read.desc).map (fun d => d.parameters.length) = some 1 := ⟨gw_3_183, gw_3_184, gw_1_1, gw_3_185, rfl, ⟨by decide, by decide⟩, by decide +kernel⟩
set_option maxRecDepth 100000 in
set_option maxHeartbeats 4000000 in
theorem c_X_read {l : Launch} {D : va_G} {ca : Nat → Nat} {h : fH} {ρ : Nat → Nat → Nat} {μ : Nat → Nat → Int32} {cap : Nat → Nat} {σ : St} (hR : RX ca h ρ μ cap σ) (hI : InvX σ) (p1 : Int32) (hcap : ∀ k, cap k ≤ 100) : FM l D ca yX10_read (.code yX10_read cX10_read 5 (some .int)) { frames := 8, cells := 3, slots := 108, locals := 341 } [.ref (ρ 0 0), .int p1] h (pPub (some (.int (X_read σ p1))) (X_read_c σ p1) (fun h2 => RA ca h2 (ρ 0 0) (X_read_s σ p1))) (pxX (X_read_c σ p1) (fun h2 => RA ca h2 (ρ 0 0) (X_read_s σ p1))) := by
  refine FM.of [some (.ref (ρ 0 0)), some (.int p1), none, none, none] (by decide) (Nat.le_of_ble_eq_true rfl) rfl ?_
  rintro K X rfl rfl rfl
  have q_v : (X_read σ p1) = (@ite _ (vp_in p1 (ix (σ 26 0))) (Classical.propDecidable _) ((((X_glowOf σ (ix (σ 27 (ix p1)))) + (X_moonAt (σ 0 0))) + (20 : Int32)) + ((σ 28 (ix p1)) + ((σ 29 (ix p1)) * ((σ 0 0) / (24 : Int32))))) (0 : Int32)) := rfl
  have q_s : (X_read_s σ p1) = (@ite _ (vp_in p1 (ix (σ 26 0))) (Classical.propDecidable _) (keepS σ (ix p1) (σ 0 0) ((((X_glowOf σ (ix (σ 27 (ix p1)))) + (X_moonAt (σ 0 0))) + (20 : Int32)) + ((σ 28 (ix p1)) + ((σ 29 (ix p1)) * ((σ 0 0) / (24 : Int32)))))) σ) := rfl
  have q_c : (X_read_c σ p1) = (@ite _ (vp_in p1 (ix (σ 26 0))) (Classical.propDecidable _) (0 : Int32) (1 : Int32)) := rfl
  refine J_aload_0 X dX10_read_0 ?_
  refine J_iload_1 X dX10_read_1 ?_
  refine J_callV X (c_meterOf hR hI p1) (And.intro gw_3_186 cw_X10_meterOf) hR.root rfl rfl rfl (Nat.le_of_ble_eq_true rfl) dX10_read_2 rfl (fun v h2 e => ?_) (fun E h2 e => ?_)
  · skip
    obtain ⟨e1, e2, c2⟩ := e
    subst e1
    rw [e2]
    clear e2
    rw [if_pos c2] at q_v
    rw [if_pos c2] at q_s
    rw [if_pos c2] at q_c
    show J K h [some (.ref (ρ 0 0)), some (.int p1), none, none, none] [.ref (ρ 11 (ix p1))] 5 1 6
    refine J_astore_2 X dX10_read_5 rfl (by decide) ?_
    refine J_aload_2 X dX10_read_6 ?_
    refine J_get X (C := RX3) (T := TX3) (N := 5) (ref := "NightValley$Meter") (hR.meter (vp_lt c2)) rfl 1 (by decide) rfl in_X3 gw_3_164 (fun _ z => z) dX10_read_7 ?_
    refine J_aload_2 X dX10_read_10 ?_
    refine J_get X (C := RX3) (T := TX3) (N := 5) (ref := "NightValley$Meter") (hR.meter (vp_lt c2)) rfl 2 (by decide) rfl in_X3 gw_3_166 (fun _ z => z) dX10_read_11 ?_
    refine J_aload_0 X dX10_read_14 ?_
    refine J_get X (C := RX10) (T := TX10) (N := 11) (ref := "NightValley") hR.root rfl 9 (by decide) rfl in_X10 gw_2_1 (fun _ z => z) dX10_read_15 ?_
    refine J_bipush (v := (24 : Int32)) X dX10_read_18 (by decide) ?_
    refine J_idiv X dX10_read_20 (by decide) ?_
    refine J_imul X dX10_read_21 ?_
    refine J_iadd X dX10_read_22 ?_
    refine J_istore_3 X dX10_read_23 rfl (by decide) ?_
    refine J_aload_0 X dX10_read_24 ?_
    refine J_aload_2 X dX10_read_25 ?_
    refine J_get X (C := RX3) (T := TX3) (N := 5) (ref := "NightValley$Meter") (hR.meter (vp_lt c2)) rfl 0 (by decide) rfl in_X3 gw_3_162 (fun _ z => z) dX10_read_26 ?_
    refine J_callV X (c_X_glowOf hR hI (ix (σ 27 (ix p1))) (IX_at hI _)) (And.intro gw_3_190 cw_X10_glowOf) hR.root rfl rfl rfl (Nat.le_of_ble_eq_true rfl) dX10_read_29 rfl (J.pi ?_) JE.no
    refine J_aload_0 X dX10_read_32 ?_
    refine J_get X (C := RX10) (T := TX10) (N := 11) (ref := "NightValley") hR.root rfl 9 (by decide) rfl in_X10 gw_2_1 (fun _ z => z) dX10_read_33 ?_
    refine J_callS X (c_X_moonAt (σ 0 0)) (And.intro gw_3_194 cw_X10_moonAt) rfl rfl (Nat.le_of_ble_eq_true rfl) dX10_read_36 rfl (J.pi ?_) JE.no
    refine J_iadd X dX10_read_39 ?_
    refine J_bipush (v := (20 : Int32)) X dX10_read_40 (by decide) ?_
    refine J_iadd X dX10_read_42 ?_
    refine J_iload_3 X dX10_read_43 ?_
    refine J_iadd X dX10_read_44 ?_
    refine J_istore_4 X dX10_read_45 rfl (by decide) ?_
    refine J_aload_2 X dX10_read_47 ?_
    refine J_new X (C := RX5) (T := TX5) (N := 2) (ci := 6) (fs := [.int 0, .int 0]) rfl in_X5 tyX5 tyX5_ok gw_3_201 gw_3_202 gw_1_25 (by
        intro j hj
        match j with
        | 0 => rfl
        | 1 => rfl
        | k + 2 => exact absurd hj (by omega)) rfl dX10_read_48 (fun a ha => ?_)
    refine J_dup X dX10_read_51 rfl ?_
    refine J_aload_0 X dX10_read_52 ?_
    refine J_get X (C := RX10) (T := TX10) (N := 11) (ref := "NightValley") (hR.fresh ha).root rfl 9 (by decide) rfl in_X10 gw_2_1 (fun _ z => z) dX10_read_53 ?_
    refine J_iload_4 X dX10_read_56 ?_
    refine J_callI X (c_newReading (fU_same _ _ _)) (And.intro gw_3_203 cw_X5_init) rfl rfl (Nat.le_of_ble_eq_true rfl) dX10_read_58 rfl (J.pvmX (fun h2 e2 => ?_)) JE.no
    rw [e2, fU_fU]
    refine J_callV X (c_keep hR hI hcap (m := ix p1) (vp_lt c2) ha) (And.intro gw_3_218 cw_X3_keep) ((hR.fresh ha).meter (vp_lt c2)) rfl rfl rfl (Nat.le_of_ble_eq_true rfl) dX10_read_61 rfl (J.pvmX (fun h3 hRA => ?_)) JE.no
    refine J_iload_4 X dX10_read_64 ?_
    exact J_iret X rfl rfl ⟨by rw [q_v], by rw [q_c], by rw [q_s]; exact hRA⟩ dX10_read_66
  · skip
    obtain ⟨e1, e2, c2⟩ := e
    subst e1
    rw [e2]
    clear e2
    rw [if_neg c2] at q_v
    rw [if_neg c2] at q_s
    rw [if_neg c2] at q_c
    exact JE_out X rfl rfl ⟨by rw [q_c]; rfl, by rw [q_c]; decide, by rw [q_s]; exact ⟨_, _, _, hR, rfl, hcap⟩⟩
end
