noncomputable section
def xN (c : Int32) : String := if c = 1 then xIO else if c = 2 then xIA else xIS
abbrev pPub (v0 : Option Value) (c : Int32) (R : fH → Prop) : Option Value → fH → Prop := fun v h' => v = v0 ∧ c = 0 ∧ R h'
abbrev pxX (c : Int32) (R : fH → Prop) : String → fH → Prop := fun E h' => E = xN c ∧ ¬ c = 0 ∧ R h'
def X_ridge (σ : St) (p1 : Int32) (p2 : Int32) : Int32 := (@ite _ (vp_in p1 64) (Classical.propDecidable _) (σ 2 (ix p1)) (0 : Int32))
def X_ridge_s (σ : St) (p1 : Int32) (p2 : Int32) : St := (@ite _ (vp_in p1 64) (Classical.propDecidable _) (sS σ 2 (ix p1) p2) σ)
def X_ridge_c (σ : St) (p1 : Int32) (p2 : Int32) : Int32 := (@ite _ (vp_in p1 64) (Classical.propDecidable _) (0 : Int32) (1 : Int32))
theorem cw_X10_ridge : Cond.instanceMethod yX10_ridge ∈ GW ∧ Cond.selects RX10 yX10_ridge yX10_ridge ∈ GW ∧ Cond.initialized RX10 ∈ GW ∧ Cond.code yX10_ridge cX10_ridge 5 (some .boolean) ∈ GW ∧ yX10_ridge.cls = RX10 ∧ (yX10_ridge.cls ≠ "java/lang/invoke/MethodHandle" ∧ yX10_ridge.cls ≠ "java/lang/invoke/VarHandle") ∧ (parseMethodDescriptor yX10_ridge.desc).map (fun d => d.parameters.length) = some 2 := ⟨gw_4_160, gw_4_161, gw_1_1, gw_4_162, rfl, ⟨by decide, by decide⟩, by decide +kernel⟩
set_option maxRecDepth 100000 in
set_option maxHeartbeats 4000000 in
theorem c_X_ridge {l : Launch} {D : va_G} {ca : Nat → Nat} {h : fH} {ρ : Nat → Nat → Nat} {μ : Nat → Nat → Int32} {cap : Nat → Nat} {σ : St} (hR : RX ca h ρ μ cap σ) (hI : InvX σ) (p1 : Int32) (p2 : Int32) (hp2 : p2 = 0 ∨ p2 = 1) : FM l D ca yX10_ridge (.code yX10_ridge cX10_ridge 5 (some .boolean)) { frames := 8, cells := 1, slots := 6, locals := 146 } [.ref (ρ 0 0), .int p1, .int p2] h (pPub (some (.int (X_ridge σ p1 p2))) (X_ridge_c σ p1 p2) (fun h2 => RX ca h2 ρ μ cap (X_ridge_s σ p1 p2))) (pxX (X_ridge_c σ p1 p2) (fun h2 => RX ca h2 ρ μ cap (X_ridge_s σ p1 p2))) := by
  refine FM.of [some (.ref (ρ 0 0)), some (.int p1), some (.int p2), none, none] (by decide) (Nat.le_of_ble_eq_true rfl) rfl ?_
  rintro K X rfl rfl rfl
  have q_v : (X_ridge σ p1 p2) = (@ite _ (vp_in p1 64) (Classical.propDecidable _) (σ 2 (ix p1)) (0 : Int32)) := rfl
  have q_s : (X_ridge_s σ p1 p2) = (@ite _ (vp_in p1 64) (Classical.propDecidable _) (sS σ 2 (ix p1) p2) σ) := rfl
  have q_c : (X_ridge_c σ p1 p2) = (@ite _ (vp_in p1 64) (Classical.propDecidable _) (0 : Int32) (1 : Int32)) := rfl
  refine J_aload_0 X dX10_ridge_0 ?_
  refine J_iload_1 X dX10_ridge_1 ?_
  refine J_callV X (c_placeOf hR hI p1) (And.intro gw_2_30 cw_X10_placeOf) hR.root rfl rfl rfl (Nat.le_of_ble_eq_true rfl) dX10_ridge_2 rfl (fun v h2 e => ?_) (fun E h2 e => ?_)
  · skip
    obtain ⟨e1, e2, c2⟩ := e
    subst e1
    rw [e2]
    clear e2
    rw [if_pos c2] at q_v
    rw [if_pos c2] at q_s
    rw [if_pos c2] at q_c
    show J K h [some (.ref (ρ 0 0)), some (.int p1), some (.int p2), none, none] [.ref (ρ 8 (ix p1))] 5 1 6
    refine J_astore_3 X dX10_ridge_5 rfl (by decide) ?_
    refine J_aload_3 X dX10_ridge_6 ?_
    refine J_get X (C := RX4) (T := TX4) (N := 4) (ref := "NightValley$Place") (hR.place (vp_lt c2)) rfl 3 (by decide) rfl in_X4 gw_1_222 (fun _ z => z) dX10_ridge_7 ?_
    refine J_istore_4 X dX10_ridge_10 rfl (by decide) ?_
    refine J_aload_3 X dX10_ridge_12 ?_
    refine J_iload_2 X dX10_ridge_13 ?_
    refine JX_p8_3 X hR (i := (ix p1)) (vp_lt c2) (v := p2) hp2 gw_1_222 dX10_ridge_14 (fun h1 hR1 => ?_)
    refine J_iload_4 X dX10_ridge_17 ?_
    exact J_zret X rfl (hI.1 2 _) rfl ⟨by rw [q_v], by rw [q_c], by rw [q_s]; exact hR1⟩ dX10_ridge_19
  · skip
    obtain ⟨e1, e2, c2⟩ := e
    subst e1
    rw [e2]
    clear e2
    rw [if_neg c2] at q_v
    rw [if_neg c2] at q_s
    rw [if_neg c2] at q_c
    exact JE_out X rfl rfl ⟨by rw [q_c]; rfl, by rw [q_c]; decide, by rw [q_s]; exact hR⟩
def X_zone (σ : St) (p1 : Int32) (p2 : Int32) : Int32 := (@ite _ (vp_in p1 64) (Classical.propDecidable _) (@ite _ (vp_in p2 4) (Classical.propDecidable _) (nI (ix (σ 3 (ix p1)))) (0 : Int32)) (0 : Int32))
def X_zone_s (σ : St) (p1 : Int32) (p2 : Int32) : St := (@ite _ (vp_in p1 64) (Classical.propDecidable _) (@ite _ (vp_in p2 4) (Classical.propDecidable _) (sS σ 3 (ix p1) p2) σ) σ)
def X_zone_c (σ : St) (p1 : Int32) (p2 : Int32) : Int32 := (@ite _ (vp_in p1 64) (Classical.propDecidable _) (@ite _ (vp_in p2 4) (Classical.propDecidable _) (0 : Int32) (1 : Int32)) (1 : Int32))
theorem cw_X10_zone : Cond.instanceMethod yX10_zone ∈ GW ∧ Cond.selects RX10 yX10_zone yX10_zone ∈ GW ∧ Cond.initialized RX10 ∈ GW ∧ Cond.code yX10_zone cX10_zone 6 (some .int) ∈ GW ∧ yX10_zone.cls = RX10 ∧ (yX10_zone.cls ≠ "java/lang/invoke/MethodHandle" ∧ yX10_zone.cls ≠ "java/lang/invoke/VarHandle") ∧ (parseMethodDescriptor yX10_zone.desc).map (fun d => d.parameters.length) = some 2 := ⟨gw_2_184, gw_2_185, gw_1_1, gw_2_186, rfl, ⟨by decide, by decide⟩, by decide +kernel⟩
set_option maxRecDepth 100000 in
set_option maxHeartbeats 4000000 in
theorem c_X_zone {l : Launch} {D : va_G} {ca : Nat → Nat} {h : fH} {ρ : Nat → Nat → Nat} {μ : Nat → Nat → Int32} {cap : Nat → Nat} {σ : St} (hR : RX ca h ρ μ cap σ) (hI : InvX σ) (p1 : Int32) (p2 : Int32) : FM l D ca yX10_zone (.code yX10_zone cX10_zone 6 (some .int)) { frames := 8, cells := 2, slots := 12, locals := 147 } [.ref (ρ 0 0), .int p1, .int p2] h (pPub (some (.int (X_zone σ p1 p2))) (X_zone_c σ p1 p2) (fun h2 => RX ca h2 ρ μ cap (X_zone_s σ p1 p2))) (pxX (X_zone_c σ p1 p2) (fun h2 => RX ca h2 ρ μ cap (X_zone_s σ p1 p2))) := by
  refine FM.of [some (.ref (ρ 0 0)), some (.int p1), some (.int p2), none, none, none] (by decide) (Nat.le_of_ble_eq_true rfl) rfl ?_
  rintro K X rfl rfl rfl
  have q_v : (X_zone σ p1 p2) = (@ite _ (vp_in p1 64) (Classical.propDecidable _) (@ite _ (vp_in p2 4) (Classical.propDecidable _) (nI (ix (σ 3 (ix p1)))) (0 : Int32)) (0 : Int32)) := rfl
  have q_s : (X_zone_s σ p1 p2) = (@ite _ (vp_in p1 64) (Classical.propDecidable _) (@ite _ (vp_in p2 4) (Classical.propDecidable _) (sS σ 3 (ix p1) p2) σ) σ) := rfl
  have q_c : (X_zone_c σ p1 p2) = (@ite _ (vp_in p1 64) (Classical.propDecidable _) (@ite _ (vp_in p2 4) (Classical.propDecidable _) (0 : Int32) (1 : Int32)) (1 : Int32)) := rfl
  refine J_aload_0 X dX10_zone_0 ?_
  refine J_iload_1 X dX10_zone_1 ?_
  refine J_callV X (c_placeOf hR hI p1) (And.intro gw_2_30 cw_X10_placeOf) hR.root rfl rfl rfl (Nat.le_of_ble_eq_true rfl) dX10_zone_2 rfl (fun v h2 e => ?_) (fun E h2 e => ?_)
  · skip
    obtain ⟨e1, e2, c2⟩ := e
    subst e1
    rw [e2]
    clear e2
    rw [if_pos c2] at q_v
    rw [if_pos c2] at q_s
    rw [if_pos c2] at q_c
    show J K h [some (.ref (ρ 0 0)), some (.int p1), some (.int p2), none, none, none] [.ref (ρ 8 (ix p1))] 5 1 6
    refine J_astore_3 X dX10_zone_5 rfl (by decide) ?_
    refine J_aload_0 X dX10_zone_6 ?_
    refine J_iload_2 X dX10_zone_7 ?_
    refine J_callV X (c_zoneOf hR hI p2) (And.intro gw_2_187 cw_X10_zoneOf) hR.root rfl rfl rfl (Nat.le_of_ble_eq_true rfl) dX10_zone_8 rfl (fun v h2 e => ?_) (fun E h2 e => ?_)
    · skip
      obtain ⟨e1, e2, c8⟩ := e
      subst e1
      rw [e2]
      clear e2
      rw [if_pos c8] at q_v
      rw [if_pos c8] at q_s
      rw [if_pos c8] at q_c
      show J K h [some (.ref (ρ 0 0)), some (.int p1), some (.int p2), some (.ref (ρ 8 (ix p1))), none, none] [.ref (ρ 6 (ix p2))] 11 2 12
      refine J_astore_4 X dX10_zone_11 rfl (by decide) ?_
      refine J_aload_3 X dX10_zone_13 ?_
      refine J_get X (C := RX4) (T := TX4) (N := 4) (ref := "NightValley$Place") (hR.place (vp_lt c2)) rfl 2 (by decide) rfl in_X4 gw_1_219 (fun _ z => z) dX10_zone_14 ?_
      refine J_get X (C := RX9) (T := TX9) (N := 6) (ref := "NightValley$Zone") (hR.zone (IX_zone hI _)) rfl 0 (by decide) rfl in_X9 gw_1_120 (fun _ z => z) dX10_zone_17 ?_
      refine J_istore_5 X dX10_zone_20 rfl (by decide) ?_
      refine J_aload_3 X dX10_zone_22 ?_
      refine J_aload_4 X dX10_zone_23 ?_
      refine JX_p8_2 X hR (i := (ix p1)) (vp_lt c2) (v := p2) gw_1_219 dX10_zone_25 (fun h1 hR1 => ?_)
      refine J_iload_5 X dX10_zone_28 ?_
      exact J_iret X rfl rfl ⟨by rw [q_v], by rw [q_c], by rw [q_s]; exact hR1⟩ dX10_zone_30
    · skip
      obtain ⟨e1, e2, c8⟩ := e
      subst e1
      rw [e2]
      clear e2
      rw [if_neg c8] at q_v
      rw [if_neg c8] at q_s
      rw [if_neg c8] at q_c
      exact JE_out X rfl rfl ⟨by rw [q_c]; rfl, by rw [q_c]; decide, by rw [q_s]; exact hR⟩
  · skip
    obtain ⟨e1, e2, c2⟩ := e
    subst e1
    rw [e2]
    clear e2
    rw [if_neg c2] at q_v
    rw [if_neg c2] at q_s
    rw [if_neg c2] at q_c
    exact JE_out X rfl rfl ⟨by rw [q_c]; rfl, by rw [q_c]; decide, by rw [q_s]; exact hR⟩
def X_law_s (σ : St) (p1 : Int32) (p2 : Int32) (p3 : Int32) (p4 : Int32) : St := (@ite _ (vp_in p1 4) (Classical.propDecidable _) (if M_isIn p2 (18 : Int32) (24 : Int32) = 0 then σ else (if M_isIn p3 (0 : Int32) (2 : Int32) = 0 then σ else (if M_isIn p4 (0 : Int32) (10 : Int32) = 0 then σ else (sS (sS (sS σ 4 (ix p1) p2) 5 (ix p1) p3) 6 (ix p1) p4)))) σ)
def X_law_c (σ : St) (p1 : Int32) (p2 : Int32) (p3 : Int32) (p4 : Int32) : Int32 := (@ite _ (vp_in p1 4) (Classical.propDecidable _) (if M_isIn p2 (18 : Int32) (24 : Int32) = 0 then (2 : Int32) else (if M_isIn p3 (0 : Int32) (2 : Int32) = 0 then (2 : Int32) else (if M_isIn p4 (0 : Int32) (10 : Int32) = 0 then (2 : Int32) else (0 : Int32)))) (1 : Int32))
theorem cw_X10_law : Cond.instanceMethod yX10_law ∈ GW ∧ Cond.selects RX10 yX10_law yX10_law ∈ GW ∧ Cond.initialized RX10 ∈ GW ∧ Cond.code yX10_law cX10_law 6 none ∈ GW ∧ yX10_law.cls = RX10 ∧ (yX10_law.cls ≠ "java/lang/invoke/MethodHandle" ∧ yX10_law.cls ≠ "java/lang/invoke/VarHandle") ∧ (parseMethodDescriptor yX10_law.desc).map (fun d => d.parameters.length) = some 4 := ⟨gw_2_195, gw_2_196, gw_1_1, gw_2_197, rfl, ⟨by decide, by decide⟩, by decide +kernel⟩
set_option maxRecDepth 100000 in
set_option maxHeartbeats 4000000 in
theorem c_X_law {l : Launch} {D : va_G} {ca : Nat → Nat} {h : fH} {ρ : Nat → Nat → Nat} {μ : Nat → Nat → Int32} {cap : Nat → Nat} {σ : St} (hR : RX ca h ρ μ cap σ) (hI : InvX σ) (p1 : Int32) (p2 : Int32) (p3 : Int32) (p4 : Int32) : FM l D ca yX10_law (.code yX10_law cX10_law 6 none) { frames := 8, cells := 4, slots := 24, locals := 147 } [.ref (ρ 0 0), .int p1, .int p2, .int p3, .int p4] h (pPub none (X_law_c σ p1 p2 p3 p4) (fun h2 => RX ca h2 ρ μ cap (X_law_s σ p1 p2 p3 p4))) (pxX (X_law_c σ p1 p2 p3 p4) (fun h2 => RX ca h2 ρ μ cap (X_law_s σ p1 p2 p3 p4))) := by
  refine FM.of [some (.ref (ρ 0 0)), some (.int p1), some (.int p2), some (.int p3), some (.int p4), none] (by decide) (Nat.le_of_ble_eq_true rfl) rfl ?_
  rintro K X rfl rfl rfl
  have q_s : (X_law_s σ p1 p2 p3 p4) = (@ite _ (vp_in p1 4) (Classical.propDecidable _) (if M_isIn p2 (18 : Int32) (24 : Int32) = 0 then σ else (if M_isIn p3 (0 : Int32) (2 : Int32) = 0 then σ else (if M_isIn p4 (0 : Int32) (10 : Int32) = 0 then σ else (sS (sS (sS σ 4 (ix p1) p2) 5 (ix p1) p3) 6 (ix p1) p4)))) σ) := rfl
  have q_c : (X_law_c σ p1 p2 p3 p4) = (@ite _ (vp_in p1 4) (Classical.propDecidable _) (if M_isIn p2 (18 : Int32) (24 : Int32) = 0 then (2 : Int32) else (if M_isIn p3 (0 : Int32) (2 : Int32) = 0 then (2 : Int32) else (if M_isIn p4 (0 : Int32) (10 : Int32) = 0 then (2 : Int32) else (0 : Int32)))) (1 : Int32)) := rfl
  refine J_aload_0 X dX10_law_0 ?_
  refine J_iload_1 X dX10_law_1 ?_
  refine J_callV X (c_zoneOf hR hI p1) (And.intro gw_2_187 cw_X10_zoneOf) hR.root rfl rfl rfl (Nat.le_of_ble_eq_true rfl) dX10_law_2 rfl (fun v h2 e => ?_) (fun E h2 e => ?_)
  · skip
    obtain ⟨e1, e2, c2⟩ := e
    subst e1
    rw [e2]
    clear e2
    rw [if_pos c2] at q_s
    rw [if_pos c2] at q_c
    show J K h [some (.ref (ρ 0 0)), some (.int p1), some (.int p2), some (.int p3), some (.int p4), none] [.ref (ρ 6 (ix p1))] 5 1 6
    refine J_astore_5 X dX10_law_5 rfl (by decide) ?_
    refine J_iload_2 X dX10_law_7 ?_
    refine J_bipush (v := (18 : Int32)) X dX10_law_8 (by decide) ?_
    refine J_bipush (v := (24 : Int32)) X dX10_law_10 (by decide) ?_
    refine J_callS X (c_needRange p2 (18 : Int32) (24 : Int32)) (And.intro gw_2_198 cw_X10_needRange) rfl rfl (Nat.le_of_ble_eq_true rfl) dX10_law_12 rfl (fun v h2 e => ?_) (fun E h2 e => ?_)
    · skip
      obtain ⟨e1, e2, c12⟩ := e
      subst e1
      rw [e2]
      clear e2
      rw [if_neg c12] at q_s
      rw [if_neg c12] at q_c
      show J K h [some (.ref (ρ 0 0)), some (.int p1), some (.int p2), some (.int p3), some (.int p4), some (.ref (ρ 6 (ix p1)))] [] 15 2 12
      refine J_iload_3 X dX10_law_15 ?_
      refine J_iconst (v := 0) X dX10_law_16 rfl ?_
      refine J_iconst (v := 2) X dX10_law_17 rfl ?_
      refine J_callS X (c_needRange p3 (0 : Int32) (2 : Int32)) (And.intro gw_2_198 cw_X10_needRange) rfl rfl (Nat.le_of_ble_eq_true rfl) dX10_law_18 rfl (fun v h2 e => ?_) (fun E h2 e => ?_)
      · skip
        obtain ⟨e1, e2, c18⟩ := e
        subst e1
        rw [e2]
        clear e2
        rw [if_neg c18] at q_s
        rw [if_neg c18] at q_c
        show J K h [some (.ref (ρ 0 0)), some (.int p1), some (.int p2), some (.int p3), some (.int p4), some (.ref (ρ 6 (ix p1)))] [] 21 3 18
        refine J_iload_4 X dX10_law_21 ?_
        refine J_iconst (v := 0) X dX10_law_23 rfl ?_
        refine J_bipush (v := (10 : Int32)) X dX10_law_24 (by decide) ?_
        refine J_callS X (c_needRange p4 (0 : Int32) (10 : Int32)) (And.intro gw_2_198 cw_X10_needRange) rfl rfl (Nat.le_of_ble_eq_true rfl) dX10_law_26 rfl (fun v h2 e => ?_) (fun E h2 e => ?_)
        · skip
          obtain ⟨e1, e2, c26⟩ := e
          subst e1
          rw [e2]
          clear e2
          rw [if_neg c26] at q_s
          rw [if_neg c26] at q_c
          show J K h [some (.ref (ρ 0 0)), some (.int p1), some (.int p2), some (.int p3), some (.int p4), some (.ref (ρ 6 (ix p1)))] [] 29 4 24
          refine J_aload_5 X dX10_law_29 ?_
          refine J_iload_2 X dX10_law_31 ?_
          refine JX_p6_3 X hR (i := (ix p1)) (vp_lt c2) (v := p2) gw_1_125 dX10_law_32 (fun h1 hR1 => ?_)
          refine J_aload_5 X dX10_law_35 ?_
          refine J_iload_3 X dX10_law_37 ?_
          refine JX_p6_4 X hR1 (i := (ix p1)) (vp_lt c2) (v := p3) gw_1_127 dX10_law_38 (fun h2 hR2 => ?_)
          refine J_aload_5 X dX10_law_41 ?_
          refine J_iload_4 X dX10_law_43 ?_
          refine JX_p6_5 X hR2 (i := (ix p1)) (vp_lt c2) (v := p4) gw_1_129 dX10_law_45 (fun h3 hR3 => ?_)
          exact J_vret X rfl rfl ⟨rfl, by rw [q_c], by rw [q_s]; exact hR3⟩ dX10_law_48
        · skip
          obtain ⟨e1, e2, c26⟩ := e
          subst e1
          rw [e2]
          clear e2
          rw [if_pos c26] at q_s
          rw [if_pos c26] at q_c
          exact JE_out X rfl rfl ⟨by rw [q_c]; rfl, by rw [q_c]; decide, by rw [q_s]; exact hR⟩
      · skip
        obtain ⟨e1, e2, c18⟩ := e
        subst e1
        rw [e2]
        clear e2
        rw [if_pos c18] at q_s
        rw [if_pos c18] at q_c
        exact JE_out X rfl rfl ⟨by rw [q_c]; rfl, by rw [q_c]; decide, by rw [q_s]; exact hR⟩
    · skip
      obtain ⟨e1, e2, c12⟩ := e
      subst e1
      rw [e2]
      clear e2
      rw [if_pos c12] at q_s
      rw [if_pos c12] at q_c
      exact JE_out X rfl rfl ⟨by rw [q_c]; rfl, by rw [q_c]; decide, by rw [q_s]; exact hR⟩
  · skip
    obtain ⟨e1, e2, c2⟩ := e
    subst e1
    rw [e2]
    clear e2
    rw [if_neg c2] at q_s
    rw [if_neg c2] at q_c
    exact JE_out X rfl rfl ⟨by rw [q_c]; rfl, by rw [q_c]; decide, by rw [q_s]; exact hR⟩
def X_air (σ : St) (p1 : Int32) : Int32 := (if M_isIn p1 (0 : Int32) (2 : Int32) = 0 then (0 : Int32) else (σ 1 0))
def X_air_s (σ : St) (p1 : Int32) : St := (if M_isIn p1 (0 : Int32) (2 : Int32) = 0 then σ else (sC σ 1 p1))
def X_air_c (σ : St) (p1 : Int32) : Int32 := (if M_isIn p1 (0 : Int32) (2 : Int32) = 0 then (2 : Int32) else (0 : Int32))
theorem cw_X10_air : Cond.instanceMethod yX10_air ∈ GW ∧ Cond.selects RX10 yX10_air yX10_air ∈ GW ∧ Cond.initialized RX10 ∈ GW ∧ Cond.code yX10_air cX10_air 3 (some .int) ∈ GW ∧ yX10_air.cls = RX10 ∧ (yX10_air.cls ≠ "java/lang/invoke/MethodHandle" ∧ yX10_air.cls ≠ "java/lang/invoke/VarHandle") ∧ (parseMethodDescriptor yX10_air.desc).map (fun d => d.parameters.length) = some 1 := ⟨gw_2_225, gw_2_226, gw_1_1, gw_2_227, rfl, ⟨by decide, by decide⟩, by decide +kernel⟩
set_option maxRecDepth 100000 in
set_option maxHeartbeats 4000000 in
theorem c_X_air {l : Launch} {D : va_G} {ca : Nat → Nat} {h : fH} {ρ : Nat → Nat → Nat} {μ : Nat → Nat → Int32} {cap : Nat → Nat} {σ : St} (hR : RX ca h ρ μ cap σ) (hI : InvX σ) (p1 : Int32) : FM l D ca yX10_air (.code yX10_air cX10_air 3 (some .int)) { frames := 7, cells := 1, slots := 6, locals := 123 } [.ref (ρ 0 0), .int p1] h (pPub (some (.int (X_air σ p1))) (X_air_c σ p1) (fun h2 => RX ca h2 ρ μ cap (X_air_s σ p1))) (pxX (X_air_c σ p1) (fun h2 => RX ca h2 ρ μ cap (X_air_s σ p1))) := by
  refine FM.of [some (.ref (ρ 0 0)), some (.int p1), none] (by decide) (Nat.le_of_ble_eq_true rfl) rfl ?_
  rintro K X rfl rfl rfl
  have q_v : (X_air σ p1) = (if M_isIn p1 (0 : Int32) (2 : Int32) = 0 then (0 : Int32) else (σ 1 0)) := rfl
  have q_s : (X_air_s σ p1) = (if M_isIn p1 (0 : Int32) (2 : Int32) = 0 then σ else (sC σ 1 p1)) := rfl
  have q_c : (X_air_c σ p1) = (if M_isIn p1 (0 : Int32) (2 : Int32) = 0 then (2 : Int32) else (0 : Int32)) := rfl
  refine J_iload_1 X dX10_air_0 ?_
  refine J_iconst (v := 0) X dX10_air_1 rfl ?_
  refine J_iconst (v := 2) X dX10_air_2 rfl ?_
  refine J_callS X (c_needRange p1 (0 : Int32) (2 : Int32)) (And.intro gw_2_198 cw_X10_needRange) rfl rfl (Nat.le_of_ble_eq_true rfl) dX10_air_3 rfl (fun v h2 e => ?_) (fun E h2 e => ?_)
  · skip
    obtain ⟨e1, e2, c3⟩ := e
    subst e1
    rw [e2]
    clear e2
    rw [if_neg c3] at q_v
    rw [if_neg c3] at q_s
    rw [if_neg c3] at q_c
    show J K h [some (.ref (ρ 0 0)), some (.int p1), none] [] 6 1 6
    refine J_aload_0 X dX10_air_6 ?_
    refine J_get X (C := RX10) (T := TX10) (N := 11) (ref := "NightValley") hR.root rfl 10 (by decide) rfl in_X10 gw_2_2 (fun _ z => z) dX10_air_7 ?_
    refine J_istore_2 X dX10_air_10 rfl (by decide) ?_
    refine J_aload_0 X dX10_air_11 ?_
    refine J_iload_1 X dX10_air_12 ?_
    refine JX_p0_10 X hR (v := p1) gw_2_2 dX10_air_13 (fun h1 hR1 => ?_)
    refine J_iload_2 X dX10_air_16 ?_
    exact J_iret X rfl rfl ⟨by rw [q_v], by rw [q_c], by rw [q_s]; exact hR1⟩ dX10_air_17
  · skip
    obtain ⟨e1, e2, c3⟩ := e
    subst e1
    rw [e2]
    clear e2
    rw [if_pos c3] at q_v
    rw [if_pos c3] at q_s
    rw [if_pos c3] at q_c
    exact JE_out X rfl rfl ⟨by rw [q_c]; rfl, by rw [q_c]; decide, by rw [q_s]; exact hR⟩
def X_hours_j30 (σ : St) (p1 : Int32) (p2 : Int32) (p3 : Int32) : Int32 := (if (X_boundHours σ (ix p1) (σ 0 0)) = (0 : Int32) then (1 : Int32) else (0 : Int32))
theorem X_hours_j30_b (σ : St) (p1 : Int32) (p2 : Int32) (p3 : Int32) : X_hours_j30 σ p1 p2 p3 = 0 ∨ X_hours_j30 σ p1 p2 p3 = 1 := by
  unfold X_hours_j30
  (repeat' split) <;> first | exact Or.inl rfl | exact Or.inr rfl
def X_hours_s (σ : St) (p1 : Int32) (p2 : Int32) (p3 : Int32) : St := (@ite _ (vp_in p1 (ix (σ 13 0))) (Classical.propDecidable _) (if M_isIn p2 (0 : Int32) (23 : Int32) = 0 then σ else (if M_isIn p3 (0 : Int32) (23 : Int32) = 0 then σ else (if (X_hours_j30 σ p1 p2 p3) = 0 then σ else (sS (sS σ 20 (ix p1) p2) 21 (ix p1) p3)))) σ)
def X_hours_c (σ : St) (p1 : Int32) (p2 : Int32) (p3 : Int32) : Int32 := (@ite _ (vp_in p1 (ix (σ 13 0))) (Classical.propDecidable _) (if M_isIn p2 (0 : Int32) (23 : Int32) = 0 then (2 : Int32) else (if M_isIn p3 (0 : Int32) (23 : Int32) = 0 then (2 : Int32) else (if (X_hours_j30 σ p1 p2 p3) = 0 then (3 : Int32) else (0 : Int32)))) (1 : Int32))
theorem cw_X10_hours : Cond.instanceMethod yX10_hours ∈ GW ∧ Cond.selects RX10 yX10_hours yX10_hours ∈ GW ∧ Cond.initialized RX10 ∈ GW ∧ Cond.code yX10_hours cX10_hours 5 none ∈ GW ∧ yX10_hours.cls = RX10 ∧ (yX10_hours.cls ≠ "java/lang/invoke/MethodHandle" ∧ yX10_hours.cls ≠ "java/lang/invoke/VarHandle") ∧ (parseMethodDescriptor yX10_hours.desc).map (fun d => d.parameters.length) = some 3 := ⟨gw_3_105, gw_3_106, gw_1_1, gw_3_107, rfl, ⟨by decide, by decide⟩, by decide +kernel⟩
set_option maxRecDepth 100000 in
set_option maxHeartbeats 4000000 in
theorem c_X_hours {l : Launch} {D : va_G} {ca : Nat → Nat} {h : fH} {ρ : Nat → Nat → Nat} {μ : Nat → Nat → Int32} {cap : Nat → Nat} {σ : St} (hR : RX ca h ρ μ cap σ) (hI : InvX σ) (p1 : Int32) (p2 : Int32) (p3 : Int32) : FM l D ca yX10_hours (.code yX10_hours cX10_hours 5 none) { frames := 8, cells := 4, slots := 24, locals := 146 } [.ref (ρ 0 0), .int p1, .int p2, .int p3] h (pPub none (X_hours_c σ p1 p2 p3) (fun h2 => RX ca h2 ρ μ cap (X_hours_s σ p1 p2 p3))) (pxX (X_hours_c σ p1 p2 p3) (fun h2 => RX ca h2 ρ μ cap (X_hours_s σ p1 p2 p3))) := by
  refine FM.of [some (.ref (ρ 0 0)), some (.int p1), some (.int p2), some (.int p3), none] (by decide) (Nat.le_of_ble_eq_true rfl) rfl ?_
  rintro K X rfl rfl rfl
  have q_s : (X_hours_s σ p1 p2 p3) = (@ite _ (vp_in p1 (ix (σ 13 0))) (Classical.propDecidable _) (if M_isIn p2 (0 : Int32) (23 : Int32) = 0 then σ else (if M_isIn p3 (0 : Int32) (23 : Int32) = 0 then σ else (if (X_hours_j30 σ p1 p2 p3) = 0 then σ else (sS (sS σ 20 (ix p1) p2) 21 (ix p1) p3)))) σ) := rfl
  have q_c : (X_hours_c σ p1 p2 p3) = (@ite _ (vp_in p1 (ix (σ 13 0))) (Classical.propDecidable _) (if M_isIn p2 (0 : Int32) (23 : Int32) = 0 then (2 : Int32) else (if M_isIn p3 (0 : Int32) (23 : Int32) = 0 then (2 : Int32) else (if (X_hours_j30 σ p1 p2 p3) = 0 then (3 : Int32) else (0 : Int32)))) (1 : Int32)) := rfl
  refine J_aload_0 X dX10_hours_0 ?_
  refine J_iload_1 X dX10_hours_1 ?_
  refine J_callV X (c_lampOf hR hI p1) (And.intro gw_3_108 cw_X10_lampOf) hR.root rfl rfl rfl (Nat.le_of_ble_eq_true rfl) dX10_hours_2 rfl (fun v h2 e => ?_) (fun E h2 e => ?_)
  · skip
    obtain ⟨e1, e2, c2⟩ := e
    subst e1
    rw [e2]
    clear e2
    rw [if_pos c2] at q_s
    rw [if_pos c2] at q_c
    show J K h [some (.ref (ρ 0 0)), some (.int p1), some (.int p2), some (.int p3), none] [.ref (ρ 10 (ix p1))] 5 1 6
    refine J_astore_4 X dX10_hours_5 rfl (by decide) ?_
    refine J_iload_2 X dX10_hours_7 ?_
    refine J_iconst (v := 0) X dX10_hours_8 rfl ?_
    refine J_bipush (v := (23 : Int32)) X dX10_hours_9 (by decide) ?_
    refine J_callS X (c_needRange p2 (0 : Int32) (23 : Int32)) (And.intro gw_2_198 cw_X10_needRange) rfl rfl (Nat.le_of_ble_eq_true rfl) dX10_hours_11 rfl (fun v h2 e => ?_) (fun E h2 e => ?_)
    · skip
      obtain ⟨e1, e2, c11⟩ := e
      subst e1
      rw [e2]
      clear e2
      rw [if_neg c11] at q_s
      rw [if_neg c11] at q_c
      show J K h [some (.ref (ρ 0 0)), some (.int p1), some (.int p2), some (.int p3), some (.ref (ρ 10 (ix p1)))] [] 14 2 12
      refine J_iload_3 X dX10_hours_14 ?_
      refine J_iconst (v := 0) X dX10_hours_15 rfl ?_
      refine J_bipush (v := (23 : Int32)) X dX10_hours_16 (by decide) ?_
      refine J_callS X (c_needRange p3 (0 : Int32) (23 : Int32)) (And.intro gw_2_198 cw_X10_needRange) rfl rfl (Nat.le_of_ble_eq_true rfl) dX10_hours_18 rfl (fun v h2 e => ?_) (fun E h2 e => ?_)
      · skip
        obtain ⟨e1, e2, c18⟩ := e
        subst e1
        rw [e2]
        clear e2
        rw [if_neg c18] at q_s
        rw [if_neg c18] at q_c
        show J K h [some (.ref (ρ 0 0)), some (.int p1), some (.int p2), some (.int p3), some (.ref (ρ 10 (ix p1)))] [] 21 3 18
        refine J_aload_4 X dX10_hours_21 ?_
        refine J_aload_0 X dX10_hours_23 ?_
        refine J_get X (C := RX10) (T := TX10) (N := 11) (ref := "NightValley") hR.root rfl 9 (by decide) rfl in_X10 gw_2_1 (fun _ z => z) dX10_hours_24 ?_
        refine J_callV X (c_X_boundHours hR (ix p1) (σ 0 0) (vp_lt c2)) (And.intro gw_3_112 cw_X2_boundHours) (hR.lamp (vp_lt c2)) rfl rfl rfl (Nat.le_of_ble_eq_true rfl) dX10_hours_27 rfl (J.pi ?_) JE.no
        have K30_38 : ∀ (v30_0 : Int32), v30_0 = (X_hours_j30 σ p1 p2 p3) → J K h [some (.ref (ρ 0 0)), some (.int p1), some (.int p2), some (.int p3), some (.ref (ρ 10 (ix p1)))] [.int v30_0] 38 3 18 := by
          intro v30_0 ev30_0
          try rw [ev30_0]
          clear ev30_0
          refine J_callS X (c_needState (X_hours_j30 σ p1 p2 p3)) (And.intro gw_2_232 cw_X10_needState) rfl rfl (Nat.le_of_ble_eq_true rfl) dX10_hours_38 rfl (fun v h2 e => ?_) (fun E h2 e => ?_)
          · skip
            obtain ⟨e1, e2, c38⟩ := e
            subst e1
            rw [e2]
            clear e2
            rw [if_neg c38] at q_s
            rw [if_neg c38] at q_c
            show J K h [some (.ref (ρ 0 0)), some (.int p1), some (.int p2), some (.int p3), some (.ref (ρ 10 (ix p1)))] [] 41 4 24
            refine J_aload_4 X dX10_hours_41 ?_
            refine J_iload_2 X dX10_hours_43 ?_
            refine JX_p10_6 X hR (i := (ix p1)) (vp_lt c2) (v := p2) gw_3_67 dX10_hours_44 (fun h1 hR1 => ?_)
            refine J_aload_4 X dX10_hours_47 ?_
            refine J_iload_3 X dX10_hours_49 ?_
            refine JX_p10_7 X hR1 (i := (ix p1)) (vp_lt c2) (v := p3) gw_3_69 dX10_hours_50 (fun h2 hR2 => ?_)
            exact J_vret X rfl rfl ⟨rfl, by rw [q_c], by rw [q_s]; exact hR2⟩ dX10_hours_53
          · skip
            obtain ⟨e1, e2, c38⟩ := e
            subst e1
            rw [e2]
            clear e2
            rw [if_pos c38] at q_s
            rw [if_pos c38] at q_c
            exact JE_out X rfl rfl ⟨by rw [q_c]; rfl, by rw [q_c]; decide, by rw [q_s]; exact hR⟩
        have j30_0 : X_hours_j30 σ p1 p2 p3 = (if (X_boundHours σ (ix p1) (σ 0 0)) = (0 : Int32) then (1 : Int32) else (0 : Int32)) := rfl
        refine J_if_ne (tgt := 37) X dX10_hours_30 (by decide) (fun c30 => ?_) (fun c30 => ?_)
        · skip
          rw [if_neg c30] at j30_0
          refine J_iconst (v := 0) X dX10_hours_37 rfl ?_
          exact K30_38 _ j30_0.symm
        · skip
          rw [if_pos c30] at j30_0
          refine J_iconst (v := 1) X dX10_hours_33 rfl ?_
          refine J_goto (tgt := 38) X dX10_hours_34 (by decide) ?_
          exact K30_38 _ j30_0.symm
      · skip
        obtain ⟨e1, e2, c18⟩ := e
        subst e1
        rw [e2]
        clear e2
        rw [if_pos c18] at q_s
        rw [if_pos c18] at q_c
        exact JE_out X rfl rfl ⟨by rw [q_c]; rfl, by rw [q_c]; decide, by rw [q_s]; exact hR⟩
    · skip
      obtain ⟨e1, e2, c11⟩ := e
      subst e1
      rw [e2]
      clear e2
      rw [if_pos c11] at q_s
      rw [if_pos c11] at q_c
      exact JE_out X rfl rfl ⟨by rw [q_c]; rfl, by rw [q_c]; decide, by rw [q_s]; exact hR⟩
  · skip
    obtain ⟨e1, e2, c2⟩ := e
    subst e1
    rw [e2]
    clear e2
    rw [if_neg c2] at q_s
    rw [if_neg c2] at q_c
    exact JE_out X rfl rfl ⟨by rw [q_c]; rfl, by rw [q_c]; decide, by rw [q_s]; exact hR⟩
def X_exempt (σ : St) (p1 : Int32) (p2 : Int32) : Int32 := (@ite _ (vp_in p1 (ix (σ 13 0))) (Classical.propDecidable _) (σ 22 (ix p1)) (0 : Int32))
def X_exempt_s (σ : St) (p1 : Int32) (p2 : Int32) : St := (@ite _ (vp_in p1 (ix (σ 13 0))) (Classical.propDecidable _) (sS σ 22 (ix p1) p2) σ)
def X_exempt_c (σ : St) (p1 : Int32) (p2 : Int32) : Int32 := (@ite _ (vp_in p1 (ix (σ 13 0))) (Classical.propDecidable _) (0 : Int32) (1 : Int32))
theorem cw_X10_exempt : Cond.instanceMethod yX10_exempt ∈ GW ∧ Cond.selects RX10 yX10_exempt yX10_exempt ∈ GW ∧ Cond.initialized RX10 ∈ GW ∧ Cond.code yX10_exempt cX10_exempt 5 (some .boolean) ∈ GW ∧ yX10_exempt.cls = RX10 ∧ (yX10_exempt.cls ≠ "java/lang/invoke/MethodHandle" ∧ yX10_exempt.cls ≠ "java/lang/invoke/VarHandle") ∧ (parseMethodDescriptor yX10_exempt.desc).map (fun d => d.parameters.length) = some 2 := ⟨gw_4_167, gw_4_168, gw_1_1, gw_4_169, rfl, ⟨by decide, by decide⟩, by decide +kernel⟩
set_option maxRecDepth 100000 in
set_option maxHeartbeats 4000000 in
theorem c_X_exempt {l : Launch} {D : va_G} {ca : Nat → Nat} {h : fH} {ρ : Nat → Nat → Nat} {μ : Nat → Nat → Int32} {cap : Nat → Nat} {σ : St} (hR : RX ca h ρ μ cap σ) (hI : InvX σ) (p1 : Int32) (p2 : Int32) (hp2 : p2 = 0 ∨ p2 = 1) : FM l D ca yX10_exempt (.code yX10_exempt cX10_exempt 5 (some .boolean)) { frames := 8, cells := 1, slots := 6, locals := 146 } [.ref (ρ 0 0), .int p1, .int p2] h (pPub (some (.int (X_exempt σ p1 p2))) (X_exempt_c σ p1 p2) (fun h2 => RX ca h2 ρ μ cap (X_exempt_s σ p1 p2))) (pxX (X_exempt_c σ p1 p2) (fun h2 => RX ca h2 ρ μ cap (X_exempt_s σ p1 p2))) := by
  refine FM.of [some (.ref (ρ 0 0)), some (.int p1), some (.int p2), none, none] (by decide) (Nat.le_of_ble_eq_true rfl) rfl ?_
  rintro K X rfl rfl rfl
  have q_v : (X_exempt σ p1 p2) = (@ite _ (vp_in p1 (ix (σ 13 0))) (Classical.propDecidable _) (σ 22 (ix p1)) (0 : Int32)) := rfl
  have q_s : (X_exempt_s σ p1 p2) = (@ite _ (vp_in p1 (ix (σ 13 0))) (Classical.propDecidable _) (sS σ 22 (ix p1) p2) σ) := rfl
  have q_c : (X_exempt_c σ p1 p2) = (@ite _ (vp_in p1 (ix (σ 13 0))) (Classical.propDecidable _) (0 : Int32) (1 : Int32)) := rfl
  refine J_aload_0 X dX10_exempt_0 ?_
  refine J_iload_1 X dX10_exempt_1 ?_
  refine J_callV X (c_lampOf hR hI p1) (And.intro gw_3_108 cw_X10_lampOf) hR.root rfl rfl rfl (Nat.le_of_ble_eq_true rfl) dX10_exempt_2 rfl (fun v h2 e => ?_) (fun E h2 e => ?_)
  · skip
    obtain ⟨e1, e2, c2⟩ := e
    subst e1
    rw [e2]
    clear e2
    rw [if_pos c2] at q_v
    rw [if_pos c2] at q_s
    rw [if_pos c2] at q_c
    show J K h [some (.ref (ρ 0 0)), some (.int p1), some (.int p2), none, none] [.ref (ρ 10 (ix p1))] 5 1 6
    refine J_astore_3 X dX10_exempt_5 rfl (by decide) ?_
    refine J_aload_3 X dX10_exempt_6 ?_
    refine J_get X (C := RX2) (T := TX2) (N := 12) (ref := "NightValley$Lamp") (hR.lamp (vp_lt c2)) rfl 8 (by decide) rfl in_X2 gw_3_71 (fun _ z => z) dX10_exempt_7 ?_
    refine J_istore_4 X dX10_exempt_10 rfl (by decide) ?_
    refine J_aload_3 X dX10_exempt_12 ?_
    refine J_iload_2 X dX10_exempt_13 ?_
    refine JX_p10_8 X hR (i := (ix p1)) (vp_lt c2) (v := p2) hp2 gw_3_71 dX10_exempt_14 (fun h1 hR1 => ?_)
    refine J_iload_4 X dX10_exempt_17 ?_
    exact J_zret X rfl (hI.1 22 _) rfl ⟨by rw [q_v], by rw [q_c], by rw [q_s]; exact hR1⟩ dX10_exempt_19
  · skip
    obtain ⟨e1, e2, c2⟩ := e
    subst e1
    rw [e2]
    clear e2
    rw [if_neg c2] at q_v
    rw [if_neg c2] at q_s
    rw [if_neg c2] at q_c
    exact JE_out X rfl rfl ⟨by rw [q_c]; rfl, by rw [q_c]; decide, by rw [q_s]; exact hR⟩
def X_outage (σ : St) (p1 : Int32) (p2 : Int32) : Int32 := (@ite _ (vp_in p1 (ix (σ 8 0))) (Classical.propDecidable _) (if M_isIn p2 (0 : Int32) (500 : Int32) = 0 then (0 : Int32) else (iMax ((σ 12 (ix p1)) - (σ 0 0)) (0 : Int32))) (0 : Int32))
def X_outage_s (σ : St) (p1 : Int32) (p2 : Int32) : St := (@ite _ (vp_in p1 (ix (σ 8 0))) (Classical.propDecidable _) (if M_isIn p2 (0 : Int32) (500 : Int32) = 0 then σ else (sS σ 12 (ix p1) ((σ 0 0) + p2))) σ)
def X_outage_c (σ : St) (p1 : Int32) (p2 : Int32) : Int32 := (@ite _ (vp_in p1 (ix (σ 8 0))) (Classical.propDecidable _) (if M_isIn p2 (0 : Int32) (500 : Int32) = 0 then (2 : Int32) else (0 : Int32)) (1 : Int32))
theorem cw_X10_outage : Cond.instanceMethod yX10_outage ∈ GW ∧ Cond.selects RX10 yX10_outage yX10_outage ∈ GW ∧ Cond.initialized RX10 ∈ GW ∧ Cond.code yX10_outage cX10_outage 5 (some .int) ∈ GW ∧ yX10_outage.cls = RX10 ∧ (yX10_outage.cls ≠ "java/lang/invoke/MethodHandle" ∧ yX10_outage.cls ≠ "java/lang/invoke/VarHandle") ∧ (parseMethodDescriptor yX10_outage.desc).map (fun d => d.parameters.length) = some 2 := ⟨gw_3_118, gw_3_119, gw_1_1, gw_3_120, rfl, ⟨by decide, by decide⟩, by decide +kernel⟩
set_option maxRecDepth 100000 in
set_option maxHeartbeats 4000000 in
theorem c_X_outage {l : Launch} {D : va_G} {ca : Nat → Nat} {h : fH} {ρ : Nat → Nat → Nat} {μ : Nat → Nat → Int32} {cap : Nat → Nat} {σ : St} (hR : RX ca h ρ μ cap σ) (hI : InvX σ) (p1 : Int32) (p2 : Int32) : FM l D ca yX10_outage (.code yX10_outage cX10_outage 5 (some .int)) { frames := 8, cells := 2, slots := 12, locals := 146 } [.ref (ρ 0 0), .int p1, .int p2] h (pPub (some (.int (X_outage σ p1 p2))) (X_outage_c σ p1 p2) (fun h2 => RX ca h2 ρ μ cap (X_outage_s σ p1 p2))) (pxX (X_outage_c σ p1 p2) (fun h2 => RX ca h2 ρ μ cap (X_outage_s σ p1 p2))) := by
  refine FM.of [some (.ref (ρ 0 0)), some (.int p1), some (.int p2), none, none] (by decide) (Nat.le_of_ble_eq_true rfl) rfl ?_
  rintro K X rfl rfl rfl
  have q_v : (X_outage σ p1 p2) = (@ite _ (vp_in p1 (ix (σ 8 0))) (Classical.propDecidable _) (if M_isIn p2 (0 : Int32) (500 : Int32) = 0 then (0 : Int32) else (iMax ((σ 12 (ix p1)) - (σ 0 0)) (0 : Int32))) (0 : Int32)) := rfl
  have q_s : (X_outage_s σ p1 p2) = (@ite _ (vp_in p1 (ix (σ 8 0))) (Classical.propDecidable _) (if M_isIn p2 (0 : Int32) (500 : Int32) = 0 then σ else (sS σ 12 (ix p1) ((σ 0 0) + p2))) σ) := rfl
  have q_c : (X_outage_c σ p1 p2) = (@ite _ (vp_in p1 (ix (σ 8 0))) (Classical.propDecidable _) (if M_isIn p2 (0 : Int32) (500 : Int32) = 0 then (2 : Int32) else (0 : Int32)) (1 : Int32)) := rfl
  refine J_aload_0 X dX10_outage_0 ?_
  refine J_iload_1 X dX10_outage_1 ?_
  refine J_callV X (c_villageOf hR hI p1) (And.intro gw_3_47 cw_X10_villageOf) hR.root rfl rfl rfl (Nat.le_of_ble_eq_true rfl) dX10_outage_2 rfl (fun v h2 e => ?_) (fun E h2 e => ?_)
  · skip
    obtain ⟨e1, e2, c2⟩ := e
    subst e1
    rw [e2]
    clear e2
    rw [if_pos c2] at q_v
    rw [if_pos c2] at q_s
    rw [if_pos c2] at q_c
    show J K h [some (.ref (ρ 0 0)), some (.int p1), some (.int p2), none, none] [.ref (ρ 9 (ix p1))] 5 1 6
    refine J_astore_3 X dX10_outage_5 rfl (by decide) ?_
    refine J_iload_2 X dX10_outage_6 ?_
    refine J_iconst (v := 0) X dX10_outage_7 rfl ?_
    refine J_sipush (v := (500 : Int32)) X dX10_outage_8 (by decide) ?_
    refine J_callS X (c_needRange p2 (0 : Int32) (500 : Int32)) (And.intro gw_2_198 cw_X10_needRange) rfl rfl (Nat.le_of_ble_eq_true rfl) dX10_outage_11 rfl (fun v h2 e => ?_) (fun E h2 e => ?_)
    · skip
      obtain ⟨e1, e2, c11⟩ := e
      subst e1
      rw [e2]
      clear e2
      rw [if_neg c11] at q_v
      rw [if_neg c11] at q_s
      rw [if_neg c11] at q_c
      show J K h [some (.ref (ρ 0 0)), some (.int p1), some (.int p2), some (.ref (ρ 9 (ix p1))), none] [] 14 2 12
      refine J_aload_3 X dX10_outage_14 ?_
      refine J_get X (C := RX7) (T := TX7) (N := 5) (ref := "NightValley$Village") (hR.village (vp_lt c2)) rfl 4 (by decide) rfl in_X7 gw_3_31 (fun _ z => z) dX10_outage_15 ?_
      refine J_aload_0 X dX10_outage_18 ?_
      refine J_get X (C := RX10) (T := TX10) (N := 11) (ref := "NightValley") hR.root rfl 9 (by decide) rfl in_X10 gw_2_1 (fun _ z => z) dX10_outage_19 ?_
      refine J_isub X dX10_outage_22 ?_
      refine J_iconst (v := 0) X dX10_outage_23 rfl ?_
      refine J_mmax X gw_2_156 gw_1_165 gw_1_10 gw_1_166 rfl rfl dX10_outage_24 ?_
      refine J_istore_4 X dX10_outage_27 rfl (by decide) ?_
      refine J_aload_3 X dX10_outage_29 ?_
      refine J_aload_0 X dX10_outage_30 ?_
      refine J_get X (C := RX10) (T := TX10) (N := 11) (ref := "NightValley") hR.root rfl 9 (by decide) rfl in_X10 gw_2_1 (fun _ z => z) dX10_outage_31 ?_
      refine J_iload_2 X dX10_outage_34 ?_
      refine J_iadd X dX10_outage_35 ?_
      refine JX_p9_4 X hR (i := (ix p1)) (vp_lt c2) (v := ((σ 0 0) + p2)) gw_3_31 dX10_outage_36 (fun h1 hR1 => ?_)
      refine J_iload_4 X dX10_outage_39 ?_
      exact J_iret X rfl rfl ⟨by rw [q_v], by rw [q_c], by rw [q_s]; exact hR1⟩ dX10_outage_41
    · skip
      obtain ⟨e1, e2, c11⟩ := e
      subst e1
      rw [e2]
      clear e2
      rw [if_pos c11] at q_v
      rw [if_pos c11] at q_s
      rw [if_pos c11] at q_c
      exact JE_out X rfl rfl ⟨by rw [q_c]; rfl, by rw [q_c]; decide, by rw [q_s]; exact hR⟩
  · skip
    obtain ⟨e1, e2, c2⟩ := e
    subst e1
    rw [e2]
    clear e2
    rw [if_neg c2] at q_v
    rw [if_neg c2] at q_s
    rw [if_neg c2] at q_c
    exact JE_out X rfl rfl ⟨by rw [q_c]; rfl, by rw [q_c]; decide, by rw [q_s]; exact hR⟩
def X_tell (σ : St) (p1 : Int32) (p2 : Int32) : Int32 := (@ite _ (vp_in p1 (ix (σ 26 0))) (Classical.propDecidable _) (if M_isIn p2 (-5000 : Int32) (5000 : Int32) = 0 then (0 : Int32) else (σ 30 (ix p1))) (0 : Int32))
def X_tell_s (σ : St) (p1 : Int32) (p2 : Int32) : St := (@ite _ (vp_in p1 (ix (σ 26 0))) (Classical.propDecidable _) (if M_isIn p2 (-5000 : Int32) (5000 : Int32) = 0 then σ else (sS σ 30 (ix p1) p2)) σ)
def X_tell_c (σ : St) (p1 : Int32) (p2 : Int32) : Int32 := (@ite _ (vp_in p1 (ix (σ 26 0))) (Classical.propDecidable _) (if M_isIn p2 (-5000 : Int32) (5000 : Int32) = 0 then (2 : Int32) else (0 : Int32)) (1 : Int32))
theorem cw_X10_tell : Cond.instanceMethod yX10_tell ∈ GW ∧ Cond.selects RX10 yX10_tell yX10_tell ∈ GW ∧ Cond.initialized RX10 ∈ GW ∧ Cond.code yX10_tell cX10_tell 5 (some .int) ∈ GW ∧ yX10_tell.cls = RX10 ∧ (yX10_tell.cls ≠ "java/lang/invoke/MethodHandle" ∧ yX10_tell.cls ≠ "java/lang/invoke/VarHandle") ∧ (parseMethodDescriptor yX10_tell.desc).map (fun d => d.parameters.length) = some 2 := ⟨gw_3_234, gw_3_235, gw_1_1, gw_3_236, rfl, ⟨by decide, by decide⟩, by decide +kernel⟩
set_option maxRecDepth 100000 in
set_option maxHeartbeats 4000000 in
theorem c_X_tell {l : Launch} {D : va_G} {ca : Nat → Nat} {h : fH} {ρ : Nat → Nat → Nat} {μ : Nat → Nat → Int32} {cap : Nat → Nat} {σ : St} (hR : RX ca h ρ μ cap σ) (hI : InvX σ) (p1 : Int32) (p2 : Int32) : FM l D ca yX10_tell (.code yX10_tell cX10_tell 5 (some .int)) { frames := 8, cells := 2, slots := 12, locals := 146 } [.ref (ρ 0 0), .int p1, .int p2] h (pPub (some (.int (X_tell σ p1 p2))) (X_tell_c σ p1 p2) (fun h2 => RX ca h2 ρ μ cap (X_tell_s σ p1 p2))) (pxX (X_tell_c σ p1 p2) (fun h2 => RX ca h2 ρ μ cap (X_tell_s σ p1 p2))) := by
  refine FM.of [some (.ref (ρ 0 0)), some (.int p1), some (.int p2), none, none] (by decide) (Nat.le_of_ble_eq_true rfl) rfl ?_
  rintro K X rfl rfl rfl
  have q_v : (X_tell σ p1 p2) = (@ite _ (vp_in p1 (ix (σ 26 0))) (Classical.propDecidable _) (if M_isIn p2 (-5000 : Int32) (5000 : Int32) = 0 then (0 : Int32) else (σ 30 (ix p1))) (0 : Int32)) := rfl
  have q_s : (X_tell_s σ p1 p2) = (@ite _ (vp_in p1 (ix (σ 26 0))) (Classical.propDecidable _) (if M_isIn p2 (-5000 : Int32) (5000 : Int32) = 0 then σ else (sS σ 30 (ix p1) p2)) σ) := rfl
  have q_c : (X_tell_c σ p1 p2) = (@ite _ (vp_in p1 (ix (σ 26 0))) (Classical.propDecidable _) (if M_isIn p2 (-5000 : Int32) (5000 : Int32) = 0 then (2 : Int32) else (0 : Int32)) (1 : Int32)) := rfl
  refine J_aload_0 X dX10_tell_0 ?_
  refine J_iload_1 X dX10_tell_1 ?_
  refine J_callV X (c_meterOf hR hI p1) (And.intro gw_3_186 cw_X10_meterOf) hR.root rfl rfl rfl (Nat.le_of_ble_eq_true rfl) dX10_tell_2 rfl (fun v h2 e => ?_) (fun E h2 e => ?_)
  · skip
    obtain ⟨e1, e2, c2⟩ := e
    subst e1
    rw [e2]
    clear e2
    rw [if_pos c2] at q_v
    rw [if_pos c2] at q_s
    rw [if_pos c2] at q_c
    show J K h [some (.ref (ρ 0 0)), some (.int p1), some (.int p2), none, none] [.ref (ρ 11 (ix p1))] 5 1 6
    refine J_astore_3 X dX10_tell_5 rfl (by decide) ?_
    refine J_iload_2 X dX10_tell_6 ?_
    refine J_sipush (v := (-5000 : Int32)) X dX10_tell_7 (by decide) ?_
    refine J_sipush (v := (5000 : Int32)) X dX10_tell_10 (by decide) ?_
    refine J_callS X (c_needRange p2 (-5000 : Int32) (5000 : Int32)) (And.intro gw_2_198 cw_X10_needRange) rfl rfl (Nat.le_of_ble_eq_true rfl) dX10_tell_13 rfl (fun v h2 e => ?_) (fun E h2 e => ?_)
    · skip
      obtain ⟨e1, e2, c13⟩ := e
      subst e1
      rw [e2]
      clear e2
      rw [if_neg c13] at q_v
      rw [if_neg c13] at q_s
      rw [if_neg c13] at q_c
      show J K h [some (.ref (ρ 0 0)), some (.int p1), some (.int p2), some (.ref (ρ 11 (ix p1))), none] [] 16 2 12
      refine J_aload_3 X dX10_tell_16 ?_
      refine J_get X (C := RX3) (T := TX3) (N := 5) (ref := "NightValley$Meter") (hR.meter (vp_lt c2)) rfl 4 (by decide) rfl in_X3 gw_3_170 (fun _ z => z) dX10_tell_17 ?_
      refine J_istore_4 X dX10_tell_20 rfl (by decide) ?_
      refine J_aload_3 X dX10_tell_22 ?_
      refine J_iload_2 X dX10_tell_23 ?_
      refine JX_p11_4 X hR (i := (ix p1)) (vp_lt c2) (v := p2) gw_3_170 dX10_tell_24 (fun h1 hR1 => ?_)
      refine J_iload_4 X dX10_tell_27 ?_
      exact J_iret X rfl rfl ⟨by rw [q_v], by rw [q_c], by rw [q_s]; exact hR1⟩ dX10_tell_29
    · skip
      obtain ⟨e1, e2, c13⟩ := e
      subst e1
      rw [e2]
      clear e2
      rw [if_pos c13] at q_v
      rw [if_pos c13] at q_s
      rw [if_pos c13] at q_c
      exact JE_out X rfl rfl ⟨by rw [q_c]; rfl, by rw [q_c]; decide, by rw [q_s]; exact hR⟩
  · skip
    obtain ⟨e1, e2, c2⟩ := e
    subst e1
    rw [e2]
    clear e2
    rw [if_neg c2] at q_v
    rw [if_neg c2] at q_s
    rw [if_neg c2] at q_c
    exact JE_out X rfl rfl ⟨by rw [q_c]; rfl, by rw [q_c]; decide, by rw [q_s]; exact hR⟩
def X_time (σ : St) : Int32 := (σ 0 0)
def X_time_s (σ : St) : St := σ
def X_time_c (σ : St) : Int32 := (0 : Int32)
theorem cw_X10_time : Cond.instanceMethod yX10_time ∈ GW ∧ Cond.selects RX10 yX10_time yX10_time ∈ GW ∧ Cond.initialized RX10 ∈ GW ∧ Cond.code yX10_time cX10_time 1 (some .int) ∈ GW ∧ yX10_time.cls = RX10 ∧ (yX10_time.cls ≠ "java/lang/invoke/MethodHandle" ∧ yX10_time.cls ≠ "java/lang/invoke/VarHandle") ∧ (parseMethodDescriptor yX10_time.desc).map (fun d => d.parameters.length) = some 0 := ⟨gw_4_79, gw_4_80, gw_1_1, gw_4_81, rfl, ⟨by decide, by decide⟩, by decide +kernel⟩
set_option maxRecDepth 100000 in
set_option maxHeartbeats 4000000 in
theorem c_X_time {l : Launch} {D : va_G} {ca : Nat → Nat} {h : fH} {ρ : Nat → Nat → Nat} {μ : Nat → Nat → Int32} {cap : Nat → Nat} {σ : St} (hR : RX ca h ρ μ cap σ) (hI : InvX σ) : FM l D ca yX10_time (.code yX10_time cX10_time 1 (some .int)) { frames := 1, cells := 0, slots := 0, locals := 20 } [.ref (ρ 0 0)] h (pPub (some (.int (X_time σ))) (X_time_c σ) (fun h2 => RX ca h2 ρ μ cap (X_time_s σ))) (pxX (X_time_c σ) (fun h2 => RX ca h2 ρ μ cap (X_time_s σ))) := by
  refine FM.of [some (.ref (ρ 0 0))] (by decide) (Nat.le_of_ble_eq_true rfl) rfl ?_
  rintro K X rfl rfl rfl
  have q_v : (X_time σ) = (σ 0 0) := rfl
  have q_s : (X_time_s σ) = σ := rfl
  have q_c : (X_time_c σ) = (0 : Int32) := rfl
  refine J_aload_0 X dX10_time_0 ?_
  refine J_get X (C := RX10) (T := TX10) (N := 11) (ref := "NightValley") hR.root rfl 9 (by decide) rfl in_X10 gw_2_1 (fun _ z => z) dX10_time_1 ?_
  exact J_iret X rfl rfl ⟨by rw [q_v], by rw [q_c], by rw [q_s]; exact hR⟩ dX10_time_4
def X_isHeld (σ : St) : Int32 := (if (σ 34 0) = 0 then 1 else 0)
def X_isHeld_s (σ : St) : St := σ
def X_isHeld_c (σ : St) : Int32 := (0 : Int32)
theorem cw_X10_isHeld : Cond.instanceMethod yX10_isHeld ∈ GW ∧ Cond.selects RX10 yX10_isHeld yX10_isHeld ∈ GW ∧ Cond.initialized RX10 ∈ GW ∧ Cond.code yX10_isHeld cX10_isHeld 1 (some .boolean) ∈ GW ∧ yX10_isHeld.cls = RX10 ∧ (yX10_isHeld.cls ≠ "java/lang/invoke/MethodHandle" ∧ yX10_isHeld.cls ≠ "java/lang/invoke/VarHandle") ∧ (parseMethodDescriptor yX10_isHeld.desc).map (fun d => d.parameters.length) = some 0 := ⟨gw_4_83, gw_4_84, gw_1_1, gw_4_85, rfl, ⟨by decide, by decide⟩, by decide +kernel⟩
set_option maxRecDepth 100000 in
set_option maxHeartbeats 4000000 in
theorem c_X_isHeld {l : Launch} {D : va_G} {ca : Nat → Nat} {h : fH} {ρ : Nat → Nat → Nat} {μ : Nat → Nat → Int32} {cap : Nat → Nat} {σ : St} (hR : RX ca h ρ μ cap σ) (hI : InvX σ) : FM l D ca yX10_isHeld (.code yX10_isHeld cX10_isHeld 1 (some .boolean)) { frames := 1, cells := 0, slots := 0, locals := 20 } [.ref (ρ 0 0)] h (pPub (some (.int (X_isHeld σ))) (X_isHeld_c σ) (fun h2 => RX ca h2 ρ μ cap (X_isHeld_s σ))) (pxX (X_isHeld_c σ) (fun h2 => RX ca h2 ρ μ cap (X_isHeld_s σ))) := by
  refine FM.of [some (.ref (ρ 0 0))] (by decide) (Nat.le_of_ble_eq_true rfl) rfl ?_
  rintro K X rfl rfl rfl
  have q_v : (X_isHeld σ) = (if (σ 34 0) = 0 then 1 else 0) := rfl
  have q_s : (X_isHeld_s σ) = σ := rfl
  have q_c : (X_isHeld_c σ) = (0 : Int32) := rfl
  refine J_aload_0 X dX10_isHeld_0 ?_
  refine J_get X (C := RX10) (T := TX10) (N := 11) (ref := "NightValley") hR.root rfl 6 (by decide) rfl in_X10 gw_1_238 (fun _ z => z) dX10_isHeld_1 ?_
  refine J_get X (C := RX1) (T := TX1) (N := 3) (ref := "NightValley$Label") hR.label rfl 0 (by decide) rfl in_X1 gw_1_67 (fun _ z => z) dX10_isHeld_4 ?_
  exact J_zret X rfl (by split <;> first | exact Or.inl rfl | exact Or.inr rfl) rfl ⟨by rw [q_v], by rw [q_c], by rw [q_s]; exact hR⟩ dX10_isHeld_7
def X_gives (σ : St) (p1 : Int32) (p2 : Int32) : Int32 := (@ite _ (vp_in p1 (ix (σ 13 0))) (Classical.propDecidable _) (@ite _ (vp_in p2 64) (Classical.propDecidable _) (X_givenBy σ (ix p1) (ix p2)) (0 : Int32)) (0 : Int32))
def X_gives_s (σ : St) (p1 : Int32) (p2 : Int32) : St := (@ite _ (vp_in p1 (ix (σ 13 0))) (Classical.propDecidable _) (@ite _ (vp_in p2 64) (Classical.propDecidable _) σ σ) σ)
def X_gives_c (σ : St) (p1 : Int32) (p2 : Int32) : Int32 := (@ite _ (vp_in p1 (ix (σ 13 0))) (Classical.propDecidable _) (@ite _ (vp_in p2 64) (Classical.propDecidable _) (0 : Int32) (1 : Int32)) (1 : Int32))
theorem cw_X10_gives : Cond.instanceMethod yX10_gives ∈ GW ∧ Cond.selects RX10 yX10_gives yX10_gives ∈ GW ∧ Cond.initialized RX10 ∈ GW ∧ Cond.code yX10_gives cX10_gives 4 (some .int) ∈ GW ∧ yX10_gives.cls = RX10 ∧ (yX10_gives.cls ≠ "java/lang/invoke/MethodHandle" ∧ yX10_gives.cls ≠ "java/lang/invoke/VarHandle") ∧ (parseMethodDescriptor yX10_gives.desc).map (fun d => d.parameters.length) = some 2 := ⟨gw_4_108, gw_4_109, gw_1_1, gw_4_110, rfl, ⟨by decide, by decide⟩, by decide +kernel⟩
set_option maxRecDepth 100000 in
set_option maxHeartbeats 4000000 in
theorem c_X_gives {l : Launch} {D : va_G} {ca : Nat → Nat} {h : fH} {ρ : Nat → Nat → Nat} {μ : Nat → Nat → Int32} {cap : Nat → Nat} {σ : St} (hR : RX ca h ρ μ cap σ) (hI : InvX σ) (p1 : Int32) (p2 : Int32) : FM l D ca yX10_gives (.code yX10_gives cX10_gives 4 (some .int)) { frames := 8, cells := 2, slots := 12, locals := 145 } [.ref (ρ 0 0), .int p1, .int p2] h (pPub (some (.int (X_gives σ p1 p2))) (X_gives_c σ p1 p2) (fun h2 => RX ca h2 ρ μ cap (X_gives_s σ p1 p2))) (pxX (X_gives_c σ p1 p2) (fun h2 => RX ca h2 ρ μ cap (X_gives_s σ p1 p2))) := by
  refine FM.of [some (.ref (ρ 0 0)), some (.int p1), some (.int p2), none] (by decide) (Nat.le_of_ble_eq_true rfl) rfl ?_
  rintro K X rfl rfl rfl
  have q_v : (X_gives σ p1 p2) = (@ite _ (vp_in p1 (ix (σ 13 0))) (Classical.propDecidable _) (@ite _ (vp_in p2 64) (Classical.propDecidable _) (X_givenBy σ (ix p1) (ix p2)) (0 : Int32)) (0 : Int32)) := rfl
  have q_s : (X_gives_s σ p1 p2) = (@ite _ (vp_in p1 (ix (σ 13 0))) (Classical.propDecidable _) (@ite _ (vp_in p2 64) (Classical.propDecidable _) σ σ) σ) := rfl
  have q_c : (X_gives_c σ p1 p2) = (@ite _ (vp_in p1 (ix (σ 13 0))) (Classical.propDecidable _) (@ite _ (vp_in p2 64) (Classical.propDecidable _) (0 : Int32) (1 : Int32)) (1 : Int32)) := rfl
  refine J_aload_0 X dX10_gives_0 ?_
  refine J_iload_1 X dX10_gives_1 ?_
  refine J_callV X (c_lampOf hR hI p1) (And.intro gw_3_108 cw_X10_lampOf) hR.root rfl rfl rfl (Nat.le_of_ble_eq_true rfl) dX10_gives_2 rfl (fun v h2 e => ?_) (fun E h2 e => ?_)
  · skip
    obtain ⟨e1, e2, c2⟩ := e
    subst e1
    rw [e2]
    clear e2
    rw [if_pos c2] at q_v
    rw [if_pos c2] at q_s
    rw [if_pos c2] at q_c
    show J K h [some (.ref (ρ 0 0)), some (.int p1), some (.int p2), none] [.ref (ρ 10 (ix p1))] 5 1 6
    refine J_astore_3 X dX10_gives_5 rfl (by decide) ?_
    refine J_aload_0 X dX10_gives_6 ?_
    refine J_aload_3 X dX10_gives_7 ?_
    refine J_aload_0 X dX10_gives_8 ?_
    refine J_iload_2 X dX10_gives_9 ?_
    refine J_callV X (c_placeOf hR hI p2) (And.intro gw_2_30 cw_X10_placeOf) hR.root rfl rfl rfl (Nat.le_of_ble_eq_true rfl) dX10_gives_10 rfl (fun v h2 e => ?_) (fun E h2 e => ?_)
    · skip
      obtain ⟨e1, e2, c10⟩ := e
      subst e1
      rw [e2]
      clear e2
      rw [if_pos c10] at q_v
      rw [if_pos c10] at q_s
      rw [if_pos c10] at q_c
      show J K h [some (.ref (ρ 0 0)), some (.int p1), some (.int p2), some (.ref (ρ 10 (ix p1)))] [.ref (ρ 8 (ix p2)), .ref (ρ 10 (ix p1)), .ref (ρ 0 0)] 13 2 12
      refine J_callV X (c_X_givenBy hR hI (ix p1) (ix p2) (vp_lt c2) (vp_lt c10)) (And.intro gw_2_119 cw_X10_givenBy) hR.root rfl rfl rfl (Nat.le_of_ble_eq_true rfl) dX10_gives_13 rfl (J.pi ?_) JE.no
      exact J_iret X rfl rfl ⟨by rw [q_v], by rw [q_c], by rw [q_s]; exact hR⟩ dX10_gives_16
    · skip
      obtain ⟨e1, e2, c10⟩ := e
      subst e1
      rw [e2]
      clear e2
      rw [if_neg c10] at q_v
      rw [if_neg c10] at q_s
      rw [if_neg c10] at q_c
      exact JE_out X rfl rfl ⟨by rw [q_c]; rfl, by rw [q_c]; decide, by rw [q_s]; exact hR⟩
  · skip
    obtain ⟨e1, e2, c2⟩ := e
    subst e1
    rw [e2]
    clear e2
    rw [if_neg c2] at q_v
    rw [if_neg c2] at q_s
    rw [if_neg c2] at q_c
    exact JE_out X rfl rfl ⟨by rw [q_c]; rfl, by rw [q_c]; decide, by rw [q_s]; exact hR⟩
def X_glow (σ : St) (p1 : Int32) : Int32 := (@ite _ (vp_in p1 64) (Classical.propDecidable _) (X_glowOf σ (ix p1)) (0 : Int32))
def X_glow_s (σ : St) (p1 : Int32) : St := (@ite _ (vp_in p1 64) (Classical.propDecidable _) σ σ)
def X_glow_c (σ : St) (p1 : Int32) : Int32 := (@ite _ (vp_in p1 64) (Classical.propDecidable _) (0 : Int32) (1 : Int32))
theorem cw_X10_glow : Cond.instanceMethod yX10_glow ∈ GW ∧ Cond.selects RX10 yX10_glow yX10_glow ∈ GW ∧ Cond.initialized RX10 ∈ GW ∧ Cond.code yX10_glow cX10_glow 2 (some .int) ∈ GW ∧ yX10_glow.cls = RX10 ∧ (yX10_glow.cls ≠ "java/lang/invoke/MethodHandle" ∧ yX10_glow.cls ≠ "java/lang/invoke/VarHandle") ∧ (parseMethodDescriptor yX10_glow.desc).map (fun d => d.parameters.length) = some 1 := ⟨gw_4_112, gw_4_113, gw_1_1, gw_4_114, rfl, ⟨by decide, by decide⟩, by decide +kernel⟩
set_option maxRecDepth 100000 in
set_option maxHeartbeats 4000000 in
theorem c_X_glow {l : Launch} {D : va_G} {ca : Nat → Nat} {h : fH} {ρ : Nat → Nat → Nat} {μ : Nat → Nat → Int32} {cap : Nat → Nat} {σ : St} (hR : RX ca h ρ μ cap σ) (hI : InvX σ) (p1 : Int32) : FM l D ca yX10_glow (.code yX10_glow cX10_glow 2 (some .int)) { frames := 8, cells := 1, slots := 6, locals := 161 } [.ref (ρ 0 0), .int p1] h (pPub (some (.int (X_glow σ p1))) (X_glow_c σ p1) (fun h2 => RX ca h2 ρ μ cap (X_glow_s σ p1))) (pxX (X_glow_c σ p1) (fun h2 => RX ca h2 ρ μ cap (X_glow_s σ p1))) := by
  refine FM.of [some (.ref (ρ 0 0)), some (.int p1)] (by decide) (Nat.le_of_ble_eq_true rfl) rfl ?_
  rintro K X rfl rfl rfl
  have q_v : (X_glow σ p1) = (@ite _ (vp_in p1 64) (Classical.propDecidable _) (X_glowOf σ (ix p1)) (0 : Int32)) := rfl
  have q_s : (X_glow_s σ p1) = (@ite _ (vp_in p1 64) (Classical.propDecidable _) σ σ) := rfl
  have q_c : (X_glow_c σ p1) = (@ite _ (vp_in p1 64) (Classical.propDecidable _) (0 : Int32) (1 : Int32)) := rfl
  refine J_aload_0 X dX10_glow_0 ?_
  refine J_aload_0 X dX10_glow_1 ?_
  refine J_iload_1 X dX10_glow_2 ?_
  refine J_callV X (c_placeOf hR hI p1) (And.intro gw_2_30 cw_X10_placeOf) hR.root rfl rfl rfl (Nat.le_of_ble_eq_true rfl) dX10_glow_3 rfl (fun v h2 e => ?_) (fun E h2 e => ?_)
  · skip
    obtain ⟨e1, e2, c3⟩ := e
    subst e1
    rw [e2]
    clear e2
    rw [if_pos c3] at q_v
    rw [if_pos c3] at q_s
    rw [if_pos c3] at q_c
    show J K h [some (.ref (ρ 0 0)), some (.int p1)] [.ref (ρ 8 (ix p1)), .ref (ρ 0 0)] 6 1 6
    refine J_callV X (c_X_glowOf hR hI (ix p1) (vp_lt c3)) (And.intro gw_3_190 cw_X10_glowOf) hR.root rfl rfl rfl (Nat.le_of_ble_eq_true rfl) dX10_glow_6 rfl (J.pi ?_) JE.no
    exact J_iret X rfl rfl ⟨by rw [q_v], by rw [q_c], by rw [q_s]; exact hR⟩ dX10_glow_9
  · skip
    obtain ⟨e1, e2, c3⟩ := e
    subst e1
    rw [e2]
    clear e2
    rw [if_neg c3] at q_v
    rw [if_neg c3] at q_s
    rw [if_neg c3] at q_c
    exact JE_out X rfl rfl ⟨by rw [q_c]; rfl, by rw [q_c]; decide, by rw [q_s]; exact hR⟩
def X_ofLamp_j99 (σ : St) (p1 : Int32) (p2 : Int32) : Int32 := (if (X_isUnlawful σ (ix p1)) = (0 : Int32) then (0 : Int32) else (1 : Int32))
theorem X_ofLamp_j99_b (σ : St) (p1 : Int32) (p2 : Int32) : X_ofLamp_j99 σ p1 p2 = 0 ∨ X_ofLamp_j99 σ p1 p2 = 1 := by
  unfold X_ofLamp_j99
  (repeat' split) <;> first | exact Or.inl rfl | exact Or.inr rfl
def X_ofLamp_j57 (σ : St) (p1 : Int32) (p2 : Int32) : Int32 := (if (X_isBurning σ (ix p1)) = (0 : Int32) then (0 : Int32) else (1 : Int32))
theorem X_ofLamp_j57_b (σ : St) (p1 : Int32) (p2 : Int32) : X_ofLamp_j57 σ p1 p2 = 0 ∨ X_ofLamp_j57 σ p1 p2 = 1 := by
  unfold X_ofLamp_j57
  (repeat' split) <;> first | exact Or.inl rfl | exact Or.inr rfl
def X_ofLamp (σ : St) (p1 : Int32) (p2 : Int32) : Int32 := (@ite _ (vp_in p1 (ix (σ 13 0))) (Classical.propDecidable _) (if M_isIn p2 (0 : Int32) (6 : Int32) = 0 then (0 : Int32) else (if p2 = 0 then (X_ofLamp_j57 σ p1 p2) else (if p2 = 1 then (X_light σ (ix p1)) else (if p2 = 2 then (σ 23 (ix p1)) else (if p2 = 3 then (σ 18 (ix p1)) else (if p2 = 4 then (σ 19 (ix p1)) else (if p2 = 5 then (X_boundHours σ (ix p1) (σ 0 0)) else (X_ofLamp_j99 σ p1 p2)))))))) (0 : Int32))
def X_ofLamp_s (σ : St) (p1 : Int32) (p2 : Int32) : St := (@ite _ (vp_in p1 (ix (σ 13 0))) (Classical.propDecidable _) (if M_isIn p2 (0 : Int32) (6 : Int32) = 0 then σ else (if p2 = 0 then σ else (if p2 = 1 then σ else (if p2 = 2 then σ else (if p2 = 3 then σ else (if p2 = 4 then σ else (if p2 = 5 then σ else σ))))))) σ)
def X_ofLamp_c (σ : St) (p1 : Int32) (p2 : Int32) : Int32 := (@ite _ (vp_in p1 (ix (σ 13 0))) (Classical.propDecidable _) (if M_isIn p2 (0 : Int32) (6 : Int32) = 0 then (2 : Int32) else (if p2 = 0 then (0 : Int32) else (if p2 = 1 then (0 : Int32) else (if p2 = 2 then (0 : Int32) else (if p2 = 3 then (0 : Int32) else (if p2 = 4 then (0 : Int32) else (if p2 = 5 then (0 : Int32) else (0 : Int32)))))))) (1 : Int32))
theorem cw_X10_ofLamp : Cond.instanceMethod yX10_ofLamp ∈ GW ∧ Cond.selects RX10 yX10_ofLamp yX10_ofLamp ∈ GW ∧ Cond.initialized RX10 ∈ GW ∧ Cond.code yX10_ofLamp cX10_ofLamp 4 (some .int) ∈ GW ∧ yX10_ofLamp.cls = RX10 ∧ (yX10_ofLamp.cls ≠ "java/lang/invoke/MethodHandle" ∧ yX10_ofLamp.cls ≠ "java/lang/invoke/VarHandle") ∧ (parseMethodDescriptor yX10_ofLamp.desc).map (fun d => d.parameters.length) = some 2 := ⟨gw_3_238, gw_3_239, gw_1_1, gw_4_0, rfl, ⟨by decide, by decide⟩, by decide +kernel⟩
set_option maxRecDepth 100000 in
set_option maxHeartbeats 4000000 in
theorem c_X_ofLamp {l : Launch} {D : va_G} {ca : Nat → Nat} {h : fH} {ρ : Nat → Nat → Nat} {μ : Nat → Nat → Int32} {cap : Nat → Nat} {σ : St} (hR : RX ca h ρ μ cap σ) (hI : InvX σ) (p1 : Int32) (p2 : Int32) : FM l D ca yX10_ofLamp (.code yX10_ofLamp cX10_ofLamp 4 (some .int)) { frames := 8, cells := 2, slots := 12, locals := 145 } [.ref (ρ 0 0), .int p1, .int p2] h (pPub (some (.int (X_ofLamp σ p1 p2))) (X_ofLamp_c σ p1 p2) (fun h2 => RX ca h2 ρ μ cap (X_ofLamp_s σ p1 p2))) (pxX (X_ofLamp_c σ p1 p2) (fun h2 => RX ca h2 ρ μ cap (X_ofLamp_s σ p1 p2))) := by
  refine FM.of [some (.ref (ρ 0 0)), some (.int p1), some (.int p2), none] (by decide) (Nat.le_of_ble_eq_true rfl) rfl ?_
  rintro K X rfl rfl rfl
  have q_v : (X_ofLamp σ p1 p2) = (@ite _ (vp_in p1 (ix (σ 13 0))) (Classical.propDecidable _) (if M_isIn p2 (0 : Int32) (6 : Int32) = 0 then (0 : Int32) else (if p2 = 0 then (X_ofLamp_j57 σ p1 p2) else (if p2 = 1 then (X_light σ (ix p1)) else (if p2 = 2 then (σ 23 (ix p1)) else (if p2 = 3 then (σ 18 (ix p1)) else (if p2 = 4 then (σ 19 (ix p1)) else (if p2 = 5 then (X_boundHours σ (ix p1) (σ 0 0)) else (X_ofLamp_j99 σ p1 p2)))))))) (0 : Int32)) := rfl
  have q_s : (X_ofLamp_s σ p1 p2) = (@ite _ (vp_in p1 (ix (σ 13 0))) (Classical.propDecidable _) (if M_isIn p2 (0 : Int32) (6 : Int32) = 0 then σ else (if p2 = 0 then σ else (if p2 = 1 then σ else (if p2 = 2 then σ else (if p2 = 3 then σ else (if p2 = 4 then σ else (if p2 = 5 then σ else σ))))))) σ) := rfl
  have q_c : (X_ofLamp_c σ p1 p2) = (@ite _ (vp_in p1 (ix (σ 13 0))) (Classical.propDecidable _) (if M_isIn p2 (0 : Int32) (6 : Int32) = 0 then (2 : Int32) else (if p2 = 0 then (0 : Int32) else (if p2 = 1 then (0 : Int32) else (if p2 = 2 then (0 : Int32) else (if p2 = 3 then (0 : Int32) else (if p2 = 4 then (0 : Int32) else (if p2 = 5 then (0 : Int32) else (0 : Int32)))))))) (1 : Int32)) := rfl
  refine J_aload_0 X dX10_ofLamp_0 ?_
  refine J_iload_1 X dX10_ofLamp_1 ?_
  refine J_callV X (c_lampOf hR hI p1) (And.intro gw_3_108 cw_X10_lampOf) hR.root rfl rfl rfl (Nat.le_of_ble_eq_true rfl) dX10_ofLamp_2 rfl (fun v h2 e => ?_) (fun E h2 e => ?_)
  · skip
    obtain ⟨e1, e2, c2⟩ := e
    subst e1
    rw [e2]
    clear e2
    rw [if_pos c2] at q_v
    rw [if_pos c2] at q_s
    rw [if_pos c2] at q_c
    show J K h [some (.ref (ρ 0 0)), some (.int p1), some (.int p2), none] [.ref (ρ 10 (ix p1))] 5 1 6
    refine J_astore_3 X dX10_ofLamp_5 rfl (by decide) ?_
    refine J_iload_2 X dX10_ofLamp_6 ?_
    refine J_iconst (v := 0) X dX10_ofLamp_7 rfl ?_
    refine J_bipush (v := (6 : Int32)) X dX10_ofLamp_8 (by decide) ?_
    refine J_callS X (c_needRange p2 (0 : Int32) (6 : Int32)) (And.intro gw_2_198 cw_X10_needRange) rfl rfl (Nat.le_of_ble_eq_true rfl) dX10_ofLamp_10 rfl (fun v h2 e => ?_) (fun E h2 e => ?_)
    · skip
      obtain ⟨e1, e2, c10⟩ := e
      subst e1
      rw [e2]
      clear e2
      rw [if_neg c10] at q_v
      rw [if_neg c10] at q_s
      rw [if_neg c10] at q_c
      show J K h [some (.ref (ρ 0 0)), some (.int p1), some (.int p2), some (.ref (ρ 10 (ix p1)))] [] 13 2 12
      refine J_iload_2 X dX10_ofLamp_13 ?_
      by_cases c14_0 : p2 = 0
      · skip
        rw [if_pos c14_0] at q_v
        rw [if_pos c14_0] at q_s
        rw [if_pos c14_0] at q_c
        refine J.eqi c14_0 ?_
        refine J_tabIn (tgt := 52) X dX10_ofLamp_14 (by decide) (by decide) rfl (by decide) ?_
        refine J_aload_0 X dX10_ofLamp_52 ?_
        refine J_aload_3 X dX10_ofLamp_53 ?_
        refine J_callV X (c_X_isBurning hR hI (ix p1) (vp_lt c2)) (And.intro gw_2_123 cw_X10_isBurning) hR.root rfl rfl rfl (Nat.le_of_ble_eq_true rfl) dX10_ofLamp_54 rfl (J.pi ?_) JE.no
        have K57_65 : ∀ (v57_0 : Int32), v57_0 = (X_ofLamp_j57 σ p1 p2) → J K h [some (.ref (ρ 0 0)), some (.int p1), some (.int p2), some (.ref (ρ 10 (ix p1)))] [.int v57_0] 65 2 12 := by
          intro v57_0 ev57_0
          try rw [ev57_0]
          clear ev57_0
          exact J_iret X rfl rfl ⟨by rw [q_v], by rw [q_c], by rw [q_s]; exact hR⟩ dX10_ofLamp_65
        have j57_0 : X_ofLamp_j57 σ p1 p2 = (if (X_isBurning σ (ix p1)) = (0 : Int32) then (0 : Int32) else (1 : Int32)) := rfl
        refine J_if_eq (tgt := 64) X dX10_ofLamp_57 (by decide) (fun c57 => ?_) (fun c57 => ?_)
        · skip
          rw [if_pos c57] at j57_0
          refine J_iconst (v := 0) X dX10_ofLamp_64 rfl ?_
          exact K57_65 _ j57_0.symm
        · skip
          rw [if_neg c57] at j57_0
          refine J_iconst (v := 1) X dX10_ofLamp_60 rfl ?_
          refine J_goto (tgt := 65) X dX10_ofLamp_61 (by decide) ?_
          exact K57_65 _ j57_0.symm
      rw [if_neg c14_0] at q_v
      rw [if_neg c14_0] at q_s
      rw [if_neg c14_0] at q_c
      by_cases c14_1 : p2 = 1
      · skip
        rw [if_pos c14_1] at q_v
        rw [if_pos c14_1] at q_s
        rw [if_pos c14_1] at q_c
        refine J.eqi c14_1 ?_
        refine J_tabIn (tgt := 66) X dX10_ofLamp_14 (by decide) (by decide) rfl (by decide) ?_
        refine J_aload_3 X dX10_ofLamp_66 ?_
        refine J_callV X (c_X_light hR (ix p1) (vp_lt c2)) (And.intro gw_4_1 cw_X2_light) (hR.lamp (vp_lt c2)) rfl rfl rfl (Nat.le_of_ble_eq_true rfl) dX10_ofLamp_67 rfl (J.pi ?_) JE.no
        exact J_iret X rfl rfl ⟨by rw [q_v], by rw [q_c], by rw [q_s]; exact hR⟩ dX10_ofLamp_70
      rw [if_neg c14_1] at q_v
      rw [if_neg c14_1] at q_s
      rw [if_neg c14_1] at q_c
      by_cases c14_2 : p2 = 2
      · skip
        rw [if_pos c14_2] at q_v
        rw [if_pos c14_2] at q_s
        rw [if_pos c14_2] at q_c
        refine J.eqi c14_2 ?_
        refine J_tabIn (tgt := 71) X dX10_ofLamp_14 (by decide) (by decide) rfl (by decide) ?_
        refine J_aload_3 X dX10_ofLamp_71 ?_
        refine J_get X (C := RX2) (T := TX2) (N := 12) (ref := "NightValley$Lamp") (hR.lamp (vp_lt c2)) rfl 9 (by decide) rfl in_X2 gw_3_73 (fun _ z => z) dX10_ofLamp_72 ?_
        exact J_iret X rfl rfl ⟨by rw [q_v], by rw [q_c], by rw [q_s]; exact hR⟩ dX10_ofLamp_75
      rw [if_neg c14_2] at q_v
      rw [if_neg c14_2] at q_s
      rw [if_neg c14_2] at q_c
      by_cases c14_3 : p2 = 3
      · skip
        rw [if_pos c14_3] at q_v
        rw [if_pos c14_3] at q_s
        rw [if_pos c14_3] at q_c
        refine J.eqi c14_3 ?_
        refine J_tabIn (tgt := 76) X dX10_ofLamp_14 (by decide) (by decide) rfl (by decide) ?_
        refine J_aload_3 X dX10_ofLamp_76 ?_
        refine J_get X (C := RX2) (T := TX2) (N := 12) (ref := "NightValley$Lamp") (hR.lamp (vp_lt c2)) rfl 4 (by decide) rfl in_X2 gw_3_63 (fun _ z => z) dX10_ofLamp_77 ?_
        exact J_iret X rfl rfl ⟨by rw [q_v], by rw [q_c], by rw [q_s]; exact hR⟩ dX10_ofLamp_80
      rw [if_neg c14_3] at q_v
      rw [if_neg c14_3] at q_s
      rw [if_neg c14_3] at q_c
      by_cases c14_4 : p2 = 4
      · skip
        rw [if_pos c14_4] at q_v
        rw [if_pos c14_4] at q_s
        rw [if_pos c14_4] at q_c
        refine J.eqi c14_4 ?_
        refine J_tabIn (tgt := 81) X dX10_ofLamp_14 (by decide) (by decide) rfl (by decide) ?_
        refine J_aload_3 X dX10_ofLamp_81 ?_
        refine J_get X (C := RX2) (T := TX2) (N := 12) (ref := "NightValley$Lamp") (hR.lamp (vp_lt c2)) rfl 5 (by decide) rfl in_X2 gw_3_65 (fun _ z => z) dX10_ofLamp_82 ?_
        exact J_iret X rfl rfl ⟨by rw [q_v], by rw [q_c], by rw [q_s]; exact hR⟩ dX10_ofLamp_85
      rw [if_neg c14_4] at q_v
      rw [if_neg c14_4] at q_s
      rw [if_neg c14_4] at q_c
      by_cases c14_5 : p2 = 5
      · skip
        rw [if_pos c14_5] at q_v
        rw [if_pos c14_5] at q_s
        rw [if_pos c14_5] at q_c
        refine J.eqi c14_5 ?_
        refine J_tabIn (tgt := 86) X dX10_ofLamp_14 (by decide) (by decide) rfl (by decide) ?_
        refine J_aload_3 X dX10_ofLamp_86 ?_
        refine J_aload_0 X dX10_ofLamp_87 ?_
        refine J_get X (C := RX10) (T := TX10) (N := 11) (ref := "NightValley") hR.root rfl 9 (by decide) rfl in_X10 gw_2_1 (fun _ z => z) dX10_ofLamp_88 ?_
        refine J_callV X (c_X_boundHours hR (ix p1) (σ 0 0) (vp_lt c2)) (And.intro gw_3_112 cw_X2_boundHours) (hR.lamp (vp_lt c2)) rfl rfl rfl (Nat.le_of_ble_eq_true rfl) dX10_ofLamp_91 rfl (J.pi ?_) JE.no
        exact J_iret X rfl rfl ⟨by rw [q_v], by rw [q_c], by rw [q_s]; exact hR⟩ dX10_ofLamp_94
      rw [if_neg c14_5] at q_v
      rw [if_neg c14_5] at q_s
      rw [if_neg c14_5] at q_c
      refine J_tabOut (tgt := 95) X dX10_ofLamp_14 (tab6 c14_0 c14_1 c14_2 c14_3 c14_4 c14_5) (by decide) ?_
      refine J_aload_3 X dX10_ofLamp_95 ?_
      refine J_callV X (c_X_isUnlawful hR hI (ix p1) (vp_lt c2)) (And.intro gw_3_141 cw_X2_isUnlawful) (hR.lamp (vp_lt c2)) rfl rfl rfl (Nat.le_of_ble_eq_true rfl) dX10_ofLamp_96 rfl (J.pi ?_) JE.no
      have K99_107 : ∀ (v99_0 : Int32), v99_0 = (X_ofLamp_j99 σ p1 p2) → J K h [some (.ref (ρ 0 0)), some (.int p1), some (.int p2), some (.ref (ρ 10 (ix p1)))] [.int v99_0] 107 2 12 := by
        intro v99_0 ev99_0
        try rw [ev99_0]
        clear ev99_0
        exact J_iret X rfl rfl ⟨by rw [q_v], by rw [q_c], by rw [q_s]; exact hR⟩ dX10_ofLamp_107
      have j99_0 : X_ofLamp_j99 σ p1 p2 = (if (X_isUnlawful σ (ix p1)) = (0 : Int32) then (0 : Int32) else (1 : Int32)) := rfl
      refine J_if_eq (tgt := 106) X dX10_ofLamp_99 (by decide) (fun c99 => ?_) (fun c99 => ?_)
      · skip
        rw [if_pos c99] at j99_0
        refine J_iconst (v := 0) X dX10_ofLamp_106 rfl ?_
        exact K99_107 _ j99_0.symm
      · skip
        rw [if_neg c99] at j99_0
        refine J_iconst (v := 1) X dX10_ofLamp_102 rfl ?_
        refine J_goto (tgt := 107) X dX10_ofLamp_103 (by decide) ?_
        exact K99_107 _ j99_0.symm
    · skip
      obtain ⟨e1, e2, c10⟩ := e
      subst e1
      rw [e2]
      clear e2
      rw [if_pos c10] at q_v
      rw [if_pos c10] at q_s
      rw [if_pos c10] at q_c
      exact JE_out X rfl rfl ⟨by rw [q_c]; rfl, by rw [q_c]; decide, by rw [q_s]; exact hR⟩
  · skip
    obtain ⟨e1, e2, c2⟩ := e
    subst e1
    rw [e2]
    clear e2
    rw [if_neg c2] at q_v
    rw [if_neg c2] at q_s
    rw [if_neg c2] at q_c
    exact JE_out X rfl rfl ⟨by rw [q_c]; rfl, by rw [q_c]; decide, by rw [q_s]; exact hR⟩
end
