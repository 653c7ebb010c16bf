noncomputable section
def xN (c : Int32) : String := if c = 1 then xIO else if c = 2 then xIA else xIS
abbrev pPub (v0 : Option Value) (c : Int32) (R : fH → Prop) : Option Value → fH → Prop := fun v h' => v = v0 ∧ c = 0 ∧ R h'
abbrev pxX (c : Int32) (R : fH → Prop) : String → fH → Prop := fun E h' => E = xN c ∧ ¬ c = 0 ∧ R h'
def X_ridge (σ : St) (p1 : Int32) (p2 : Int32) : Int32 := (@ite _ (vp_in p1 64) (Classical.propDecidable _) (σ 2 (ix p1)) (0 : Int32))
def X_ridge_s (σ : St) (p1 : Int32) (p2 : Int32) : St := (@ite _ (vp_in p1 64) (Classical.propDecidable _) (sS σ 2 (ix p1) p2) σ)
def X_ridge_c (σ : St) (p1 : Int32) (p2 : Int32) : Int32 := (@ite _ (vp_in p1 64) (Classical.propDecidable _) (0 : Int32) (1 : Int32))
theorem cw_X10_ridge : Cond.instanceMethod yX10_ridge ∈ GW ∧ Cond.selects RX10 yX10_ridge yX10_ridge ∈ GW ∧ Cond.initialized RX10 ∈ GW ∧ Cond.code yX10_ridge cX10_ridge 5 (some .boolean) ∈ GW ∧ yX10_ridge.cls = RX10 ∧ (yX10_ridge.cls ≠ "java/lang/invoke/MethodHandle" ∧ yX10_ridge.cls ≠ "java/lang/invoke/VarHandle") ∧ (parseMethodDescriptor yX10_ridge.desc).map (fun d => d.parameters.length) = some 2 := ⟨gw_2_43, gw_2_44, gw_1_1, gw_2_45, rfl, ⟨by decide, by decide⟩, by decide +kernel⟩
set_option maxRecDepth 100000 in
set_option maxHeartbeats 4000000 in
theorem c_X_ridge {l : Launch} {D : va_G} {ca : Nat → Nat} {h : fH} {ρ : Nat → Nat → Nat} {μ : Nat → Nat → Int32} {cap : Nat → Nat} {σ : St} (hR : RX ca h ρ μ cap σ) (hI : InvX σ) (p1 : Int32) (p2 : Int32) (hp2 : p2 = 0 ∨ p2 = 1) : FM l D ca yX10_ridge (.code yX10_ridge cX10_ridge 5 (some .boolean)) { frames := 8, cells := 1, slots := 6, locals := 146 } [.ref (ρ 0 0), .int p1, .int p2] h (pPub (some (.int (X_ridge σ p1 p2))) (X_ridge_c σ p1 p2) (fun h2 => RX ca h2 ρ μ cap (X_ridge_s σ p1 p2))) (pxX (X_ridge_c σ p1 p2) (fun h2 => RX ca h2 ρ μ cap (X_ridge_s σ p1 p2))) := by
  refine FM.of [some (.ref (ρ 0 0)), some (.int p1), some (.int p2), none, none] (by decide) (Nat.le_of_ble_eq_true rfl) rfl ?_
  rintro K X rfl rfl rfl
  have q_v : (X_ridge σ p1 p2) = (@ite _ (vp_in p1 64) (Classical.propDecidable _) (σ 2 (ix p1)) (0 : Int32)) := rfl
  have q_s : (X_ridge_s σ p1 p2) = (@ite _ (vp_in p1 64) (Classical.propDecidable _) (sS σ 2 (ix p1) p2) σ) := rfl
  have q_c : (X_ridge_c σ p1 p2) = (@ite _ (vp_in p1 64) (Classical.propDecidable _) (0 : Int32) (1 : Int32)) := rfl
  refine J_aload_0 X dX10_ridge_0 ?_
  refine J_iload_1 X dX10_ridge_1 ?_
  refine J_callV X (c_placeOf hR hI p1) (And.intro gw_2_46 cw_X10_placeOf) hR.root rfl rfl rfl (Nat.le_of_ble_eq_true rfl) dX10_ridge_2 rfl (fun v h2 e => ?_) (fun E h2 e => ?_)
  · skip
    obtain ⟨e1, e2, c2⟩ := e
    subst e1
    rw [e2]
    clear e2
    rw [if_pos c2] at q_v
    rw [if_pos c2] at q_s
    rw [if_pos c2] at q_c
    show J K h [some (.ref (ρ 0 0)), some (.int p1), some (.int p2), none, none] [.ref (ρ 8 (ix p1))] 5 1 6
    refine J_astore_3 X dX10_ridge_5 rfl (by decide) ?_
    refine J_aload_3 X dX10_ridge_6 ?_
    refine J_get X (C := RX4) (T := TX4) (N := 4) (ref := "NightValley$Place") (hR.place (vp_lt c2)) rfl 3 (by decide) rfl in_X4 gw_1_226 (fun _ z => z) dX10_ridge_7 ?_
    refine J_istore_4 X dX10_ridge_10 rfl (by decide) ?_
    refine J_aload_3 X dX10_ridge_12 ?_
    refine J_iload_2 X dX10_ridge_13 ?_
    refine JX_p8_3 X hR (i := (ix p1)) (vp_lt c2) (v := p2) hp2 gw_1_226 dX10_ridge_14 (fun h1 hR1 => ?_)
    refine J_iload_4 X dX10_ridge_17 ?_
    exact J_zret X rfl (hI.1 2 _) rfl ⟨by rw [q_v], by rw [q_c], by rw [q_s]; exact hR1⟩ dX10_ridge_19
  · skip
    obtain ⟨e1, e2, c2⟩ := e
    subst e1
    rw [e2]
    clear e2
    rw [if_neg c2] at q_v
    rw [if_neg c2] at q_s
    rw [if_neg c2] at q_c
    exact JE_out X rfl rfl ⟨by rw [q_c]; rfl, by rw [q_c]; decide, by rw [q_s]; exact hR⟩
def X_zone (σ : St) (p1 : Int32) (p2 : Int32) : Int32 := (@ite _ (vp_in p1 64) (Classical.propDecidable _) (@ite _ (vp_in p2 4) (Classical.propDecidable _) (nI (ix (σ 3 (ix p1)))) (0 : Int32)) (0 : Int32))
def X_zone_s (σ : St) (p1 : Int32) (p2 : Int32) : St := (@ite _ (vp_in p1 64) (Classical.propDecidable _) (@ite _ (vp_in p2 4) (Classical.propDecidable _) (sS σ 3 (ix p1) p2) σ) σ)
def X_zone_c (σ : St) (p1 : Int32) (p2 : Int32) : Int32 := (@ite _ (vp_in p1 64) (Classical.propDecidable _) (@ite _ (vp_in p2 4) (Classical.propDecidable _) (0 : Int32) (1 : Int32)) (1 : Int32))
theorem cw_X10_zone : Cond.instanceMethod yX10_zone ∈ GW ∧ Cond.selects RX10 yX10_zone yX10_zone ∈ GW ∧ Cond.initialized RX10 ∈ GW ∧ Cond.code yX10_zone cX10_zone 6 (some .int) ∈ GW ∧ yX10_zone.cls = RX10 ∧ (yX10_zone.cls ≠ "java/lang/invoke/MethodHandle" ∧ yX10_zone.cls ≠ "java/lang/invoke/VarHandle") ∧ (parseMethodDescriptor yX10_zone.desc).map (fun d => d.parameters.length) = some 2 := ⟨gw_2_138, gw_2_139, gw_1_1, gw_2_140, rfl, ⟨by decide, by decide⟩, by decide +kernel⟩
set_option maxRecDepth 100000 in
set_option maxHeartbeats 4000000 in
theorem c_X_zone {l : Launch} {D : va_G} {ca : Nat → Nat} {h : fH} {ρ : Nat → Nat → Nat} {μ : Nat → Nat → Int32} {cap : Nat → Nat} {σ : St} (hR : RX ca h ρ μ cap σ) (hI : InvX σ) (p1 : Int32) (p2 : Int32) : FM l D ca yX10_zone (.code yX10_zone cX10_zone 6 (some .int)) { frames := 8, cells := 2, slots := 12, locals := 147 } [.ref (ρ 0 0), .int p1, .int p2] h (pPub (some (.int (X_zone σ p1 p2))) (X_zone_c σ p1 p2) (fun h2 => RX ca h2 ρ μ cap (X_zone_s σ p1 p2))) (pxX (X_zone_c σ p1 p2) (fun h2 => RX ca h2 ρ μ cap (X_zone_s σ p1 p2))) := by
  refine FM.of [some (.ref (ρ 0 0)), some (.int p1), some (.int p2), none, none, none] (by decide) (Nat.le_of_ble_eq_true rfl) rfl ?_
  rintro K X rfl rfl rfl
  have q_v : (X_zone σ p1 p2) = (@ite _ (vp_in p1 64) (Classical.propDecidable _) (@ite _ (vp_in p2 4) (Classical.propDecidable _) (nI (ix (σ 3 (ix p1)))) (0 : Int32)) (0 : Int32)) := rfl
  have q_s : (X_zone_s σ p1 p2) = (@ite _ (vp_in p1 64) (Classical.propDecidable _) (@ite _ (vp_in p2 4) (Classical.propDecidable _) (sS σ 3 (ix p1) p2) σ) σ) := rfl
  have q_c : (X_zone_c σ p1 p2) = (@ite _ (vp_in p1 64) (Classical.propDecidable _) (@ite _ (vp_in p2 4) (Classical.propDecidable _) (0 : Int32) (1 : Int32)) (1 : Int32)) := rfl
  refine J_aload_0 X dX10_zone_0 ?_
  refine J_iload_1 X dX10_zone_1 ?_
  refine J_callV X (c_placeOf hR hI p1) (And.intro gw_2_46 cw_X10_placeOf) hR.root rfl rfl rfl (Nat.le_of_ble_eq_true rfl) dX10_zone_2 rfl (fun v h2 e => ?_) (fun E h2 e => ?_)
  · skip
    obtain ⟨e1, e2, c2⟩ := e
    subst e1
    rw [e2]
    clear e2
    rw [if_pos c2] at q_v
    rw [if_pos c2] at q_s
    rw [if_pos c2] at q_c
    show J K h [some (.ref (ρ 0 0)), some (.int p1), some (.int p2), none, none, none] [.ref (ρ 8 (ix p1))] 5 1 6
    refine J_astore_3 X dX10_zone_5 rfl (by decide) ?_
    refine J_aload_0 X dX10_zone_6 ?_
    refine J_iload_2 X dX10_zone_7 ?_
    refine J_callV X (c_zoneOf hR hI p2) (And.intro gw_2_141 cw_X10_zoneOf) hR.root rfl rfl rfl (Nat.le_of_ble_eq_true rfl) dX10_zone_8 rfl (fun v h2 e => ?_) (fun E h2 e => ?_)
    · skip
      obtain ⟨e1, e2, c8⟩ := e
      subst e1
      rw [e2]
      clear e2
      rw [if_pos c8] at q_v
      rw [if_pos c8] at q_s
      rw [if_pos c8] at q_c
      show J K h [some (.ref (ρ 0 0)), some (.int p1), some (.int p2), some (.ref (ρ 8 (ix p1))), none, none] [.ref (ρ 6 (ix p2))] 11 2 12
      refine J_astore_4 X dX10_zone_11 rfl (by decide) ?_
      refine J_aload_3 X dX10_zone_13 ?_
      refine J_get X (C := RX4) (T := TX4) (N := 4) (ref := "NightValley$Place") (hR.place (vp_lt c2)) rfl 2 (by decide) rfl in_X4 gw_1_223 (fun _ z => z) dX10_zone_14 ?_
      refine J_get X (C := RX9) (T := TX9) (N := 6) (ref := "NightValley$Zone") (hR.zone (IX_zone hI _)) rfl 0 (by decide) rfl in_X9 gw_1_122 (fun _ z => z) dX10_zone_17 ?_
      refine J_istore_5 X dX10_zone_20 rfl (by decide) ?_
      refine J_aload_3 X dX10_zone_22 ?_
      refine J_aload_4 X dX10_zone_23 ?_
      refine JX_p8_2 X hR (i := (ix p1)) (vp_lt c2) (v := p2) gw_1_223 dX10_zone_25 (fun h1 hR1 => ?_)
      refine J_iload_5 X dX10_zone_28 ?_
      exact J_iret X rfl rfl ⟨by rw [q_v], by rw [q_c], by rw [q_s]; exact hR1⟩ dX10_zone_30
    · skip
      obtain ⟨e1, e2, c8⟩ := e
      subst e1
      rw [e2]
      clear e2
      rw [if_neg c8] at q_v
      rw [if_neg c8] at q_s
      rw [if_neg c8] at q_c
      exact JE_out X rfl rfl ⟨by rw [q_c]; rfl, by rw [q_c]; decide, by rw [q_s]; exact hR⟩
  · skip
    obtain ⟨e1, e2, c2⟩ := e
    subst e1
    rw [e2]
    clear e2
    rw [if_neg c2] at q_v
    rw [if_neg c2] at q_s
    rw [if_neg c2] at q_c
    exact JE_out X rfl rfl ⟨by rw [q_c]; rfl, by rw [q_c]; decide, by rw [q_s]; exact hR⟩
def X_law_s (σ : St) (p1 : Int32) (p2 : Int32) (p3 : Int32) (p4 : Int32) : St := (@ite _ (vp_in p1 4) (Classical.propDecidable _) (if M_isIn p2 (18 : Int32) (24 : Int32) = 0 then σ else (if M_isIn p3 (0 : Int32) (2 : Int32) = 0 then σ else (if M_isIn p4 (0 : Int32) (10 : Int32) = 0 then σ else (sS (sS (sS σ 4 (ix p1) p2) 5 (ix p1) p3) 6 (ix p1) p4)))) σ)
def X_law_c (σ : St) (p1 : Int32) (p2 : Int32) (p3 : Int32) (p4 : Int32) : Int32 := (@ite _ (vp_in p1 4) (Classical.propDecidable _) (if M_isIn p2 (18 : Int32) (24 : Int32) = 0 then (2 : Int32) else (if M_isIn p3 (0 : Int32) (2 : Int32) = 0 then (2 : Int32) else (if M_isIn p4 (0 : Int32) (10 : Int32) = 0 then (2 : Int32) else (0 : Int32)))) (1 : Int32))
theorem cw_X10_law : Cond.instanceMethod yX10_law ∈ GW ∧ Cond.selects RX10 yX10_law yX10_law ∈ GW ∧ Cond.initialized RX10 ∈ GW ∧ Cond.code yX10_law cX10_law 6 none ∈ GW ∧ yX10_law.cls = RX10 ∧ (yX10_law.cls ≠ "java/lang/invoke/MethodHandle" ∧ yX10_law.cls ≠ "java/lang/invoke/VarHandle") ∧ (parseMethodDescriptor yX10_law.desc).map (fun d => d.parameters.length) = some 4 := ⟨gw_2_150, gw_2_151, gw_1_1, gw_2_152, rfl, ⟨by decide, by decide⟩, by decide +kernel⟩
set_option maxRecDepth 100000 in
set_option maxHeartbeats 4000000 in
theorem c_X_law {l : Launch} {D : va_G} {ca : Nat → Nat} {h : fH} {ρ : Nat → Nat → Nat} {μ : Nat → Nat → Int32} {cap : Nat → Nat} {σ : St} (hR : RX ca h ρ μ cap σ) (hI : InvX σ) (p1 : Int32) (p2 : Int32) (p3 : Int32) (p4 : Int32) : FM l D ca yX10_law (.code yX10_law cX10_law 6 none) { frames := 8, cells := 4, slots := 24, locals := 147 } [.ref (ρ 0 0), .int p1, .int p2, .int p3, .int p4] h (pPub none (X_law_c σ p1 p2 p3 p4) (fun h2 => RX ca h2 ρ μ cap (X_law_s σ p1 p2 p3 p4))) (pxX (X_law_c σ p1 p2 p3 p4) (fun h2 => RX ca h2 ρ μ cap (X_law_s σ p1 p2 p3 p4))) := by
  refine FM.of [some (.ref (ρ 0 0)), some (.int p1), some (.int p2), some (.int p3), some (.int p4), none] (by decide) (Nat.le_of_ble_eq_true rfl) rfl ?_
  rintro K X rfl rfl rfl
  have q_s : (X_law_s σ p1 p2 p3 p4) = (@ite _ (vp_in p1 4) (Classical.propDecidable _) (if M_isIn p2 (18 : Int32) (24 : Int32) = 0 then σ else (if M_isIn p3 (0 : Int32) (2 : Int32) = 0 then σ else (if M_isIn p4 (0 : Int32) (10 : Int32) = 0 then σ else (sS (sS (sS σ 4 (ix p1) p2) 5 (ix p1) p3) 6 (ix p1) p4)))) σ) := rfl
  have q_c : (X_law_c σ p1 p2 p3 p4) = (@ite _ (vp_in p1 4) (Classical.propDecidable _) (if M_isIn p2 (18 : Int32) (24 : Int32) = 0 then (2 : Int32) else (if M_isIn p3 (0 : Int32) (2 : Int32) = 0 then (2 : Int32) else (if M_isIn p4 (0 : Int32) (10 : Int32) = 0 then (2 : Int32) else (0 : Int32)))) (1 : Int32)) := rfl
  refine J_aload_0 X dX10_law_0 ?_
  refine J_iload_1 X dX10_law_1 ?_
  refine J_callV X (c_zoneOf hR hI p1) (And.intro gw_2_141 cw_X10_zoneOf) hR.root rfl rfl rfl (Nat.le_of_ble_eq_true rfl) dX10_law_2 rfl (fun v h2 e => ?_) (fun E h2 e => ?_)
  · skip
    obtain ⟨e1, e2, c2⟩ := e
    subst e1
    rw [e2]
    clear e2
    rw [if_pos c2] at q_s
    rw [if_pos c2] at q_c
    show J K h [some (.ref (ρ 0 0)), some (.int p1), some (.int p2), some (.int p3), some (.int p4), none] [.ref (ρ 6 (ix p1))] 5 1 6
    refine J_astore_5 X dX10_law_5 rfl (by decide) ?_
    refine J_iload_2 X dX10_law_7 ?_
    refine J_bipush (v := (18 : Int32)) X dX10_law_8 (by decide) ?_
    refine J_bipush (v := (24 : Int32)) X dX10_law_10 (by decide) ?_
    refine J_callS X (c_needRange p2 (18 : Int32) (24 : Int32)) (And.intro gw_2_153 cw_X10_needRange) rfl rfl (Nat.le_of_ble_eq_true rfl) dX10_law_12 rfl (fun v h2 e => ?_) (fun E h2 e => ?_)
    · skip
      obtain ⟨e1, e2, c12⟩ := e
      subst e1
      rw [e2]
      clear e2
      rw [if_neg c12] at q_s
      rw [if_neg c12] at q_c
      show J K h [some (.ref (ρ 0 0)), some (.int p1), some (.int p2), some (.int p3), some (.int p4), some (.ref (ρ 6 (ix p1)))] [] 15 2 12
      refine J_iload_3 X dX10_law_15 ?_
      refine J_iconst (v := 0) X dX10_law_16 rfl ?_
      refine J_iconst (v := 2) X dX10_law_17 rfl ?_
      refine J_callS X (c_needRange p3 (0 : Int32) (2 : Int32)) (And.intro gw_2_153 cw_X10_needRange) rfl rfl (Nat.le_of_ble_eq_true rfl) dX10_law_18 rfl (fun v h2 e => ?_) (fun E h2 e => ?_)
      · skip
        obtain ⟨e1, e2, c18⟩ := e
        subst e1
        rw [e2]
        clear e2
        rw [if_neg c18] at q_s
        rw [if_neg c18] at q_c
        show J K h [some (.ref (ρ 0 0)), some (.int p1), some (.int p2), some (.int p3), some (.int p4), some (.ref (ρ 6 (ix p1)))] [] 21 3 18
        refine J_iload_4 X dX10_law_21 ?_
        refine J_iconst (v := 0) X dX10_law_23 rfl ?_
        refine J_bipush (v := (10 : Int32)) X dX10_law_24 (by decide) ?_
        refine J_callS X (c_needRange p4 (0 : Int32) (10 : Int32)) (And.intro gw_2_153 cw_X10_needRange) rfl rfl (Nat.le_of_ble_eq_true rfl) dX10_law_26 rfl (fun v h2 e => ?_) (fun E h2 e => ?_)
        · skip
          obtain ⟨e1, e2, c26⟩ := e
          subst e1
          rw [e2]
          clear e2
          rw [if_neg c26] at q_s
          rw [if_neg c26] at q_c
          show J K h [some (.ref (ρ 0 0)), some (.int p1), some (.int p2), some (.int p3), some (.int p4), some (.ref (ρ 6 (ix p1)))] [] 29 4 24
          refine J_aload_5 X dX10_law_29 ?_
          refine J_iload_2 X dX10_law_31 ?_
          refine JX_p6_3 X hR (i := (ix p1)) (vp_lt c2) (v := p2) gw_1_127 dX10_law_32 (fun h1 hR1 => ?_)
          refine J_aload_5 X dX10_law_35 ?_
          refine J_iload_3 X dX10_law_37 ?_
          refine JX_p6_4 X hR1 (i := (ix p1)) (vp_lt c2) (v := p3) gw_1_129 dX10_law_38 (fun h2 hR2 => ?_)
          refine J_aload_5 X dX10_law_41 ?_
          refine J_iload_4 X dX10_law_43 ?_
          refine JX_p6_5 X hR2 (i := (ix p1)) (vp_lt c2) (v := p4) gw_1_131 dX10_law_45 (fun h3 hR3 => ?_)
          exact J_vret X rfl rfl ⟨rfl, by rw [q_c], by rw [q_s]; exact hR3⟩ dX10_law_48
        · skip
          obtain ⟨e1, e2, c26⟩ := e
          subst e1
          rw [e2]
          clear e2
          rw [if_pos c26] at q_s
          rw [if_pos c26] at q_c
          exact JE_out X rfl rfl ⟨by rw [q_c]; rfl, by rw [q_c]; decide, by rw [q_s]; exact hR⟩
      · skip
        obtain ⟨e1, e2, c18⟩ := e
        subst e1
        rw [e2]
        clear e2
        rw [if_pos c18] at q_s
        rw [if_pos c18] at q_c
        exact JE_out X rfl rfl ⟨by rw [q_c]; rfl, by rw [q_c]; decide, by rw [q_s]; exact hR⟩
    · skip
      obtain ⟨e1, e2, c12⟩ := e
      subst e1
      rw [e2]
      clear e2
      rw [if_pos c12] at q_s
      rw [if_pos c12] at q_c
      exact JE_out X rfl rfl ⟨by rw [q_c]; rfl, by rw [q_c]; decide, by rw [q_s]; exact hR⟩
  · skip
    obtain ⟨e1, e2, c2⟩ := e
    subst e1
    rw [e2]
    clear e2
    rw [if_neg c2] at q_s
    rw [if_neg c2] at q_c
    exact JE_out X rfl rfl ⟨by rw [q_c]; rfl, by rw [q_c]; decide, by rw [q_s]; exact hR⟩
def X_air (σ : St) (p1 : Int32) : Int32 := (if M_isIn p1 (0 : Int32) (2 : Int32) = 0 then (0 : Int32) else (σ 1 0))
def X_air_s (σ : St) (p1 : Int32) : St := (if M_isIn p1 (0 : Int32) (2 : Int32) = 0 then σ else (sC σ 1 p1))
def X_air_c (σ : St) (p1 : Int32) : Int32 := (if M_isIn p1 (0 : Int32) (2 : Int32) = 0 then (2 : Int32) else (0 : Int32))
theorem cw_X10_air : Cond.instanceMethod yX10_air ∈ GW ∧ Cond.selects RX10 yX10_air yX10_air ∈ GW ∧ Cond.initialized RX10 ∈ GW ∧ Cond.code yX10_air cX10_air 3 (some .int) ∈ GW ∧ yX10_air.cls = RX10 ∧ (yX10_air.cls ≠ "java/lang/invoke/MethodHandle" ∧ yX10_air.cls ≠ "java/lang/invoke/VarHandle") ∧ (parseMethodDescriptor yX10_air.desc).map (fun d => d.parameters.length) = some 1 := ⟨gw_2_186, gw_2_187, gw_1_1, gw_2_188, rfl, ⟨by decide, by decide⟩, by decide +kernel⟩
set_option maxRecDepth 100000 in
set_option maxHeartbeats 4000000 in
theorem c_X_air {l : Launch} {D : va_G} {ca : Nat → Nat} {h : fH} {ρ : Nat → Nat → Nat} {μ : Nat → Nat → Int32} {cap : Nat → Nat} {σ : St} (hR : RX ca h ρ μ cap σ) (hI : InvX σ) (p1 : Int32) : FM l D ca yX10_air (.code yX10_air cX10_air 3 (some .int)) { frames := 7, cells := 1, slots := 6, locals := 123 } [.ref (ρ 0 0), .int p1] h (pPub (some (.int (X_air σ p1))) (X_air_c σ p1) (fun h2 => RX ca h2 ρ μ cap (X_air_s σ p1))) (pxX (X_air_c σ p1) (fun h2 => RX ca h2 ρ μ cap (X_air_s σ p1))) := by
  refine FM.of [some (.ref (ρ 0 0)), some (.int p1), none] (by decide) (Nat.le_of_ble_eq_true rfl) rfl ?_
  rintro K X rfl rfl rfl
  have q_v : (X_air σ p1) = (if M_isIn p1 (0 : Int32) (2 : Int32) = 0 then (0 : Int32) else (σ 1 0)) := rfl
  have q_s : (X_air_s σ p1) = (if M_isIn p1 (0 : Int32) (2 : Int32) = 0 then σ else (sC σ 1 p1)) := rfl
  have q_c : (X_air_c σ p1) = (if M_isIn p1 (0 : Int32) (2 : Int32) = 0 then (2 : Int32) else (0 : Int32)) := rfl
  refine J_iload_1 X dX10_air_0 ?_
  refine J_iconst (v := 0) X dX10_air_1 rfl ?_
  refine J_iconst (v := 2) X dX10_air_2 rfl ?_
  refine J_callS X (c_needRange p1 (0 : Int32) (2 : Int32)) (And.intro gw_2_153 cw_X10_needRange) rfl rfl (Nat.le_of_ble_eq_true rfl) dX10_air_3 rfl (fun v h2 e => ?_) (fun E h2 e => ?_)
  · skip
    obtain ⟨e1, e2, c3⟩ := e
    subst e1
    rw [e2]
    clear e2
    rw [if_neg c3] at q_v
    rw [if_neg c3] at q_s
    rw [if_neg c3] at q_c
    show J K h [some (.ref (ρ 0 0)), some (.int p1), none] [] 6 1 6
    refine J_aload_0 X dX10_air_6 ?_
    refine J_get X (C := RX10) (T := TX10) (N := 11) (ref := "NightValley") hR.root rfl 10 (by decide) rfl in_X10 gw_2_6 (fun _ z => z) dX10_air_7 ?_
    refine J_istore_2 X dX10_air_10 rfl (by decide) ?_
    refine J_aload_0 X dX10_air_11 ?_
    refine J_iload_1 X dX10_air_12 ?_
    refine JX_p0_10 X hR (v := p1) gw_2_6 dX10_air_13 (fun h1 hR1 => ?_)
    refine J_iload_2 X dX10_air_16 ?_
    exact J_iret X rfl rfl ⟨by rw [q_v], by rw [q_c], by rw [q_s]; exact hR1⟩ dX10_air_17
  · skip
    obtain ⟨e1, e2, c3⟩ := e
    subst e1
    rw [e2]
    clear e2
    rw [if_pos c3] at q_v
    rw [if_pos c3] at q_s
    rw [if_pos c3] at q_c
    exact JE_out X rfl rfl ⟨by rw [q_c]; rfl, by rw [q_c]; decide, by rw [q_s]; exact hR⟩
end
