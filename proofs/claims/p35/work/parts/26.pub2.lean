noncomputable section
theorem tab3 {p : Int32} (h0 : ¬ p = 0) (h1 : ¬ p = 1) (h2 : ¬ p = 2) : p.toInt < 0 ∨ 2 < p.toInt := by
  have g : ∀ k : Int32, ¬ p = k → ¬ p.toInt = k.toInt := fun k h z => h (Int32.toInt_inj.mp z)
  have g0 := g 0 h0
  have g1 := g 1 h1
  have g2 := g 2 h2
  rw [show (0 : Int32).toInt = 0 from rfl] at g0
  rw [show (1 : Int32).toInt = 1 from rfl] at g1
  rw [show (2 : Int32).toInt = 2 from rfl] at g2
  omega
def X_ofVillage (σ : St) (p1 : Int32) (p2 : Int32) : Int32 := (@ite _ (vp_in p1 (ix (σ 8 0))) (Classical.propDecidable _) (if M_isIn p2 (0 : Int32) (3 : Int32) = 0 then (0 : Int32) else (if p2 = 0 then (σ 10 (ix p1)) else (if p2 = 1 then (cntO (σ 14) (nI (ix p1)) (ix (σ 13 0))) else (if p2 = 2 then (X_burningLampsOf σ (ix p1)) else (σ 11 (ix p1)))))) (0 : Int32))
def X_ofVillage_s (σ : St) (p1 : Int32) (p2 : Int32) : St := (@ite _ (vp_in p1 (ix (σ 8 0))) (Classical.propDecidable _) (if M_isIn p2 (0 : Int32) (3 : Int32) = 0 then σ else (if p2 = 0 then σ else (if p2 = 1 then σ else (if p2 = 2 then σ else σ)))) σ)
def X_ofVillage_c (σ : St) (p1 : Int32) (p2 : Int32) : Int32 := (@ite _ (vp_in p1 (ix (σ 8 0))) (Classical.propDecidable _) (if M_isIn p2 (0 : Int32) (3 : Int32) = 0 then (2 : Int32) else (if p2 = 0 then (0 : Int32) else (if p2 = 1 then (0 : Int32) else (if p2 = 2 then (0 : Int32) else (0 : Int32))))) (1 : Int32))
theorem cw_X10_ofVillage : Cond.instanceMethod yX10_ofVillage ∈ GW ∧ Cond.selects RX10 yX10_ofVillage yX10_ofVillage ∈ GW ∧ Cond.initialized RX10 ∈ GW ∧ Cond.code yX10_ofVillage cX10_ofVillage 4 (some .int) ∈ GW ∧ yX10_ofVillage.cls = RX10 ∧ (yX10_ofVillage.cls ≠ "java/lang/invoke/MethodHandle" ∧ yX10_ofVillage.cls ≠ "java/lang/invoke/VarHandle") ∧ (parseMethodDescriptor yX10_ofVillage.desc).map (fun d => d.parameters.length) = some 2 := ⟨gw_4_3, gw_4_4, gw_1_1, gw_4_5, rfl, ⟨by decide, by decide⟩, by decide +kernel⟩
set_option maxRecDepth 100000 in
set_option maxHeartbeats 4000000 in
theorem c_X_ofVillage {l : Launch} {D : va_G} {ca : Nat → Nat} {h : fH} {ρ : Nat → Nat → Nat} {μ : Nat → Nat → Int32} {cap : Nat → Nat} {σ : St} (hR : RX ca h ρ μ cap σ) (hI : InvX σ) (p1 : Int32) (p2 : Int32) : FM l D ca yX10_ofVillage (.code yX10_ofVillage cX10_ofVillage 4 (some .int)) { frames := 8, cells := 2, slots := 12, locals := 145 } [.ref (ρ 0 0), .int p1, .int p2] h (pPub (some (.int (X_ofVillage σ p1 p2))) (X_ofVillage_c σ p1 p2) (fun h2 => RX ca h2 ρ μ cap (X_ofVillage_s σ p1 p2))) (pxX (X_ofVillage_c σ p1 p2) (fun h2 => RX ca h2 ρ μ cap (X_ofVillage_s σ p1 p2))) := by
  refine FM.of [some (.ref (ρ 0 0)), some (.int p1), some (.int p2), none] (by decide) (Nat.le_of_ble_eq_true rfl) rfl ?_
  rintro K X rfl rfl rfl
  have q_v : (X_ofVillage σ p1 p2) = (@ite _ (vp_in p1 (ix (σ 8 0))) (Classical.propDecidable _) (if M_isIn p2 (0 : Int32) (3 : Int32) = 0 then (0 : Int32) else (if p2 = 0 then (σ 10 (ix p1)) else (if p2 = 1 then (cntO (σ 14) (nI (ix p1)) (ix (σ 13 0))) else (if p2 = 2 then (X_burningLampsOf σ (ix p1)) else (σ 11 (ix p1)))))) (0 : Int32)) := rfl
  have q_s : (X_ofVillage_s σ p1 p2) = (@ite _ (vp_in p1 (ix (σ 8 0))) (Classical.propDecidable _) (if M_isIn p2 (0 : Int32) (3 : Int32) = 0 then σ else (if p2 = 0 then σ else (if p2 = 1 then σ else (if p2 = 2 then σ else σ)))) σ) := rfl
  have q_c : (X_ofVillage_c σ p1 p2) = (@ite _ (vp_in p1 (ix (σ 8 0))) (Classical.propDecidable _) (if M_isIn p2 (0 : Int32) (3 : Int32) = 0 then (2 : Int32) else (if p2 = 0 then (0 : Int32) else (if p2 = 1 then (0 : Int32) else (if p2 = 2 then (0 : Int32) else (0 : Int32))))) (1 : Int32)) := rfl
  refine J_aload_0 X dX10_ofVillage_0 ?_
  refine J_iload_1 X dX10_ofVillage_1 ?_
  refine J_callV X (c_villageOf hR hI p1) (And.intro gw_3_47 cw_X10_villageOf) hR.root rfl rfl rfl (Nat.le_of_ble_eq_true rfl) dX10_ofVillage_2 rfl (fun v h2 e => ?_) (fun E h2 e => ?_)
  · skip
    obtain ⟨e1, e2, c2⟩ := e
    subst e1
    rw [e2]
    clear e2
    rw [if_pos c2] at q_v
    rw [if_pos c2] at q_s
    rw [if_pos c2] at q_c
    show J K h [some (.ref (ρ 0 0)), some (.int p1), some (.int p2), none] [.ref (ρ 9 (ix p1))] 5 1 6
    refine J_astore_3 X dX10_ofVillage_5 rfl (by decide) ?_
    refine J_iload_2 X dX10_ofVillage_6 ?_
    refine J_iconst (v := 0) X dX10_ofVillage_7 rfl ?_
    refine J_iconst (v := 3) X dX10_ofVillage_8 rfl ?_
    refine J_callS X (c_needRange p2 (0 : Int32) (3 : Int32)) (And.intro gw_2_198 cw_X10_needRange) rfl rfl (Nat.le_of_ble_eq_true rfl) dX10_ofVillage_9 rfl (fun v h2 e => ?_) (fun E h2 e => ?_)
    · skip
      obtain ⟨e1, e2, c9⟩ := e
      subst e1
      rw [e2]
      clear e2
      rw [if_neg c9] at q_v
      rw [if_neg c9] at q_s
      rw [if_neg c9] at q_c
      show J K h [some (.ref (ρ 0 0)), some (.int p1), some (.int p2), some (.ref (ρ 9 (ix p1)))] [] 12 2 12
      refine J_iload_2 X dX10_ofVillage_12 ?_
      by_cases c13_0 : p2 = 0
      · skip
        rw [if_pos c13_0] at q_v
        rw [if_pos c13_0] at q_s
        rw [if_pos c13_0] at q_c
        refine J.eqi c13_0 ?_
        refine J_tabIn (tgt := 40) X dX10_ofVillage_13 (by decide) (by decide) rfl (by decide) ?_
        refine J_aload_3 X dX10_ofVillage_40 ?_
        refine J_get X (C := RX7) (T := TX7) (N := 5) (ref := "NightValley$Village") (hR.village (vp_lt c2)) rfl 1 (by decide) rfl in_X7 gw_3_27 (fun _ z => z) dX10_ofVillage_41 ?_
        exact J_iret X rfl rfl ⟨by rw [q_v], by rw [q_c], by rw [q_s]; exact hR⟩ dX10_ofVillage_44
      rw [if_neg c13_0] at q_v
      rw [if_neg c13_0] at q_s
      rw [if_neg c13_0] at q_c
      by_cases c13_1 : p2 = 1
      · skip
        rw [if_pos c13_1] at q_v
        rw [if_pos c13_1] at q_s
        rw [if_pos c13_1] at q_c
        refine J.eqi c13_1 ?_
        refine J_tabIn (tgt := 45) X dX10_ofVillage_13 (by decide) (by decide) rfl (by decide) ?_
        refine J_aload_3 X dX10_ofVillage_45 ?_
        refine J_get X (C := RX7) (T := TX7) (N := 5) (ref := "NightValley$Village") (hR.village (vp_lt c2)) rfl 3 (by decide) rfl in_X7 gw_3_30 (fun _ z => z) dX10_ofVillage_46 ?_
        exact J_iret X rfl rfl ⟨by rw [q_v], by rw [q_c], by rw [q_s]; exact hR⟩ dX10_ofVillage_49
      rw [if_neg c13_1] at q_v
      rw [if_neg c13_1] at q_s
      rw [if_neg c13_1] at q_c
      by_cases c13_2 : p2 = 2
      · skip
        rw [if_pos c13_2] at q_v
        rw [if_pos c13_2] at q_s
        rw [if_pos c13_2] at q_c
        refine J.eqi c13_2 ?_
        refine J_tabIn (tgt := 50) X dX10_ofVillage_13 (by decide) (by decide) rfl (by decide) ?_
        refine J_aload_0 X dX10_ofVillage_50 ?_
        refine J_aload_3 X dX10_ofVillage_51 ?_
        refine J_callV X (c_X_burningLampsOf hR hI (ix p1) (vp_lt c2)) (And.intro gw_4_6 cw_X10_burningLampsOf) hR.root rfl rfl rfl (Nat.le_of_ble_eq_true rfl) dX10_ofVillage_52 rfl (J.pi ?_) JE.no
        exact J_iret X rfl rfl ⟨by rw [q_v], by rw [q_c], by rw [q_s]; exact hR⟩ dX10_ofVillage_55
      rw [if_neg c13_2] at q_v
      rw [if_neg c13_2] at q_s
      rw [if_neg c13_2] at q_c
      refine J_tabOut (tgt := 56) X dX10_ofVillage_13 (tab3 c13_0 c13_1 c13_2) (by decide) ?_
      refine J_aload_3 X dX10_ofVillage_56 ?_
      refine J_get X (C := RX7) (T := TX7) (N := 5) (ref := "NightValley$Village") (hR.village (vp_lt c2)) rfl 2 (by decide) rfl in_X7 gw_3_29 (fun _ z => z) dX10_ofVillage_57 ?_
      exact J_iret X rfl rfl ⟨by rw [q_v], by rw [q_c], by rw [q_s]; exact hR⟩ dX10_ofVillage_60
    · skip
      obtain ⟨e1, e2, c9⟩ := e
      subst e1
      rw [e2]
      clear e2
      rw [if_pos c9] at q_v
      rw [if_pos c9] at q_s
      rw [if_pos c9] at q_c
      exact JE_out X rfl rfl ⟨by rw [q_c]; rfl, by rw [q_c]; decide, by rw [q_s]; exact hR⟩
  · skip
    obtain ⟨e1, e2, c2⟩ := e
    subst e1
    rw [e2]
    clear e2
    rw [if_neg c2] at q_v
    rw [if_neg c2] at q_s
    rw [if_neg c2] at q_c
    exact JE_out X rfl rfl ⟨by rw [q_c]; rfl, by rw [q_c]; decide, by rw [q_s]; exact hR⟩
def X_glowFrom_j54l4 (σ : St) (p1 : Int32) (p2 : Int32) (k18 : Nat) (a18_4 : Int32) : Int32 := (if (X_directionOf σ (ix p1) (ix (σ 15 (ix (nI k18))))) = p2 then (a18_4 + (X_givenBy σ (ix (nI k18)) (ix p1))) else a18_4)
def X_glowFrom_L18 (σ : St) (p1 : Int32) (p2 : Int32) (K18 : Int32 → Int32) : Nat → Nat → Int32 → Int32
  | 0, _, a18_4 => K18 a18_4
  | n18 + 1, k18, a18_4 => (X_glowFrom_L18 σ p1 p2 K18 n18 (k18 + 1) (X_glowFrom_j54l4 σ p1 p2 k18 a18_4))
def X_glowFrom_L18_s (σ : St) (p1 : Int32) (p2 : Int32) (K18s : Int32 → St) : Nat → Nat → Int32 → St
  | 0, _, a18_4 => K18s a18_4
  | n18 + 1, k18, a18_4 => (X_glowFrom_L18_s σ p1 p2 K18s n18 (k18 + 1) (X_glowFrom_j54l4 σ p1 p2 k18 a18_4))
def X_glowFrom_L18_c (σ : St) (p1 : Int32) (p2 : Int32) (K18c : Int32 → Int32) : Nat → Nat → Int32 → Int32
  | 0, _, a18_4 => K18c a18_4
  | n18 + 1, k18, a18_4 => (X_glowFrom_L18_c σ p1 p2 K18c n18 (k18 + 1) (X_glowFrom_j54l4 σ p1 p2 k18 a18_4))
def X_glowFrom (σ : St) (p1 : Int32) (p2 : Int32) : Int32 := (@ite _ (vp_in p1 64) (Classical.propDecidable _) (if M_isIn p2 (0 : Int32) (4 : Int32) = 0 then (0 : Int32) else (X_glowFrom_L18 σ p1 p2 (fun a18_4 => a18_4) (xL σ 3) 0 (0 : Int32))) (0 : Int32))
def X_glowFrom_s (σ : St) (p1 : Int32) (p2 : Int32) : St := (@ite _ (vp_in p1 64) (Classical.propDecidable _) (if M_isIn p2 (0 : Int32) (4 : Int32) = 0 then σ else (X_glowFrom_L18_s σ p1 p2 (fun a18_4 => σ) (xL σ 3) 0 (0 : Int32))) σ)
def X_glowFrom_c (σ : St) (p1 : Int32) (p2 : Int32) : Int32 := (@ite _ (vp_in p1 64) (Classical.propDecidable _) (if M_isIn p2 (0 : Int32) (4 : Int32) = 0 then (2 : Int32) else (X_glowFrom_L18_c σ p1 p2 (fun a18_4 => (0 : Int32)) (xL σ 3) 0 (0 : Int32))) (1 : Int32))
theorem cw_X10_glowFrom : Cond.instanceMethod yX10_glowFrom ∈ GW ∧ Cond.selects RX10 yX10_glowFrom yX10_glowFrom ∈ GW ∧ Cond.initialized RX10 ∈ GW ∧ Cond.code yX10_glowFrom cX10_glowFrom 7 (some .int) ∈ GW ∧ yX10_glowFrom.cls = RX10 ∧ (yX10_glowFrom.cls ≠ "java/lang/invoke/MethodHandle" ∧ yX10_glowFrom.cls ≠ "java/lang/invoke/VarHandle") ∧ (parseMethodDescriptor yX10_glowFrom.desc).map (fun d => d.parameters.length) = some 2 := ⟨gw_4_119, gw_4_120, gw_1_1, gw_4_121, rfl, ⟨by decide, by decide⟩, by decide +kernel⟩
set_option maxRecDepth 100000 in
set_option maxHeartbeats 4000000 in
theorem c_X_glowFrom {l : Launch} {D : va_G} {ca : Nat → Nat} {h : fH} {ρ : Nat → Nat → Nat} {μ : Nat → Nat → Int32} {cap : Nat → Nat} {σ : St} (hR : RX ca h ρ μ cap σ) (hI : InvX σ) (p1 : Int32) (p2 : Int32) : FM l D ca yX10_glowFrom (.code yX10_glowFrom cX10_glowFrom 7 (some .int)) { frames := 8, cells := 2, slots := 12, locals := 148 } [.ref (ρ 0 0), .int p1, .int p2] h (pPub (some (.int (X_glowFrom σ p1 p2))) (X_glowFrom_c σ p1 p2) (fun h2 => RX ca h2 ρ μ cap (X_glowFrom_s σ p1 p2))) (pxX (X_glowFrom_c σ p1 p2) (fun h2 => RX ca h2 ρ μ cap (X_glowFrom_s σ p1 p2))) := by
  refine FM.of [some (.ref (ρ 0 0)), some (.int p1), some (.int p2), none, none, none, none] (by decide) (Nat.le_of_ble_eq_true rfl) rfl ?_
  rintro K X rfl rfl rfl
  have q_v : (X_glowFrom σ p1 p2) = (@ite _ (vp_in p1 64) (Classical.propDecidable _) (if M_isIn p2 (0 : Int32) (4 : Int32) = 0 then (0 : Int32) else (X_glowFrom_L18 σ p1 p2 (fun a18_4 => a18_4) (xL σ 3) 0 (0 : Int32))) (0 : Int32)) := rfl
  have q_s : (X_glowFrom_s σ p1 p2) = (@ite _ (vp_in p1 64) (Classical.propDecidable _) (if M_isIn p2 (0 : Int32) (4 : Int32) = 0 then σ else (X_glowFrom_L18_s σ p1 p2 (fun a18_4 => σ) (xL σ 3) 0 (0 : Int32))) σ) := rfl
  have q_c : (X_glowFrom_c σ p1 p2) = (@ite _ (vp_in p1 64) (Classical.propDecidable _) (if M_isIn p2 (0 : Int32) (4 : Int32) = 0 then (2 : Int32) else (X_glowFrom_L18_c σ p1 p2 (fun a18_4 => (0 : Int32)) (xL σ 3) 0 (0 : Int32))) (1 : Int32)) := rfl
  refine J_aload_0 X dX10_glowFrom_0 ?_
  refine J_iload_1 X dX10_glowFrom_1 ?_
  refine J_callV X (c_placeOf hR hI p1) (And.intro gw_2_30 cw_X10_placeOf) hR.root rfl rfl rfl (Nat.le_of_ble_eq_true rfl) dX10_glowFrom_2 rfl (fun v h2 e => ?_) (fun E h2 e => ?_)
  · skip
    obtain ⟨e1, e2, c2⟩ := e
    subst e1
    rw [e2]
    clear e2
    rw [if_pos c2] at q_v
    rw [if_pos c2] at q_s
    rw [if_pos c2] at q_c
    show J K h [some (.ref (ρ 0 0)), some (.int p1), some (.int p2), none, none, none, none] [.ref (ρ 8 (ix p1))] 5 1 6
    refine J_astore_3 X dX10_glowFrom_5 rfl (by decide) ?_
    refine J_iload_2 X dX10_glowFrom_6 ?_
    refine J_iconst (v := 0) X dX10_glowFrom_7 rfl ?_
    refine J_iconst (v := 4) X dX10_glowFrom_8 rfl ?_
    refine J_callS X (c_needRange p2 (0 : Int32) (4 : Int32)) (And.intro gw_2_198 cw_X10_needRange) rfl rfl (Nat.le_of_ble_eq_true rfl) dX10_glowFrom_9 rfl (fun v h2 e => ?_) (fun E h2 e => ?_)
    · skip
      obtain ⟨e1, e2, c9⟩ := e
      subst e1
      rw [e2]
      clear e2
      rw [if_neg c9] at q_v
      rw [if_neg c9] at q_s
      rw [if_neg c9] at q_c
      show J K h [some (.ref (ρ 0 0)), some (.int p1), some (.int p2), some (.ref (ρ 8 (ix p1))), none, none, none] [] 12 2 12
      refine J_iconst (v := 0) X dX10_glowFrom_12 rfl ?_
      refine J_istore_4 X dX10_glowFrom_13 rfl (by decide) ?_
      refine J_iconst (v := 0) X dX10_glowFrom_15 rfl ?_
      refine J_istore_5 X dX10_glowFrom_16 rfl (by decide) ?_
      have hle := IX_L hI 3
      obtain ⟨K18, hK18⟩ : ∃ f : Int32 → Int32, f = (fun a18_4 => a18_4) := ⟨_, rfl⟩
      obtain ⟨K18s, hK18s⟩ : ∃ f : Int32 → St, f = (fun a18_4 => σ) := ⟨_, rfl⟩
      obtain ⟨K18c, hK18c⟩ : ∃ f : Int32 → Int32, f = (fun a18_4 => (0 : Int32)) := ⟨_, rfl⟩
      have X18 : ∀ (a18_4 : Int32) (_ : True), (X_glowFrom σ p1 p2) = a18_4 → (X_glowFrom_s σ p1 p2) = σ → (X_glowFrom_c σ p1 p2) = (0 : Int32) → J K h [some (.ref (ρ 0 0)), some (.int p1), some (.int p2), some (.ref (ρ 8 (ix p1))), some (.int a18_4), none, none] [] 75 2 12 := by
        intro a18_4  _  q_v q_s q_c
        refine J_iload_4 X dX10_glowFrom_75 ?_
        exact J_iret X rfl rfl ⟨by rw [q_v], by rw [q_c], by rw [q_s]; exact hR⟩ dX10_glowFrom_77
      have L18 : ∀ (n18 k18 : Nat) (a18_4 : Int32), k18 + n18 = (xL σ 3) → (X_glowFrom σ p1 p2) = (X_glowFrom_L18 σ p1 p2 K18 n18 k18 a18_4) → (X_glowFrom_s σ p1 p2) = (X_glowFrom_L18_s σ p1 p2 K18s n18 k18 a18_4) → (X_glowFrom_c σ p1 p2) = (X_glowFrom_L18_c σ p1 p2 K18c n18 k18 a18_4) → J K h [some (.ref (ρ 0 0)), some (.int p1), some (.int p2), some (.ref (ρ 8 (ix p1))), some (.int a18_4), some (.int (nI k18)), none] [] 18 2 12 := by
        intro n18
        induction n18 with
        | zero =>
          intro k18 a18_4  hk18  q_v q_s q_c
          rw [X_glowFrom_L18] at q_v
          rw [X_glowFrom_L18_s] at q_s
          rw [X_glowFrom_L18_c] at q_c
          refine J_iload_5 X dX10_glowFrom_18 ?_
          refine J_aload_0 X dX10_glowFrom_20 ?_
          refine J_get X (C := RX10) (T := TX10) (N := 11) (ref := "NightValley") hR.root rfl 3 (by decide) rfl in_X10 gw_1_235 (fun _ z => z) dX10_glowFrom_21 ?_
          refine J_callV X (c_Xsize hR (k := 3) (by omega)) (And.intro gw_2_34 cw_Jx4a65c_size_8abf5) (hR.list (by omega)) rfl rfl rfl (Nat.le_of_ble_eq_true rfl) dX10_glowFrom_24 rfl (J.pi ?_) JE.no
          refine J_icmp_ge (tgt := 75) X dX10_glowFrom_27 (by decide) (fun _ => ?_) (fun c => absurd (lp_exit rfl (by omega) hk18) c)
          rw [hK18] at q_v
          rw [hK18s] at q_s
          rw [hK18c] at q_c
          refine J.subL (lv' := [some (.ref (ρ 0 0)), some (.int p1), some (.int p2), some (.ref (ρ 8 (ix p1))), some (.int a18_4), none, none]) (And.intro rfl (And.intro rfl (And.intro rfl (And.intro rfl (And.intro rfl trivial))))) ?_
          exact X18 a18_4  trivial  q_v q_s q_c
        | succ n18 ih18 =>
          intro k18 a18_4  hk18  q_v q_s q_c
          rw [X_glowFrom_L18] at q_v
          rw [X_glowFrom_L18_s] at q_s
          rw [X_glowFrom_L18_c] at q_c
          have hlt18 : k18 < (xL σ 3) := by omega
          refine J_iload_5 X dX10_glowFrom_18 ?_
          refine J_aload_0 X dX10_glowFrom_20 ?_
          refine J_get X (C := RX10) (T := TX10) (N := 11) (ref := "NightValley") hR.root rfl 3 (by decide) rfl in_X10 gw_1_235 (fun _ z => z) dX10_glowFrom_21 ?_
          refine J_callV X (c_Xsize hR (k := 3) (by omega)) (And.intro gw_2_34 cw_Jx4a65c_size_8abf5) (hR.list (by omega)) rfl rfl rfl (Nat.le_of_ble_eq_true rfl) dX10_glowFrom_24 rfl (J.pi ?_) JE.no
          refine J_icmp_ge (tgt := 75) X dX10_glowFrom_27 (by decide) (fun c => absurd c (lp_stay rfl (by omega) hk18)) (fun _ => ?_)
          refine J_aload_0 X dX10_glowFrom_30 ?_
          refine J_get X (C := RX10) (T := TX10) (N := 11) (ref := "NightValley") hR.root rfl 3 (by decide) rfl in_X10 gw_1_235 (fun _ z => z) dX10_glowFrom_31 ?_
          refine J_iload_5 X dX10_glowFrom_34 ?_
          refine J_callV X (c_Xget hR (k := 3) (by omega) (vp_in_nI (N := (xL σ 3)) (by omega) (by omega))) (And.intro gw_2_104 cw_Jx4a65c_get_915e3) (hR.list (by omega)) rfl rfl rfl (Nat.le_of_ble_eq_true rfl) dX10_glowFrom_36 rfl (J.pa ?_) JE.no
          refine J_cast X (C := RX2) (T := TX2) (N := 12) (hR.lamp (vp_lt (vp_in_nI (N := (xL σ 3)) (by omega) (by omega)))) rfl gw_2_118 dX10_glowFrom_39 ?_
          refine J_astore_6 X dX10_glowFrom_42 rfl (by decide) ?_
          refine J_aload_3 X dX10_glowFrom_44 ?_
          refine J_aload_6 X dX10_glowFrom_45 ?_
          refine J_get X (C := RX2) (T := TX2) (N := 12) (ref := "NightValley$Lamp") (hR.lamp (vp_lt (vp_in_nI (N := (xL σ 3)) (by omega) (by omega)))) rfl 1 (by decide) rfl in_X2 gw_3_59 (fun _ z => z) dX10_glowFrom_47 ?_
          refine J_callV X (c_X_directionOf hR (ix p1) (ix (σ 15 (ix (nI k18)))) (vp_lt c2) (IX_place hI _)) (And.intro gw_4_122 cw_X4_directionOf) (hR.place (vp_lt c2)) rfl rfl rfl (Nat.le_of_ble_eq_true rfl) dX10_glowFrom_50 rfl (J.pi ?_) JE.no
          refine J_iload_2 X dX10_glowFrom_53 ?_
          have K54_69 : ∀ (v54_0 : Int32), v54_0 = (X_glowFrom_j54l4 σ p1 p2 k18 a18_4) → J K h [some (.ref (ρ 0 0)), some (.int p1), some (.int p2), some (.ref (ρ 8 (ix p1))), some (.int v54_0), some (.int (nI k18)), some (.ref (ρ 10 (ix (nI k18))))] [] 69 2 12 := by
            intro v54_0 ev54_0
            try rw [ev54_0]
            clear ev54_0
            refine J_iinc_5 (v := (nI (k18 + 1))) X dX10_glowFrom_69 (nI_1 _) rfl (by decide) ?_
            refine J_goto (tgt := 18) X dX10_glowFrom_72 (by decide) ?_
            refine J.subL (lv' := [some (.ref (ρ 0 0)), some (.int p1), some (.int p2), some (.ref (ρ 8 (ix p1))), some (.int (X_glowFrom_j54l4 σ p1 p2 k18 a18_4)), some (.int (nI (k18 + 1))), none]) (And.intro rfl (And.intro rfl (And.intro rfl (And.intro rfl (And.intro rfl (And.intro rfl trivial)))))) ?_
            exact ih18 (k18 + 1) (X_glowFrom_j54l4 σ p1 p2 k18 a18_4)  (by omega)  q_v q_s q_c
          have j54_0 : X_glowFrom_j54l4 σ p1 p2 k18 a18_4 = (if (X_directionOf σ (ix p1) (ix (σ 15 (ix (nI k18))))) = p2 then (a18_4 + (X_givenBy σ (ix (nI k18)) (ix p1))) else a18_4) := rfl
          refine J_icmp_ne (tgt := 69) X dX10_glowFrom_54 (by decide) (fun c54 => ?_) (fun c54 => ?_)
          · skip
            rw [if_neg c54] at j54_0
            exact K54_69 _ j54_0.symm
          · skip
            rw [if_pos c54] at j54_0
            refine J_iload_4 X dX10_glowFrom_57 ?_
            refine J_aload_0 X dX10_glowFrom_59 ?_
            refine J_aload_6 X dX10_glowFrom_60 ?_
            refine J_aload_3 X dX10_glowFrom_62 ?_
            refine J_callV X (c_X_givenBy hR hI (ix (nI k18)) (ix p1) (vp_lt (vp_in_nI (N := (xL σ 3)) (by omega) (by omega))) (vp_lt c2)) (And.intro gw_2_119 cw_X10_givenBy) hR.root rfl rfl rfl (Nat.le_of_ble_eq_true rfl) dX10_glowFrom_63 rfl (J.pi ?_) JE.no
            refine J_iadd X dX10_glowFrom_66 ?_
            refine J_istore_4 X dX10_glowFrom_67 rfl (by decide) ?_
            exact K54_69 _ j54_0.symm
      have q_v : (X_glowFrom σ p1 p2) = (X_glowFrom_L18 σ p1 p2 K18 (xL σ 3) 0 (0 : Int32)) := by rw [hK18]; exact q_v
      have q_s : (X_glowFrom_s σ p1 p2) = (X_glowFrom_L18_s σ p1 p2 K18s (xL σ 3) 0 (0 : Int32)) := by rw [hK18s]; exact q_s
      have q_c : (X_glowFrom_c σ p1 p2) = (X_glowFrom_L18_c σ p1 p2 K18c (xL σ 3) 0 (0 : Int32)) := by rw [hK18c]; exact q_c
      exact L18 (xL σ 3) 0 (0 : Int32)  (Nat.zero_add _)  q_v q_s q_c
    · skip
      obtain ⟨e1, e2, c9⟩ := e
      subst e1
      rw [e2]
      clear e2
      rw [if_pos c9] at q_v
      rw [if_pos c9] at q_s
      rw [if_pos c9] at q_c
      exact JE_out X rfl rfl ⟨by rw [q_c]; rfl, by rw [q_c]; decide, by rw [q_s]; exact hR⟩
  · skip
    obtain ⟨e1, e2, c2⟩ := e
    subst e1
    rw [e2]
    clear e2
    rw [if_neg c2] at q_v
    rw [if_neg c2] at q_s
    rw [if_neg c2] at q_c
    exact JE_out X rfl rfl ⟨by rw [q_c]; rfl, by rw [q_c]; decide, by rw [q_s]; exact hR⟩
def X_ground_j43l3 (σ : St) (p1 : Int32) (k11 : Nat) (a11_3 : Int32) : Int32 := (if (X_isBurning σ (ix (nI k11))) = (0 : Int32) then a11_3 else (a11_3 + (X_weakened (X_light σ (ix (nI k11))) ((nI ((ix p1) % 8)) - (nI ((ix (σ 15 (ix (nI k11)))) % 8))) ((nI ((ix p1) / 8)) - (nI ((ix (σ 15 (ix (nI k11)))) / 8))))))
def X_ground_L11 (σ : St) (p1 : Int32) (K11 : Int32 → Int32) : Nat → Nat → Int32 → Int32
  | 0, _, a11_3 => K11 a11_3
  | n11 + 1, k11, a11_3 => (X_ground_L11 σ p1 K11 n11 (k11 + 1) (X_ground_j43l3 σ p1 k11 a11_3))
def X_ground_L11_s (σ : St) (p1 : Int32) (K11s : Int32 → St) : Nat → Nat → Int32 → St
  | 0, _, a11_3 => K11s a11_3
  | n11 + 1, k11, a11_3 => (X_ground_L11_s σ p1 K11s n11 (k11 + 1) (X_ground_j43l3 σ p1 k11 a11_3))
def X_ground_L11_c (σ : St) (p1 : Int32) (K11c : Int32 → Int32) : Nat → Nat → Int32 → Int32
  | 0, _, a11_3 => K11c a11_3
  | n11 + 1, k11, a11_3 => (X_ground_L11_c σ p1 K11c n11 (k11 + 1) (X_ground_j43l3 σ p1 k11 a11_3))
def X_ground (σ : St) (p1 : Int32) : Int32 := (@ite _ (vp_in p1 64) (Classical.propDecidable _) (X_ground_L11 σ p1 (fun a11_3 => a11_3) (xL σ 3) 0 (0 : Int32)) (0 : Int32))
def X_ground_s (σ : St) (p1 : Int32) : St := (@ite _ (vp_in p1 64) (Classical.propDecidable _) (X_ground_L11_s σ p1 (fun a11_3 => σ) (xL σ 3) 0 (0 : Int32)) σ)
def X_ground_c (σ : St) (p1 : Int32) : Int32 := (@ite _ (vp_in p1 64) (Classical.propDecidable _) (X_ground_L11_c σ p1 (fun a11_3 => (0 : Int32)) (xL σ 3) 0 (0 : Int32)) (1 : Int32))
theorem cw_X10_ground : Cond.instanceMethod yX10_ground ∈ GW ∧ Cond.selects RX10 yX10_ground yX10_ground ∈ GW ∧ Cond.initialized RX10 ∈ GW ∧ Cond.code yX10_ground cX10_ground 6 (some .int) ∈ GW ∧ yX10_ground.cls = RX10 ∧ (yX10_ground.cls ≠ "java/lang/invoke/MethodHandle" ∧ yX10_ground.cls ≠ "java/lang/invoke/VarHandle") ∧ (parseMethodDescriptor yX10_ground.desc).map (fun d => d.parameters.length) = some 1 := ⟨gw_4_127, gw_4_128, gw_1_1, gw_4_129, rfl, ⟨by decide, by decide⟩, by decide +kernel⟩
set_option maxRecDepth 100000 in
set_option maxHeartbeats 4000000 in
theorem c_X_ground {l : Launch} {D : va_G} {ca : Nat → Nat} {h : fH} {ρ : Nat → Nat → Nat} {μ : Nat → Nat → Int32} {cap : Nat → Nat} {σ : St} (hR : RX ca h ρ μ cap σ) (hI : InvX σ) (p1 : Int32) : FM l D ca yX10_ground (.code yX10_ground cX10_ground 6 (some .int)) { frames := 8, cells := 1, slots := 6, locals := 147 } [.ref (ρ 0 0), .int p1] h (pPub (some (.int (X_ground σ p1))) (X_ground_c σ p1) (fun h2 => RX ca h2 ρ μ cap (X_ground_s σ p1))) (pxX (X_ground_c σ p1) (fun h2 => RX ca h2 ρ μ cap (X_ground_s σ p1))) := by
  refine FM.of [some (.ref (ρ 0 0)), some (.int p1), none, none, none, none] (by decide) (Nat.le_of_ble_eq_true rfl) rfl ?_
  rintro K X rfl rfl rfl
  have q_v : (X_ground σ p1) = (@ite _ (vp_in p1 64) (Classical.propDecidable _) (X_ground_L11 σ p1 (fun a11_3 => a11_3) (xL σ 3) 0 (0 : Int32)) (0 : Int32)) := rfl
  have q_s : (X_ground_s σ p1) = (@ite _ (vp_in p1 64) (Classical.propDecidable _) (X_ground_L11_s σ p1 (fun a11_3 => σ) (xL σ 3) 0 (0 : Int32)) σ) := rfl
  have q_c : (X_ground_c σ p1) = (@ite _ (vp_in p1 64) (Classical.propDecidable _) (X_ground_L11_c σ p1 (fun a11_3 => (0 : Int32)) (xL σ 3) 0 (0 : Int32)) (1 : Int32)) := rfl
  refine J_aload_0 X dX10_ground_0 ?_
  refine J_iload_1 X dX10_ground_1 ?_
  refine J_callV X (c_placeOf hR hI p1) (And.intro gw_2_30 cw_X10_placeOf) hR.root rfl rfl rfl (Nat.le_of_ble_eq_true rfl) dX10_ground_2 rfl (fun v h2 e => ?_) (fun E h2 e => ?_)
  · skip
    obtain ⟨e1, e2, c2⟩ := e
    subst e1
    rw [e2]
    clear e2
    rw [if_pos c2] at q_v
    rw [if_pos c2] at q_s
    rw [if_pos c2] at q_c
    show J K h [some (.ref (ρ 0 0)), some (.int p1), none, none, none, none] [.ref (ρ 8 (ix p1))] 5 1 6
    refine J_astore_2 X dX10_ground_5 rfl (by decide) ?_
    refine J_iconst (v := 0) X dX10_ground_6 rfl ?_
    refine J_istore_3 X dX10_ground_7 rfl (by decide) ?_
    refine J_iconst (v := 0) X dX10_ground_8 rfl ?_
    refine J_istore_4 X dX10_ground_9 rfl (by decide) ?_
    have hle := IX_L hI 3
    obtain ⟨K11, hK11⟩ : ∃ f : Int32 → Int32, f = (fun a11_3 => a11_3) := ⟨_, rfl⟩
    obtain ⟨K11s, hK11s⟩ : ∃ f : Int32 → St, f = (fun a11_3 => σ) := ⟨_, rfl⟩
    obtain ⟨K11c, hK11c⟩ : ∃ f : Int32 → Int32, f = (fun a11_3 => (0 : Int32)) := ⟨_, rfl⟩
    have X11 : ∀ (a11_3 : Int32) (_ : True), (X_ground σ p1) = a11_3 → (X_ground_s σ p1) = σ → (X_ground_c σ p1) = (0 : Int32) → J K h [some (.ref (ρ 0 0)), some (.int p1), some (.ref (ρ 8 (ix p1))), some (.int a11_3), none, none] [] 89 1 6 := by
      intro a11_3  _  q_v q_s q_c
      refine J_iload_3 X dX10_ground_89 ?_
      exact J_iret X rfl rfl ⟨by rw [q_v], by rw [q_c], by rw [q_s]; exact hR⟩ dX10_ground_90
    have L11 : ∀ (n11 k11 : Nat) (a11_3 : Int32), k11 + n11 = (xL σ 3) → (X_ground σ p1) = (X_ground_L11 σ p1 K11 n11 k11 a11_3) → (X_ground_s σ p1) = (X_ground_L11_s σ p1 K11s n11 k11 a11_3) → (X_ground_c σ p1) = (X_ground_L11_c σ p1 K11c n11 k11 a11_3) → J K h [some (.ref (ρ 0 0)), some (.int p1), some (.ref (ρ 8 (ix p1))), some (.int a11_3), some (.int (nI k11)), none] [] 11 1 6 := by
      intro n11
      induction n11 with
      | zero =>
        intro k11 a11_3  hk11  q_v q_s q_c
        rw [X_ground_L11] at q_v
        rw [X_ground_L11_s] at q_s
        rw [X_ground_L11_c] at q_c
        refine J_iload_4 X dX10_ground_11 ?_
        refine J_aload_0 X dX10_ground_13 ?_
        refine J_get X (C := RX10) (T := TX10) (N := 11) (ref := "NightValley") hR.root rfl 3 (by decide) rfl in_X10 gw_1_235 (fun _ z => z) dX10_ground_14 ?_
        refine J_callV X (c_Xsize hR (k := 3) (by omega)) (And.intro gw_2_34 cw_Jx4a65c_size_8abf5) (hR.list (by omega)) rfl rfl rfl (Nat.le_of_ble_eq_true rfl) dX10_ground_17 rfl (J.pi ?_) JE.no
        refine J_icmp_ge (tgt := 89) X dX10_ground_20 (by decide) (fun _ => ?_) (fun c => absurd (lp_exit rfl (by omega) hk11) c)
        rw [hK11] at q_v
        rw [hK11s] at q_s
        rw [hK11c] at q_c
        refine J.subL (lv' := [some (.ref (ρ 0 0)), some (.int p1), some (.ref (ρ 8 (ix p1))), some (.int a11_3), none, none]) (And.intro rfl (And.intro rfl (And.intro rfl (And.intro rfl trivial)))) ?_
        exact X11 a11_3  trivial  q_v q_s q_c
      | succ n11 ih11 =>
        intro k11 a11_3  hk11  q_v q_s q_c
        rw [X_ground_L11] at q_v
        rw [X_ground_L11_s] at q_s
        rw [X_ground_L11_c] at q_c
        have hlt11 : k11 < (xL σ 3) := by omega
        refine J_iload_4 X dX10_ground_11 ?_
        refine J_aload_0 X dX10_ground_13 ?_
        refine J_get X (C := RX10) (T := TX10) (N := 11) (ref := "NightValley") hR.root rfl 3 (by decide) rfl in_X10 gw_1_235 (fun _ z => z) dX10_ground_14 ?_
        refine J_callV X (c_Xsize hR (k := 3) (by omega)) (And.intro gw_2_34 cw_Jx4a65c_size_8abf5) (hR.list (by omega)) rfl rfl rfl (Nat.le_of_ble_eq_true rfl) dX10_ground_17 rfl (J.pi ?_) JE.no
        refine J_icmp_ge (tgt := 89) X dX10_ground_20 (by decide) (fun c => absurd c (lp_stay rfl (by omega) hk11)) (fun _ => ?_)
        refine J_aload_0 X dX10_ground_23 ?_
        refine J_get X (C := RX10) (T := TX10) (N := 11) (ref := "NightValley") hR.root rfl 3 (by decide) rfl in_X10 gw_1_235 (fun _ z => z) dX10_ground_24 ?_
        refine J_iload_4 X dX10_ground_27 ?_
        refine J_callV X (c_Xget hR (k := 3) (by omega) (vp_in_nI (N := (xL σ 3)) (by omega) (by omega))) (And.intro gw_2_104 cw_Jx4a65c_get_915e3) (hR.list (by omega)) rfl rfl rfl (Nat.le_of_ble_eq_true rfl) dX10_ground_29 rfl (J.pa ?_) JE.no
        refine J_cast X (C := RX2) (T := TX2) (N := 12) (hR.lamp (vp_lt (vp_in_nI (N := (xL σ 3)) (by omega) (by omega)))) rfl gw_2_118 dX10_ground_32 ?_
        refine J_astore_5 X dX10_ground_35 rfl (by decide) ?_
        refine J_aload_0 X dX10_ground_37 ?_
        refine J_aload_5 X dX10_ground_38 ?_
        refine J_callV X (c_X_isBurning hR hI (ix (nI k11)) (vp_lt (vp_in_nI (N := (xL σ 3)) (by omega) (by omega)))) (And.intro gw_2_123 cw_X10_isBurning) hR.root rfl rfl rfl (Nat.le_of_ble_eq_true rfl) dX10_ground_40 rfl (J.pi ?_) JE.no
        have K43_83 : ∀ (v43_0 : Int32), v43_0 = (X_ground_j43l3 σ p1 k11 a11_3) → J K h [some (.ref (ρ 0 0)), some (.int p1), some (.ref (ρ 8 (ix p1))), some (.int v43_0), some (.int (nI k11)), some (.ref (ρ 10 (ix (nI k11))))] [] 83 1 6 := by
          intro v43_0 ev43_0
          try rw [ev43_0]
          clear ev43_0
          refine J_iinc_4 (v := (nI (k11 + 1))) X dX10_ground_83 (nI_1 _) rfl (by decide) ?_
          refine J_goto (tgt := 11) X dX10_ground_86 (by decide) ?_
          refine J.subL (lv' := [some (.ref (ρ 0 0)), some (.int p1), some (.ref (ρ 8 (ix p1))), some (.int (X_ground_j43l3 σ p1 k11 a11_3)), some (.int (nI (k11 + 1))), none]) (And.intro rfl (And.intro rfl (And.intro rfl (And.intro rfl (And.intro rfl trivial))))) ?_
          exact ih11 (k11 + 1) (X_ground_j43l3 σ p1 k11 a11_3)  (by omega)  q_v q_s q_c
        have j43_0 : X_ground_j43l3 σ p1 k11 a11_3 = (if (X_isBurning σ (ix (nI k11))) = (0 : Int32) then a11_3 else (a11_3 + (X_weakened (X_light σ (ix (nI k11))) ((nI ((ix p1) % 8)) - (nI ((ix (σ 15 (ix (nI k11)))) % 8))) ((nI ((ix p1) / 8)) - (nI ((ix (σ 15 (ix (nI k11)))) / 8)))))) := rfl
        refine J_if_eq (tgt := 83) X dX10_ground_43 (by decide) (fun c43 => ?_) (fun c43 => ?_)
        · skip
          rw [if_pos c43] at j43_0
          exact K43_83 _ j43_0.symm
        · skip
          rw [if_neg c43] at j43_0
          refine J_iload_3 X dX10_ground_46 ?_
          refine J_aload_5 X dX10_ground_47 ?_
          refine J_callV X (c_X_light hR (ix (nI k11)) (vp_lt (vp_in_nI (N := (xL σ 3)) (by omega) (by omega)))) (And.intro gw_4_1 cw_X2_light) (hR.lamp (vp_lt (vp_in_nI (N := (xL σ 3)) (by omega) (by omega)))) rfl rfl rfl (Nat.le_of_ble_eq_true rfl) dX10_ground_49 rfl (J.pi ?_) JE.no
          refine J_aload_2 X dX10_ground_52 ?_
          refine J_get X (C := RX4) (T := TX4) (N := 4) (ref := "NightValley$Place") (hR.place (vp_lt c2)) rfl 0 (by decide) rfl in_X4 gw_1_214 (fun _ z => z) dX10_ground_53 ?_
          refine J_aload_5 X dX10_ground_56 ?_
          refine J_get X (C := RX2) (T := TX2) (N := 12) (ref := "NightValley$Lamp") (hR.lamp (vp_lt (vp_in_nI (N := (xL σ 3)) (by omega) (by omega)))) rfl 1 (by decide) rfl in_X2 gw_3_59 (fun _ z => z) dX10_ground_58 ?_
          refine J_get X (C := RX4) (T := TX4) (N := 4) (ref := "NightValley$Place") (hR.place (IX_place hI _)) rfl 0 (by decide) rfl in_X4 gw_1_214 (fun _ z => z) dX10_ground_61 ?_
          refine J_isub X dX10_ground_64 ?_
          refine J_aload_2 X dX10_ground_65 ?_
          refine J_get X (C := RX4) (T := TX4) (N := 4) (ref := "NightValley$Place") (hR.place (vp_lt c2)) rfl 1 (by decide) rfl in_X4 gw_1_217 (fun _ z => z) dX10_ground_66 ?_
          refine J_aload_5 X dX10_ground_69 ?_
          refine J_get X (C := RX2) (T := TX2) (N := 12) (ref := "NightValley$Lamp") (hR.lamp (vp_lt (vp_in_nI (N := (xL σ 3)) (by omega) (by omega)))) rfl 1 (by decide) rfl in_X2 gw_3_59 (fun _ z => z) dX10_ground_71 ?_
          refine J_get X (C := RX4) (T := TX4) (N := 4) (ref := "NightValley$Place") (hR.place (IX_place hI _)) rfl 1 (by decide) rfl in_X4 gw_1_217 (fun _ z => z) dX10_ground_74 ?_
          refine J_isub X dX10_ground_77 ?_
          refine J_callS X (c_X_weakened (X_light σ (ix (nI k11))) ((nI ((ix p1) % 8)) - (nI ((ix (σ 15 (ix (nI k11)))) % 8))) ((nI ((ix p1) / 8)) - (nI ((ix (σ 15 (ix (nI k11)))) / 8)))) (And.intro gw_2_148 cw_X10_weakened) rfl rfl (Nat.le_of_ble_eq_true rfl) dX10_ground_78 rfl (J.pi ?_) JE.no
          refine J_iadd X dX10_ground_81 ?_
          refine J_istore_3 X dX10_ground_82 rfl (by decide) ?_
          exact K43_83 _ j43_0.symm
    have q_v : (X_ground σ p1) = (X_ground_L11 σ p1 K11 (xL σ 3) 0 (0 : Int32)) := by rw [hK11]; exact q_v
    have q_s : (X_ground_s σ p1) = (X_ground_L11_s σ p1 K11s (xL σ 3) 0 (0 : Int32)) := by rw [hK11s]; exact q_s
    have q_c : (X_ground_c σ p1) = (X_ground_L11_c σ p1 K11c (xL σ 3) 0 (0 : Int32)) := by rw [hK11c]; exact q_c
    exact L11 (xL σ 3) 0 (0 : Int32)  (Nat.zero_add _)  q_v q_s q_c
  · skip
    obtain ⟨e1, e2, c2⟩ := e
    subst e1
    rw [e2]
    clear e2
    rw [if_neg c2] at q_v
    rw [if_neg c2] at q_s
    rw [if_neg c2] at q_c
    exact JE_out X rfl rfl ⟨by rw [q_c]; rfl, by rw [q_c]; decide, by rw [q_s]; exact hR⟩
def X_culprit_j49l3 (σ : St) (p1 : Int32) (k14 : Nat) (a14_3 : Int32) (a14_4 : Int32) : Int32 := (if (X_givenBy σ (ix (nI k14)) (ix p1)) ≤ a14_4 then a14_3 else (nI k14))
def X_culprit_j49l4 (σ : St) (p1 : Int32) (k14 : Nat) (a14_3 : Int32) (a14_4 : Int32) : Int32 := (if (X_givenBy σ (ix (nI k14)) (ix p1)) ≤ a14_4 then a14_4 else (X_givenBy σ (ix (nI k14)) (ix p1)))
def X_culprit_L14 (σ : St) (p1 : Int32) (K14 : Int32 → Int32 → Int32) : Nat → Nat → Int32 → Int32 → Int32
  | 0, _, a14_3, a14_4 => K14 a14_3 a14_4
  | n14 + 1, k14, a14_3, a14_4 => (X_culprit_L14 σ p1 K14 n14 (k14 + 1) (X_culprit_j49l3 σ p1 k14 a14_3 a14_4) (X_culprit_j49l4 σ p1 k14 a14_3 a14_4))
def X_culprit_L14_s (σ : St) (p1 : Int32) (K14s : Int32 → Int32 → St) : Nat → Nat → Int32 → Int32 → St
  | 0, _, a14_3, a14_4 => K14s a14_3 a14_4
  | n14 + 1, k14, a14_3, a14_4 => (X_culprit_L14_s σ p1 K14s n14 (k14 + 1) (X_culprit_j49l3 σ p1 k14 a14_3 a14_4) (X_culprit_j49l4 σ p1 k14 a14_3 a14_4))
def X_culprit_L14_c (σ : St) (p1 : Int32) (K14c : Int32 → Int32 → Int32) : Nat → Nat → Int32 → Int32 → Int32
  | 0, _, a14_3, a14_4 => K14c a14_3 a14_4
  | n14 + 1, k14, a14_3, a14_4 => (X_culprit_L14_c σ p1 K14c n14 (k14 + 1) (X_culprit_j49l3 σ p1 k14 a14_3 a14_4) (X_culprit_j49l4 σ p1 k14 a14_3 a14_4))
def X_culprit (σ : St) (p1 : Int32) : Int32 := (@ite _ (vp_in p1 64) (Classical.propDecidable _) (X_culprit_L14 σ p1 (fun a14_3 a14_4 => a14_3) (xL σ 3) 0 (-1 : Int32) (0 : Int32)) (0 : Int32))
def X_culprit_s (σ : St) (p1 : Int32) : St := (@ite _ (vp_in p1 64) (Classical.propDecidable _) (X_culprit_L14_s σ p1 (fun a14_3 a14_4 => σ) (xL σ 3) 0 (-1 : Int32) (0 : Int32)) σ)
def X_culprit_c (σ : St) (p1 : Int32) : Int32 := (@ite _ (vp_in p1 64) (Classical.propDecidable _) (X_culprit_L14_c σ p1 (fun a14_3 a14_4 => (0 : Int32)) (xL σ 3) 0 (-1 : Int32) (0 : Int32)) (1 : Int32))
theorem cw_X10_culprit : Cond.instanceMethod yX10_culprit ∈ GW ∧ Cond.selects RX10 yX10_culprit yX10_culprit ∈ GW ∧ Cond.initialized RX10 ∈ GW ∧ Cond.code yX10_culprit cX10_culprit 7 (some .int) ∈ GW ∧ yX10_culprit.cls = RX10 ∧ (yX10_culprit.cls ≠ "java/lang/invoke/MethodHandle" ∧ yX10_culprit.cls ≠ "java/lang/invoke/VarHandle") ∧ (parseMethodDescriptor yX10_culprit.desc).map (fun d => d.parameters.length) = some 1 := ⟨gw_2_27, gw_2_28, gw_1_1, gw_2_29, rfl, ⟨by decide, by decide⟩, by decide +kernel⟩
set_option maxRecDepth 100000 in
set_option maxHeartbeats 4000000 in
theorem c_X_culprit {l : Launch} {D : va_G} {ca : Nat → Nat} {h : fH} {ρ : Nat → Nat → Nat} {μ : Nat → Nat → Int32} {cap : Nat → Nat} {σ : St} (hR : RX ca h ρ μ cap σ) (hI : InvX σ) (p1 : Int32) : FM l D ca yX10_culprit (.code yX10_culprit cX10_culprit 7 (some .int)) { frames := 8, cells := 1, slots := 6, locals := 148 } [.ref (ρ 0 0), .int p1] h (pPub (some (.int (X_culprit σ p1))) (X_culprit_c σ p1) (fun h2 => RX ca h2 ρ μ cap (X_culprit_s σ p1))) (pxX (X_culprit_c σ p1) (fun h2 => RX ca h2 ρ μ cap (X_culprit_s σ p1))) := by
  refine FM.of [some (.ref (ρ 0 0)), some (.int p1), none, none, none, none, none] (by decide) (Nat.le_of_ble_eq_true rfl) rfl ?_
  rintro K X rfl rfl rfl
  have q_v : (X_culprit σ p1) = (@ite _ (vp_in p1 64) (Classical.propDecidable _) (X_culprit_L14 σ p1 (fun a14_3 a14_4 => a14_3) (xL σ 3) 0 (-1 : Int32) (0 : Int32)) (0 : Int32)) := rfl
  have q_s : (X_culprit_s σ p1) = (@ite _ (vp_in p1 64) (Classical.propDecidable _) (X_culprit_L14_s σ p1 (fun a14_3 a14_4 => σ) (xL σ 3) 0 (-1 : Int32) (0 : Int32)) σ) := rfl
  have q_c : (X_culprit_c σ p1) = (@ite _ (vp_in p1 64) (Classical.propDecidable _) (X_culprit_L14_c σ p1 (fun a14_3 a14_4 => (0 : Int32)) (xL σ 3) 0 (-1 : Int32) (0 : Int32)) (1 : Int32)) := rfl
  refine J_aload_0 X dX10_culprit_0 ?_
  refine J_iload_1 X dX10_culprit_1 ?_
  refine J_callV X (c_placeOf hR hI p1) (And.intro gw_2_30 cw_X10_placeOf) hR.root rfl rfl rfl (Nat.le_of_ble_eq_true rfl) dX10_culprit_2 rfl (fun v h2 e => ?_) (fun E h2 e => ?_)
  · skip
    obtain ⟨e1, e2, c2⟩ := e
    subst e1
    rw [e2]
    clear e2
    rw [if_pos c2] at q_v
    rw [if_pos c2] at q_s
    rw [if_pos c2] at q_c
    show J K h [some (.ref (ρ 0 0)), some (.int p1), none, none, none, none, none] [.ref (ρ 8 (ix p1))] 5 1 6
    refine J_astore_2 X dX10_culprit_5 rfl (by decide) ?_
    refine J_iconst (v := -1) X dX10_culprit_6 rfl ?_
    refine J_istore_3 X dX10_culprit_7 rfl (by decide) ?_
    refine J_iconst (v := 0) X dX10_culprit_8 rfl ?_
    refine J_istore_4 X dX10_culprit_9 rfl (by decide) ?_
    refine J_iconst (v := 0) X dX10_culprit_11 rfl ?_
    refine J_istore_5 X dX10_culprit_12 rfl (by decide) ?_
    have hle := IX_L hI 3
    obtain ⟨K14, hK14⟩ : ∃ f : Int32 → Int32 → Int32, f = (fun a14_3 a14_4 => a14_3) := ⟨_, rfl⟩
    obtain ⟨K14s, hK14s⟩ : ∃ f : Int32 → Int32 → St, f = (fun a14_3 a14_4 => σ) := ⟨_, rfl⟩
    obtain ⟨K14c, hK14c⟩ : ∃ f : Int32 → Int32 → Int32, f = (fun a14_3 a14_4 => (0 : Int32)) := ⟨_, rfl⟩
    have X14 : ∀ (a14_3 : Int32) (a14_4 : Int32) (_ : True), (X_culprit σ p1) = a14_3 → (X_culprit_s σ p1) = σ → (X_culprit_c σ p1) = (0 : Int32) → J K h [some (.ref (ρ 0 0)), some (.int p1), some (.ref (ρ 8 (ix p1))), some (.int a14_3), some (.int a14_4), none, none] [] 65 1 6 := by
      intro a14_3 a14_4  _  q_v q_s q_c
      refine J_iload_3 X dX10_culprit_65 ?_
      exact J_iret X rfl rfl ⟨by rw [q_v], by rw [q_c], by rw [q_s]; exact hR⟩ dX10_culprit_66
    have L14 : ∀ (n14 k14 : Nat) (a14_3 : Int32) (a14_4 : Int32), k14 + n14 = (xL σ 3) → (X_culprit σ p1) = (X_culprit_L14 σ p1 K14 n14 k14 a14_3 a14_4) → (X_culprit_s σ p1) = (X_culprit_L14_s σ p1 K14s n14 k14 a14_3 a14_4) → (X_culprit_c σ p1) = (X_culprit_L14_c σ p1 K14c n14 k14 a14_3 a14_4) → J K h [some (.ref (ρ 0 0)), some (.int p1), some (.ref (ρ 8 (ix p1))), some (.int a14_3), some (.int a14_4), some (.int (nI k14)), none] [] 14 1 6 := by
      intro n14
      induction n14 with
      | zero =>
        intro k14 a14_3 a14_4  hk14  q_v q_s q_c
        rw [X_culprit_L14] at q_v
        rw [X_culprit_L14_s] at q_s
        rw [X_culprit_L14_c] at q_c
        refine J_iload_5 X dX10_culprit_14 ?_
        refine J_aload_0 X dX10_culprit_16 ?_
        refine J_get X (C := RX10) (T := TX10) (N := 11) (ref := "NightValley") hR.root rfl 3 (by decide) rfl in_X10 gw_1_235 (fun _ z => z) dX10_culprit_17 ?_
        refine J_callV X (c_Xsize hR (k := 3) (by omega)) (And.intro gw_2_34 cw_Jx4a65c_size_8abf5) (hR.list (by omega)) rfl rfl rfl (Nat.le_of_ble_eq_true rfl) dX10_culprit_20 rfl (J.pi ?_) JE.no
        refine J_icmp_ge (tgt := 65) X dX10_culprit_23 (by decide) (fun _ => ?_) (fun c => absurd (lp_exit rfl (by omega) hk14) c)
        rw [hK14] at q_v
        rw [hK14s] at q_s
        rw [hK14c] at q_c
        refine J.subL (lv' := [some (.ref (ρ 0 0)), some (.int p1), some (.ref (ρ 8 (ix p1))), some (.int a14_3), some (.int a14_4), none, none]) (And.intro rfl (And.intro rfl (And.intro rfl (And.intro rfl (And.intro rfl trivial))))) ?_
        exact X14 a14_3 a14_4  trivial  q_v q_s q_c
      | succ n14 ih14 =>
        intro k14 a14_3 a14_4  hk14  q_v q_s q_c
        rw [X_culprit_L14] at q_v
        rw [X_culprit_L14_s] at q_s
        rw [X_culprit_L14_c] at q_c
        have hlt14 : k14 < (xL σ 3) := by omega
        refine J_iload_5 X dX10_culprit_14 ?_
        refine J_aload_0 X dX10_culprit_16 ?_
        refine J_get X (C := RX10) (T := TX10) (N := 11) (ref := "NightValley") hR.root rfl 3 (by decide) rfl in_X10 gw_1_235 (fun _ z => z) dX10_culprit_17 ?_
        refine J_callV X (c_Xsize hR (k := 3) (by omega)) (And.intro gw_2_34 cw_Jx4a65c_size_8abf5) (hR.list (by omega)) rfl rfl rfl (Nat.le_of_ble_eq_true rfl) dX10_culprit_20 rfl (J.pi ?_) JE.no
        refine J_icmp_ge (tgt := 65) X dX10_culprit_23 (by decide) (fun c => absurd c (lp_stay rfl (by omega) hk14)) (fun _ => ?_)
        refine J_aload_0 X dX10_culprit_26 ?_
        refine J_aload_0 X dX10_culprit_27 ?_
        refine J_get X (C := RX10) (T := TX10) (N := 11) (ref := "NightValley") hR.root rfl 3 (by decide) rfl in_X10 gw_1_235 (fun _ z => z) dX10_culprit_28 ?_
        refine J_iload_5 X dX10_culprit_31 ?_
        refine J_callV X (c_Xget hR (k := 3) (by omega) (vp_in_nI (N := (xL σ 3)) (by omega) (by omega))) (And.intro gw_2_104 cw_Jx4a65c_get_915e3) (hR.list (by omega)) rfl rfl rfl (Nat.le_of_ble_eq_true rfl) dX10_culprit_33 rfl (J.pa ?_) JE.no
        refine J_cast X (C := RX2) (T := TX2) (N := 12) (hR.lamp (vp_lt (vp_in_nI (N := (xL σ 3)) (by omega) (by omega)))) rfl gw_2_118 dX10_culprit_36 ?_
        refine J_aload_2 X dX10_culprit_39 ?_
        refine J_callV X (c_X_givenBy hR hI (ix (nI k14)) (ix p1) (vp_lt (vp_in_nI (N := (xL σ 3)) (by omega) (by omega))) (vp_lt c2)) (And.intro gw_2_119 cw_X10_givenBy) hR.root rfl rfl rfl (Nat.le_of_ble_eq_true rfl) dX10_culprit_40 rfl (J.pi ?_) JE.no
        refine J_istore_6 X dX10_culprit_43 rfl (by decide) ?_
        refine J_iload_6 X dX10_culprit_45 ?_
        refine J_iload_4 X dX10_culprit_47 ?_
        have K49_59 : ∀ (v49_0 : Int32), v49_0 = (X_culprit_j49l3 σ p1 k14 a14_3 a14_4) → ∀ (v49_1 : Int32), v49_1 = (X_culprit_j49l4 σ p1 k14 a14_3 a14_4) → J K h [some (.ref (ρ 0 0)), some (.int p1), some (.ref (ρ 8 (ix p1))), some (.int v49_0), some (.int v49_1), some (.int (nI k14)), some (.int (X_givenBy σ (ix (nI k14)) (ix p1)))] [] 59 1 6 := by
          intro v49_0 ev49_0
          try rw [ev49_0]
          clear ev49_0
          intro v49_1 ev49_1
          try rw [ev49_1]
          clear ev49_1
          refine J_iinc_5 (v := (nI (k14 + 1))) X dX10_culprit_59 (nI_1 _) rfl (by decide) ?_
          refine J_goto (tgt := 14) X dX10_culprit_62 (by decide) ?_
          refine J.subL (lv' := [some (.ref (ρ 0 0)), some (.int p1), some (.ref (ρ 8 (ix p1))), some (.int (X_culprit_j49l3 σ p1 k14 a14_3 a14_4)), some (.int (X_culprit_j49l4 σ p1 k14 a14_3 a14_4)), some (.int (nI (k14 + 1))), none]) (And.intro rfl (And.intro rfl (And.intro rfl (And.intro rfl (And.intro rfl (And.intro rfl trivial)))))) ?_
          exact ih14 (k14 + 1) (X_culprit_j49l3 σ p1 k14 a14_3 a14_4) (X_culprit_j49l4 σ p1 k14 a14_3 a14_4)  (by omega)  q_v q_s q_c
        have j49_0 : X_culprit_j49l3 σ p1 k14 a14_3 a14_4 = (if (X_givenBy σ (ix (nI k14)) (ix p1)) ≤ a14_4 then a14_3 else (nI k14)) := rfl
        have j49_1 : X_culprit_j49l4 σ p1 k14 a14_3 a14_4 = (if (X_givenBy σ (ix (nI k14)) (ix p1)) ≤ a14_4 then a14_4 else (X_givenBy σ (ix (nI k14)) (ix p1))) := rfl
        refine J_icmp_le (tgt := 59) X dX10_culprit_49 (by decide) (fun c49 => ?_) (fun c49 => ?_)
        · skip
          rw [if_pos c49] at j49_0
          rw [if_pos c49] at j49_1
          exact K49_59 _ j49_0.symm _ j49_1.symm
        · skip
          rw [if_neg c49] at j49_0
          rw [if_neg c49] at j49_1
          refine J_iload_6 X dX10_culprit_52 ?_
          refine J_istore_4 X dX10_culprit_54 rfl (by decide) ?_
          refine J_iload_5 X dX10_culprit_56 ?_
          refine J_istore_3 X dX10_culprit_58 rfl (by decide) ?_
          exact K49_59 _ j49_0.symm _ j49_1.symm
    have q_v : (X_culprit σ p1) = (X_culprit_L14 σ p1 K14 (xL σ 3) 0 (-1 : Int32) (0 : Int32)) := by rw [hK14]; exact q_v
    have q_s : (X_culprit_s σ p1) = (X_culprit_L14_s σ p1 K14s (xL σ 3) 0 (-1 : Int32) (0 : Int32)) := by rw [hK14s]; exact q_s
    have q_c : (X_culprit_c σ p1) = (X_culprit_L14_c σ p1 K14c (xL σ 3) 0 (-1 : Int32) (0 : Int32)) := by rw [hK14c]; exact q_c
    exact L14 (xL σ 3) 0 (-1 : Int32) (0 : Int32)  (Nat.zero_add _)  q_v q_s q_c
  · skip
    obtain ⟨e1, e2, c2⟩ := e
    subst e1
    rw [e2]
    clear e2
    rw [if_neg c2] at q_v
    rw [if_neg c2] at q_s
    rw [if_neg c2] at q_c
    exact JE_out X rfl rfl ⟨by rw [q_c]; rfl, by rw [q_c]; decide, by rw [q_s]; exact hR⟩
def X_refit_s (σ : St) (i : Nat) (p1 : Int32) (p2 : Int32) (p3 : Int32) : St := (sS (sS (sS σ 18 i p1) 19 i p2) 24 i (p3 + (8760 : Int32)))
theorem cw_X2_refit : Cond.instanceMethod yX2_refit ∈ GW ∧ Cond.selects RX2 yX2_refit yX2_refit ∈ GW ∧ Cond.initialized RX2 ∈ GW ∧ Cond.code yX2_refit cX2_refit 4 none ∈ GW ∧ yX2_refit.cls = RX2 ∧ (yX2_refit.cls ≠ "java/lang/invoke/MethodHandle" ∧ yX2_refit.cls ≠ "java/lang/invoke/VarHandle") ∧ (parseMethodDescriptor yX2_refit.desc).map (fun d => d.parameters.length) = some 3 := ⟨gw_3_134, gw_3_135, gw_1_23, gw_3_136, rfl, ⟨by decide, by decide⟩, by decide +kernel⟩
set_option maxRecDepth 100000 in
set_option maxHeartbeats 4000000 in
theorem c_X_refit {l : Launch} {D : va_G} {ca : Nat → Nat} {h : fH} {ρ : Nat → Nat → Nat} {μ : Nat → Nat → Int32} {cap : Nat → Nat} {σ : St} (hR : RX ca h ρ μ cap σ) (i : Nat) (p1 : Int32) (p2 : Int32) (p3 : Int32) (hi : i < ix (σ 13 0)) : FM l D ca yX2_refit (.code yX2_refit cX2_refit 4 none) { frames := 1, cells := 0, slots := 0, locals := 20 } [.ref (ρ 10 i), .int p1, .int p2, .int p3] h (pVM (fun h2 => RX ca h2 ρ μ cap (X_refit_s σ i p1 p2 p3))) noX := by
  refine FM.of [some (.ref (ρ 10 i)), some (.int p1), some (.int p2), some (.int p3)] (by decide) (Nat.le_of_ble_eq_true rfl) rfl ?_
  rintro K X rfl rfl rfl
  have q_s : (X_refit_s σ i p1 p2 p3) = (sS (sS (sS σ 18 i p1) 19 i p2) 24 i (p3 + (8760 : Int32))) := rfl
  refine J_aload_0 X dX2_refit_0 ?_
  refine J_iload_1 X dX2_refit_1 ?_
  refine JX_p10_4 X hR (i := i) hi (v := p1) gw_3_62 dX2_refit_2 (fun h1 hR1 => ?_)
  refine J_aload_0 X dX2_refit_5 ?_
  refine J_iload_2 X dX2_refit_6 ?_
  refine JX_p10_5 X hR1 (i := i) hi (v := p2) gw_3_64 dX2_refit_7 (fun h2 hR2 => ?_)
  refine J_aload_0 X dX2_refit_10 ?_
  refine J_iload_3 X dX2_refit_11 ?_
  refine J_sipush (v := (8760 : Int32)) X dX2_refit_12 (by decide) ?_
  refine J_iadd X dX2_refit_15 ?_
  refine JX_p10_10 X hR2 (i := i) hi (v := (p3 + (8760 : Int32))) gw_3_74 dX2_refit_16 (fun h3 hR3 => ?_)
  exact J_vret X rfl rfl ⟨rfl, by rw [q_s]; exact hR3⟩ dX2_refit_19
def X_payFine_s (σ : St) (i : Nat) : St := (sS (sS σ 10 i ((σ 10 i) - (10 : Int32))) 11 i (((sS σ 10 i ((σ 10 i) - (10 : Int32))) 11 i) + (10 : Int32)))
theorem cw_X7_payFine : Cond.instanceMethod yX7_payFine ∈ GW ∧ Cond.selects RX7 yX7_payFine yX7_payFine ∈ GW ∧ Cond.initialized RX7 ∈ GW ∧ Cond.code yX7_payFine cX7_payFine 1 none ∈ GW ∧ yX7_payFine.cls = RX7 ∧ (yX7_payFine.cls ≠ "java/lang/invoke/MethodHandle" ∧ yX7_payFine.cls ≠ "java/lang/invoke/VarHandle") ∧ (parseMethodDescriptor yX7_payFine.desc).map (fun d => d.parameters.length) = some 0 := ⟨gw_3_146, gw_3_147, gw_1_22, gw_3_148, rfl, ⟨by decide, by decide⟩, by decide +kernel⟩
set_option maxRecDepth 100000 in
set_option maxHeartbeats 4000000 in
theorem c_X_payFine {l : Launch} {D : va_G} {ca : Nat → Nat} {h : fH} {ρ : Nat → Nat → Nat} {μ : Nat → Nat → Int32} {cap : Nat → Nat} {σ : St} (hR : RX ca h ρ μ cap σ) (i : Nat) (hi : i < ix (σ 8 0)) : FM l D ca yX7_payFine (.code yX7_payFine cX7_payFine 1 none) { frames := 1, cells := 0, slots := 0, locals := 20 } [.ref (ρ 9 i)] h (pVM (fun h2 => RX ca h2 ρ μ cap (X_payFine_s σ i))) noX := by
  refine FM.of [some (.ref (ρ 9 i))] (by decide) (Nat.le_of_ble_eq_true rfl) rfl ?_
  rintro K X rfl rfl rfl
  have q_s : (X_payFine_s σ i) = (sS (sS σ 10 i ((σ 10 i) - (10 : Int32))) 11 i (((sS σ 10 i ((σ 10 i) - (10 : Int32))) 11 i) + (10 : Int32))) := rfl
  refine J_aload_0 X dX7_payFine_0 ?_
  refine J_dup X dX7_payFine_1 rfl ?_
  refine J_get X (C := RX7) (T := TX7) (N := 5) (ref := "NightValley$Village") (hR.village hi) rfl 1 (by decide) rfl in_X7 gw_3_26 (fun _ z => z) dX7_payFine_2 ?_
  refine J_bipush (v := (10 : Int32)) X dX7_payFine_5 (by decide) ?_
  refine J_isub X dX7_payFine_7 ?_
  refine JX_p9_1 X hR (i := i) hi (v := ((σ 10 i) - (10 : Int32))) gw_3_26 dX7_payFine_8 (fun h1 hR1 => ?_)
  refine J_aload_0 X dX7_payFine_11 ?_
  refine J_dup X dX7_payFine_12 rfl ?_
  refine J_get X (C := RX7) (T := TX7) (N := 5) (ref := "NightValley$Village") (hR1.village hi) rfl 2 (by decide) rfl in_X7 gw_3_28 (fun _ z => z) dX7_payFine_13 ?_
  refine J_bipush (v := (10 : Int32)) X dX7_payFine_16 (by decide) ?_
  refine J_iadd X dX7_payFine_18 ?_
  refine JX_p9_2 X hR1 (i := i) hi (v := (((sS σ 10 i ((σ 10 i) - (10 : Int32))) 11 i) + (10 : Int32))) gw_3_28 dX7_payFine_19 (fun h2 hR2 => ?_)
  exact J_vret X rfl rfl ⟨rfl, by rw [q_s]; exact hR2⟩ dX7_payFine_22
end
