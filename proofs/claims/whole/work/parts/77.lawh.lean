noncomputable section
theorem un_one {hx : fH} {o : Nat} {e : va_E} (h : hx o = none) : un hx (one o e) o = some e := (un_r h).trans (one_same o e)
theorem vp01 : vp_in 0 1 := vp_in_nI (n := 0) (N := 1) (by decide) (by decide)
theorem xN_1 : xN 1 = xIO := rfl
theorem xN_2 : xN 2 = xIA := by decide
theorem xN_3 : xN 3 = xIS := by decide
theorem slope_c (σ : St) (i : Nat) : X_slope_c σ i = 0 ∨ X_slope_c σ i = 3 := by
  unfold X_slope_c
  have h : ∀ n k a b c d, X_slope_L23_c σ i (fun a23_3 a23_5 a23_7 a23_9 => (if (lg_cmp (((nI (xL σ (i + 6))).toInt64 * a23_9) - (a23_3 * a23_3)) (0 : Int64)) = (0 : Int32) then (3 : Int32) else (0 : Int32))) n k a b c d = 0 ∨ X_slope_L23_c σ i (fun a23_3 a23_5 a23_7 a23_9 => (if (lg_cmp (((nI (xL σ (i + 6))).toInt64 * a23_9) - (a23_3 * a23_3)) (0 : Int64)) = (0 : Int32) then (3 : Int32) else (0 : Int32))) n k a b c d = 3 := by
    intro n
    induction n with
    | zero =>
      intro k a b c d
      rw [X_slope_L23_c]
      split
      · exact Or.inr rfl
      · exact Or.inl rfl
    | succ n ih => intro k a b c d; rw [X_slope_L23_c]; exact ih ..
  exact h _ _ _ _ _ _
theorem RX.c34 {ca : Nat → Nat} {h : fH} {ρ : Nat → Nat → Nat} {μ : Nat → Nat → Int32} {cap : Nat → Nat} {σ : St} (hR : RX ca h ρ μ cap σ) : RX ca h ρ μ cap (sC σ 34 (σ 34 0)) := by
  have cc : ∀ k, k ≠ 34 → sC σ 34 (σ 34 0) k = σ k := fun k => sC_col
  have c0 : sC σ 34 (σ 34 0) 34 0 = σ 34 0 := sC_same ..
  generalize sC σ 34 (σ 34 0) = σ' at *
  have hL : ∀ k, xL σ' k = xL σ k := fun k => by
    unfold xL
    split <;> simp only [cc 8 (by decide), cc 13 (by decide), cc 26 (by decide), cc 37 (by decide), cc 31 (by decide)]
  have hD : ∀ k, xD ρ σ' k = xD ρ σ k := fun k => by
    unfold xD
    funext i
    rw [hL]
  have hF : ∀ z, xF σ' z = xF σ z := fun z => by
    unfold xF
    rw [cc 7 (by decide)]
  have h1 : xC ca ρ μ cap σ' = xC ca ρ μ cap σ := by
    funext k i
    unfold xC
    simp (disch := decide) only [hF, xRoot, xList, xLabel, xZone, xPlace, xVillage, xLamp, xMeter, xReading, xSat, hL, hD, c0, cc]
  unfold RX
  rw [h1, cc 26 (by decide)]
  refine ⟨hR.1, hR.2.1, fun k hk => ?_⟩
  rw [hL]
  exact hR.2.2 k hk
theorem C_ridge {σ : St} {p1 : Int32} {p2 : Int32} : X_ridge_c σ p1 p2 = 0 ∨ X_ridge_c σ p1 p2 = 1 := by
  unfold X_ridge_c
  try simp only [X_glowFrom_L18_c_k, X_ground_L11_c_k, X_culprit_L14_c_k, X_trails_L21_c_k, insX_c, psX_c, audX_c, plan_c, way_c]
  (repeat' split) <;> decide
theorem cw_L_ridge : Cond.static yL_ridge ∈ GW ∧ Cond.initialized yL_ridge.cls ∈ GW ∧ Cond.codeWith yL_ridge cL_ridge 5 (some .int) [(0, 17, 20, 13)] ∈ GW ∧ (yL_ridge.cls ≠ "java/lang/invoke/MethodHandle" ∧ yL_ridge.cls ≠ "java/lang/invoke/VarHandle") ∧ (parseMethodDescriptor yL_ridge.desc).map (fun d => d.parameters.length) = some 4 := ⟨gw_2_39, gw_1_0, gw_2_40, ⟨by decide, by decide⟩, by decide +kernel⟩
theorem c_L_ridge {l : Launch} {D : va_G} {ca : Nat → Nat} {h : fH} {ρ : Nat → Nat → Nat} {μ : Nat → Nat → Int32} {cap : Nat → Nat} {σ : St} (hR : RX ca h ρ μ cap σ) (hI : InvX σ) (hcap : ∀ k, cap k ≤ 100) (p1 : Int32) (p2 : Int32) (hp2 : p2 = 0 ∨ p2 = 1) {o : Nat} {g : Nat → Int64} (ho : h o = none) : FM l D ca yL_ridge (.codeWith yL_ridge cL_ridge 5 (some .int) [(0, 17, 20, 13)]) { frames := 9, cells := 1, slots := 6, locals := 170 } [.ref (ρ 0 0), .int p1, .int p2, .ref o] (un h (one o (oc ca g))) (fun v h2 => v = some (.int (lawK (X_ridge_c σ p1 p2) 1 0 0)) ∧ ∃ h2x, RA ca h2x (ρ 0 0) (X_ridge_s σ p1 p2) ∧ h2x o = none ∧ h2 = un h2x (one o (oc ca (if X_ridge_c σ p1 p2 = 0 then vp_updL g 0 (if X_ridge σ p1 p2 = 0 then (0 : Int64) else 1) else g)))) noX := by
  refine FM.ofH [some (.ref (ρ 0 0)), some (.int p1), some (.int p2), some (.ref o), none] (by decide) (Nat.le_of_ble_eq_true rfl) rfl ?_
  rintro K X rfl rfl rfl
  refine J_aload_3 X dL_ridge_0 ?_
  refine J_iconst (v := 0) X dL_ridge_1 rfl ?_
  refine J_aload_0 X dL_ridge_2 ?_
  refine J_iload_1 X dL_ridge_3 ?_
  refine J_iload_2 X dL_ridge_4 ?_
  refine J_callV X ((c_X_ridge hR hI p1 p2 hp2).frame (apart_one (e := oc (kca K) g) ho)) (And.intro gw_2_42 cw_X10_ridge) (un_l hR.root) rfl rfl rfl (Nat.le_of_ble_eq_true rfl) dL_ridge_5 rfl (fun v h2 e => ?_) (fun E h2 e => ?_)
  · obtain ⟨hx, ⟨e1, e2, hRA⟩, hap, eh⟩ := e
    subst e1
    subst eh
    have ho2 : hx o = none := hap.sym o (by rw [one_same]; exact fun z => by cases z)
    show J K _ [some (.ref (ρ 0 0)), some (.int p1), some (.int p2), some (.ref o), none] [.int (X_ridge σ p1 p2), .int 0, .ref o] 8 _ _
    have K16 : J K (un hx (one o (oc (kca K) g))) [some (.ref (ρ 0 0)), some (.int p1), some (.int p2), some (.ref o), none] [.long (if X_ridge σ p1 p2 = 0 then (0 : Int64) else 1), .int 0, .ref o] 16 1 6 := by
      refine J_last X (N := 1) (un_one ho2) vp01 dL_ridge_16 ?_
      rw [fU_un_one ho2]
      refine J_goto (tgt := 24) X dL_ridge_17 (by decide) ?_
      refine J_iconst (v := 0) X dL_ridge_24 rfl ?_
      exact J_iret X rfl rfl ⟨by rw [e2]; rfl, hx, ⟨ρ, _, cap, hRA, rfl, hcap⟩, ho2, by rw [if_pos e2]; rfl⟩ dL_ridge_25
    refine J_if_eq (tgt := 15) X dL_ridge_8 (by decide) (fun z => ?_) (fun z => ?_)
    · refine J_lconst (v := 0) X dL_ridge_15 rfl ?_
      rw [if_pos z] at K16
      exact K16
    · refine J_lconst (v := 1) X dL_ridge_11 rfl ?_
      refine J_goto (tgt := 16) X dL_ridge_12 (by decide) ?_
      rw [if_neg z] at K16
      exact K16
  · obtain ⟨hx, ⟨eE, ec, hRA⟩, hap, eh⟩ := e
    subst eh
    have ho2 : hx o = none := hap.sym o (by rw [one_same]; exact fun z => by cases z)
    rcases C_ridge (σ := σ) (p1 := p1) (p2 := p2) with z | z
    · exact absurd z ec
    · rw [z, xN_1] at eE
      subst eE
      refine J_catch X [] ⟨0, 17, 20, 13⟩ [] rfl (fun w hw => (by cases hw)) (by decide) (by decide) gw_2_41 (cst_in (i := 3) rfl) (fun q => ?_)
      refine J_astore_4 X dL_ridge_20 rfl (by decide) ?_
      refine J_iconst (v := 1) X dL_ridge_22 rfl ?_
      exact J_iret X rfl rfl ⟨by rw [z]; rfl, hx, ⟨ρ, _, cap, hRA, rfl, hcap⟩, ho2, by rw [if_neg ec]⟩ dL_ridge_23
theorem C_zone {σ : St} {p1 : Int32} {p2 : Int32} : X_zone_c σ p1 p2 = 0 ∨ X_zone_c σ p1 p2 = 1 := by
  unfold X_zone_c
  try simp only [X_glowFrom_L18_c_k, X_ground_L11_c_k, X_culprit_L14_c_k, X_trails_L21_c_k, insX_c, psX_c, audX_c, plan_c, way_c]
  (repeat' split) <;> decide
theorem cw_L_zone : Cond.static yL_zone ∈ GW ∧ Cond.initialized yL_zone.cls ∈ GW ∧ Cond.codeWith yL_zone cL_zone 5 (some .int) [(0, 10, 13, 13)] ∈ GW ∧ (yL_zone.cls ≠ "java/lang/invoke/MethodHandle" ∧ yL_zone.cls ≠ "java/lang/invoke/VarHandle") ∧ (parseMethodDescriptor yL_zone.desc).map (fun d => d.parameters.length) = some 4 := ⟨gw_2_135, gw_1_0, gw_2_136, ⟨by decide, by decide⟩, by decide +kernel⟩
theorem c_L_zone {l : Launch} {D : va_G} {ca : Nat → Nat} {h : fH} {ρ : Nat → Nat → Nat} {μ : Nat → Nat → Int32} {cap : Nat → Nat} {σ : St} (hR : RX ca h ρ μ cap σ) (hI : InvX σ) (hcap : ∀ k, cap k ≤ 100) (p1 : Int32) (p2 : Int32) {o : Nat} {g : Nat → Int64} (ho : h o = none) : FM l D ca yL_zone (.codeWith yL_zone cL_zone 5 (some .int) [(0, 10, 13, 13)]) { frames := 9, cells := 2, slots := 12, locals := 172 } [.ref (ρ 0 0), .int p1, .int p2, .ref o] (un h (one o (oc ca g))) (fun v h2 => v = some (.int (lawK (X_zone_c σ p1 p2) 1 0 0)) ∧ ∃ h2x, RA ca h2x (ρ 0 0) (X_zone_s σ p1 p2) ∧ h2x o = none ∧ h2 = un h2x (one o (oc ca (if X_zone_c σ p1 p2 = 0 then vp_updL g 0 (X_zone σ p1 p2).toInt64 else g)))) noX := by
  refine FM.ofH [some (.ref (ρ 0 0)), some (.int p1), some (.int p2), some (.ref o), none] (by decide) (Nat.le_of_ble_eq_true rfl) rfl ?_
  rintro K X rfl rfl rfl
  refine J_aload_3 X dL_zone_0 ?_
  refine J_iconst (v := 0) X dL_zone_1 rfl ?_
  refine J_aload_0 X dL_zone_2 ?_
  refine J_iload_1 X dL_zone_3 ?_
  refine J_iload_2 X dL_zone_4 ?_
  refine J_callV X ((c_X_zone hR hI p1 p2).frame (apart_one (e := oc (kca K) g) ho)) (And.intro gw_2_137 cw_X10_zone) (un_l hR.root) rfl rfl rfl (Nat.le_of_ble_eq_true rfl) dL_zone_5 rfl (fun v h2 e => ?_) (fun E h2 e => ?_)
  · obtain ⟨hx, ⟨e1, e2, hRA⟩, hap, eh⟩ := e
    subst e1
    subst eh
    have ho2 : hx o = none := hap.sym o (by rw [one_same]; exact fun z => by cases z)
    show J K _ [some (.ref (ρ 0 0)), some (.int p1), some (.int p2), some (.ref o), none] [.int (X_zone σ p1 p2), .int 0, .ref o] 8 _ _
    refine J_i2l X dL_zone_8 ?_
    refine J_last X (N := 1) (un_one ho2) vp01 dL_zone_9 ?_
    rw [fU_un_one ho2]
    refine J_goto (tgt := 17) X dL_zone_10 (by decide) ?_
    refine J_iconst (v := 0) X dL_zone_17 rfl ?_
    exact J_iret X rfl rfl ⟨by rw [e2]; rfl, hx, ⟨ρ, _, cap, hRA, rfl, hcap⟩, ho2, by rw [if_pos e2]; rfl⟩ dL_zone_18
  · obtain ⟨hx, ⟨eE, ec, hRA⟩, hap, eh⟩ := e
    subst eh
    have ho2 : hx o = none := hap.sym o (by rw [one_same]; exact fun z => by cases z)
    rcases C_zone (σ := σ) (p1 := p1) (p2 := p2) with z | z
    · exact absurd z ec
    · rw [z, xN_1] at eE
      subst eE
      refine J_catch X [] ⟨0, 10, 13, 13⟩ [] rfl (fun w hw => (by cases hw)) (by decide) (by decide) gw_2_41 (cst_in (i := 3) rfl) (fun q => ?_)
      refine J_astore_4 X dL_zone_13 rfl (by decide) ?_
      refine J_iconst (v := 1) X dL_zone_15 rfl ?_
      exact J_iret X rfl rfl ⟨by rw [z]; rfl, hx, ⟨ρ, _, cap, hRA, rfl, hcap⟩, ho2, by rw [if_neg ec]⟩ dL_zone_16
theorem C_law {σ : St} {p1 : Int32} {p2 : Int32} {p3 : Int32} {p4 : Int32} : X_law_c σ p1 p2 p3 p4 = 0 ∨ X_law_c σ p1 p2 p3 p4 = 1 ∨ X_law_c σ p1 p2 p3 p4 = 2 := by
  unfold X_law_c
  try simp only [X_glowFrom_L18_c_k, X_ground_L11_c_k, X_culprit_L14_c_k, X_trails_L21_c_k, insX_c, psX_c, audX_c, plan_c, way_c]
  (repeat' split) <;> decide
theorem cw_L_law : Cond.static yL_law ∈ GW ∧ Cond.initialized yL_law.cls ∈ GW ∧ Cond.codeWith yL_law cL_law 6 (some .int) [(0, 9, 12, 13), (0, 9, 16, 23)] ∈ GW ∧ (yL_law.cls ≠ "java/lang/invoke/MethodHandle" ∧ yL_law.cls ≠ "java/lang/invoke/VarHandle") ∧ (parseMethodDescriptor yL_law.desc).map (fun d => d.parameters.length) = some 5 := ⟨gw_2_146, gw_1_0, gw_2_147, ⟨by decide, by decide⟩, by decide +kernel⟩
theorem c_L_law {l : Launch} {D : va_G} {ca : Nat → Nat} {h : fH} {ρ : Nat → Nat → Nat} {μ : Nat → Nat → Int32} {cap : Nat → Nat} {σ : St} (hR : RX ca h ρ μ cap σ) (hI : InvX σ) (hcap : ∀ k, cap k ≤ 100) (p1 : Int32) (p2 : Int32) (p3 : Int32) (p4 : Int32) : FM l D ca yL_law (.codeWith yL_law cL_law 6 (some .int) [(0, 9, 12, 13), (0, 9, 16, 23)]) { frames := 9, cells := 4, slots := 24, locals := 172 } [.ref (ρ 0 0), .int p1, .int p2, .int p3, .int p4] h (fun v h2 => v = some (.int (lawK (X_law_c σ p1 p2 p3 p4) 1 2 0)) ∧ RA ca h2 (ρ 0 0) (X_law_s σ p1 p2 p3 p4)) noX := by
  refine FM.ofH [some (.ref (ρ 0 0)), some (.int p1), some (.int p2), some (.int p3), some (.int p4), none] (by decide) (Nat.le_of_ble_eq_true rfl) rfl ?_
  rintro K X rfl rfl rfl
  refine J_aload_0 X dL_law_0 ?_
  refine J_iload_1 X dL_law_1 ?_
  refine J_iload_2 X dL_law_2 ?_
  refine J_iload_3 X dL_law_3 ?_
  refine J_iload_4 X dL_law_4 ?_
  refine J_callV X (c_X_law hR hI p1 p2 p3 p4) (And.intro gw_2_149 cw_X10_law) hR.root rfl rfl rfl (Nat.le_of_ble_eq_true rfl) dL_law_6 rfl (fun v h2 e => ?_) (fun E h2 e => ?_)
  · obtain ⟨e1, e2, hRA⟩ := e
    subst e1
    show J K h2 [some (.ref (ρ 0 0)), some (.int p1), some (.int p2), some (.int p3), some (.int p4), none] [] 9 _ _
    refine J_goto (tgt := 20) X dL_law_9 (by decide) ?_
    refine J_iconst (v := 0) X dL_law_20 rfl ?_
    exact J_iret X rfl rfl ⟨by rw [e2]; rfl, ⟨ρ, _, cap, hRA, rfl, hcap⟩⟩ dL_law_21
  · obtain ⟨eE, ec, hRA⟩ := e
    rcases C_law (σ := σ) (p1 := p1) (p2 := p2) (p3 := p3) (p4 := p4) with z | z | z
    · exact absurd z ec
    · rw [z, xN_1] at eE
      subst eE
      refine J_catch X [] ⟨0, 9, 12, 13⟩ [⟨0, 9, 16, 23⟩] rfl (fun w hw => (by cases hw)) (by decide) (by decide) gw_2_41 (cst_in (i := 3) rfl) (fun q => ?_)
      refine J_astore_5 X dL_law_12 rfl (by decide) ?_
      refine J_iconst (v := 1) X dL_law_14 rfl ?_
      exact J_iret X rfl rfl ⟨by rw [z]; rfl, ⟨ρ, _, cap, hRA, rfl, hcap⟩⟩ dL_law_15
    · rw [z, xN_2] at eE
      subst eE
      refine J_catch X [⟨0, 9, 12, 13⟩] ⟨0, 9, 16, 23⟩ [] rfl (List.forall_mem_cons.mpr ⟨⟨by decide, _, gw_2_41, by decide⟩, (fun w hw => absurd hw List.not_mem_nil)⟩) (by decide) (by decide) gw_2_148 (cst_in (i := 10) rfl) (fun q => ?_)
      refine J_astore_5 X dL_law_16 rfl (by decide) ?_
      refine J_iconst (v := 2) X dL_law_18 rfl ?_
      exact J_iret X rfl rfl ⟨by rw [z]; rfl, ⟨ρ, _, cap, hRA, rfl, hcap⟩⟩ dL_law_19
theorem C_feast {σ : St} {p1 : Int32} {p2 : Int32} : X_feast_c σ p1 p2 = 0 ∨ X_feast_c σ p1 p2 = 1 ∨ X_feast_c σ p1 p2 = 2 := by
  unfold X_feast_c
  try simp only [X_glowFrom_L18_c_k, X_ground_L11_c_k, X_culprit_L14_c_k, X_trails_L21_c_k, insX_c, psX_c, audX_c, plan_c, way_c]
  (repeat' split) <;> decide
theorem cw_L_feast : Cond.static yL_feast ∈ GW ∧ Cond.initialized yL_feast.cls ∈ GW ∧ Cond.codeWith yL_feast cL_feast 5 (some .int) [(0, 10, 13, 13), (0, 10, 17, 23)] ∈ GW ∧ (yL_feast.cls ≠ "java/lang/invoke/MethodHandle" ∧ yL_feast.cls ≠ "java/lang/invoke/VarHandle") ∧ (parseMethodDescriptor yL_feast.desc).map (fun d => d.parameters.length) = some 4 := ⟨gw_2_172, gw_1_0, gw_2_173, ⟨by decide, by decide⟩, by decide +kernel⟩
theorem c_L_feast {l : Launch} {D : va_G} {ca : Nat → Nat} {h : fH} {ρ : Nat → Nat → Nat} {μ : Nat → Nat → Int32} {cap : Nat → Nat} {σ : St} (hR : RX ca h ρ μ cap σ) (hI : InvX σ) (hcap : ∀ k, cap k ≤ 100) (p1 : Int32) (p2 : Int32) {o : Nat} {g : Nat → Int64} (ho : h o = none) : FM l D ca yL_feast (.codeWith yL_feast cL_feast 5 (some .int) [(0, 10, 13, 13), (0, 10, 17, 23)]) { frames := 9, cells := 2, slots := 12, locals := 168 } [.ref (ρ 0 0), .int p1, .int p2, .ref o] (un h (one o (oc ca g))) (fun v h2 => v = some (.int (lawK (X_feast_c σ p1 p2) 1 2 0)) ∧ ∃ h2x, RA ca h2x (ρ 0 0) (X_feast_s σ p1 p2) ∧ h2x o = none ∧ h2 = un h2x (one o (oc ca (if X_feast_c σ p1 p2 = 0 then vp_updL g 0 (X_feast σ p1 p2).toInt64 else g)))) noX := by
  refine FM.ofH [some (.ref (ρ 0 0)), some (.int p1), some (.int p2), some (.ref o), none] (by decide) (Nat.le_of_ble_eq_true rfl) rfl ?_
  rintro K X rfl rfl rfl
  refine J_aload_3 X dL_feast_0 ?_
  refine J_iconst (v := 0) X dL_feast_1 rfl ?_
  refine J_aload_0 X dL_feast_2 ?_
  refine J_iload_1 X dL_feast_3 ?_
  refine J_iload_2 X dL_feast_4 ?_
  refine J_callV X ((c_X_feast hR hI p1 p2).frame (apart_one (e := oc (kca K) g) ho)) (And.intro gw_2_174 cw_X10_feast) (un_l hR.root) rfl rfl rfl (Nat.le_of_ble_eq_true rfl) dL_feast_5 rfl (fun v h2 e => ?_) (fun E h2 e => ?_)
  · obtain ⟨hx, ⟨e1, e2, hRA⟩, hap, eh⟩ := e
    subst e1
    subst eh
    have ho2 : hx o = none := hap.sym o (by rw [one_same]; exact fun z => by cases z)
    show J K _ [some (.ref (ρ 0 0)), some (.int p1), some (.int p2), some (.ref o), none] [.int (X_feast σ p1 p2), .int 0, .ref o] 8 _ _
    refine J_i2l X dL_feast_8 ?_
    refine J_last X (N := 1) (un_one ho2) vp01 dL_feast_9 ?_
    rw [fU_un_one ho2]
    refine J_goto (tgt := 21) X dL_feast_10 (by decide) ?_
    refine J_iconst (v := 0) X dL_feast_21 rfl ?_
    exact J_iret X rfl rfl ⟨by rw [e2]; rfl, hx, ⟨ρ, _, cap, hRA, rfl, hcap⟩, ho2, by rw [if_pos e2]; rfl⟩ dL_feast_22
  · obtain ⟨hx, ⟨eE, ec, hRA⟩, hap, eh⟩ := e
    subst eh
    have ho2 : hx o = none := hap.sym o (by rw [one_same]; exact fun z => by cases z)
    rcases C_feast (σ := σ) (p1 := p1) (p2 := p2) with z | z | z
    · exact absurd z ec
    · rw [z, xN_1] at eE
      subst eE
      refine J_catch X [] ⟨0, 10, 13, 13⟩ [⟨0, 10, 17, 23⟩] rfl (fun w hw => (by cases hw)) (by decide) (by decide) gw_2_41 (cst_in (i := 3) rfl) (fun q => ?_)
      refine J_astore_4 X dL_feast_13 rfl (by decide) ?_
      refine J_iconst (v := 1) X dL_feast_15 rfl ?_
      exact J_iret X rfl rfl ⟨by rw [z]; rfl, hx, ⟨ρ, _, cap, hRA, rfl, hcap⟩, ho2, by rw [if_neg ec]⟩ dL_feast_16
    · rw [z, xN_2] at eE
      subst eE
      refine J_catch X [⟨0, 10, 13, 13⟩] ⟨0, 10, 17, 23⟩ [] rfl (List.forall_mem_cons.mpr ⟨⟨by decide, _, gw_2_41, by decide⟩, (fun w hw => absurd hw List.not_mem_nil)⟩) (by decide) (by decide) gw_2_148 (cst_in (i := 10) rfl) (fun q => ?_)
      refine J_astore_4 X dL_feast_17 rfl (by decide) ?_
      refine J_iconst (v := 2) X dL_feast_19 rfl ?_
      exact J_iret X rfl rfl ⟨by rw [z]; rfl, hx, ⟨ρ, _, cap, hRA, rfl, hcap⟩, ho2, by rw [if_neg ec]⟩ dL_feast_20
theorem C_air {σ : St} {p1 : Int32} : X_air_c σ p1 = 0 ∨ X_air_c σ p1 = 2 := by
  unfold X_air_c
  try simp only [X_glowFrom_L18_c_k, X_ground_L11_c_k, X_culprit_L14_c_k, X_trails_L21_c_k, insX_c, psX_c, audX_c, plan_c, way_c]
  (repeat' split) <;> decide
theorem cw_L_air : Cond.static yL_air ∈ GW ∧ Cond.initialized yL_air.cls ∈ GW ∧ Cond.codeWith yL_air cL_air 4 (some .int) [(0, 9, 12, 23)] ∈ GW ∧ (yL_air.cls ≠ "java/lang/invoke/MethodHandle" ∧ yL_air.cls ≠ "java/lang/invoke/VarHandle") ∧ (parseMethodDescriptor yL_air.desc).map (fun d => d.parameters.length) = some 3 := ⟨gw_2_183, gw_1_0, gw_2_184, ⟨by decide, by decide⟩, by decide +kernel⟩
theorem c_L_air {l : Launch} {D : va_G} {ca : Nat → Nat} {h : fH} {ρ : Nat → Nat → Nat} {μ : Nat → Nat → Int32} {cap : Nat → Nat} {σ : St} (hR : RX ca h ρ μ cap σ) (hI : InvX σ) (hcap : ∀ k, cap k ≤ 100) (p1 : Int32) {o : Nat} {g : Nat → Int64} (ho : h o = none) : FM l D ca yL_air (.codeWith yL_air cL_air 4 (some .int) [(0, 9, 12, 23)]) { frames := 8, cells := 1, slots := 6, locals := 145 } [.ref (ρ 0 0), .int p1, .ref o] (un h (one o (oc ca g))) (fun v h2 => v = some (.int (lawK (X_air_c σ p1) 0 1 0)) ∧ ∃ h2x, RA ca h2x (ρ 0 0) (X_air_s σ p1) ∧ h2x o = none ∧ h2 = un h2x (one o (oc ca (if X_air_c σ p1 = 0 then vp_updL g 0 (X_air σ p1).toInt64 else g)))) noX := by
  refine FM.ofH [some (.ref (ρ 0 0)), some (.int p1), some (.ref o), none] (by decide) (Nat.le_of_ble_eq_true rfl) rfl ?_
  rintro K X rfl rfl rfl
  refine J_aload_2 X dL_air_0 ?_
  refine J_iconst (v := 0) X dL_air_1 rfl ?_
  refine J_aload_0 X dL_air_2 ?_
  refine J_iload_1 X dL_air_3 ?_
  refine J_callV X ((c_X_air hR hI p1).frame (apart_one (e := oc (kca K) g) ho)) (And.intro gw_2_185 cw_X10_air) (un_l hR.root) rfl rfl rfl (Nat.le_of_ble_eq_true rfl) dL_air_4 rfl (fun v h2 e => ?_) (fun E h2 e => ?_)
  · obtain ⟨hx, ⟨e1, e2, hRA⟩, hap, eh⟩ := e
    subst e1
    subst eh
    have ho2 : hx o = none := hap.sym o (by rw [one_same]; exact fun z => by cases z)
    show J K _ [some (.ref (ρ 0 0)), some (.int p1), some (.ref o), none] [.int (X_air σ p1), .int 0, .ref o] 7 _ _
    refine J_i2l X dL_air_7 ?_
    refine J_last X (N := 1) (un_one ho2) vp01 dL_air_8 ?_
    rw [fU_un_one ho2]
    refine J_goto (tgt := 15) X dL_air_9 (by decide) ?_
    refine J_iconst (v := 0) X dL_air_15 rfl ?_
    exact J_iret X rfl rfl ⟨by rw [e2]; rfl, hx, ⟨ρ, _, cap, hRA, rfl, hcap⟩, ho2, by rw [if_pos e2]; rfl⟩ dL_air_16
  · obtain ⟨hx, ⟨eE, ec, hRA⟩, hap, eh⟩ := e
    subst eh
    have ho2 : hx o = none := hap.sym o (by rw [one_same]; exact fun z => by cases z)
    rcases C_air (σ := σ) (p1 := p1) with z | z
    · exact absurd z ec
    · rw [z, xN_2] at eE
      subst eE
      refine J_catch X [] ⟨0, 9, 12, 23⟩ [] rfl (fun w hw => (by cases hw)) (by decide) (by decide) gw_2_148 (cst_in (i := 10) rfl) (fun q => ?_)
      refine J_astore_3 X dL_air_12 rfl (by decide) ?_
      refine J_iconst (v := 1) X dL_air_13 rfl ?_
      exact J_iret X rfl rfl ⟨by rw [z]; rfl, hx, ⟨ρ, _, cap, hRA, rfl, hcap⟩, ho2, by rw [if_neg ec]⟩ dL_air_14
theorem C_pass {σ : St} {p1 : Int32} : X_pass_c σ p1 = 0 ∨ X_pass_c σ p1 = 2 ∨ X_pass_c σ p1 = 3 := by
  unfold X_pass_c
  try simp only [X_glowFrom_L18_c_k, X_ground_L11_c_k, X_culprit_L14_c_k, X_trails_L21_c_k, insX_c, psX_c, audX_c, plan_c, way_c]
  (repeat' split) <;> decide
theorem cw_L_pass : Cond.static yL_pass ∈ GW ∧ Cond.initialized yL_pass.cls ∈ GW ∧ Cond.codeWith yL_pass cL_pass 4 (some .int) [(0, 9, 12, 23), (0, 9, 15, 35)] ∈ GW ∧ (yL_pass.cls ≠ "java/lang/invoke/MethodHandle" ∧ yL_pass.cls ≠ "java/lang/invoke/VarHandle") ∧ (parseMethodDescriptor yL_pass.desc).map (fun d => d.parameters.length) = some 3 := ⟨gw_2_190, gw_1_0, gw_2_191, ⟨by decide, by decide⟩, by decide +kernel⟩
theorem c_L_pass {l : Launch} {D : va_G} {ca : Nat → Nat} {h : fH} {ρ : Nat → Nat → Nat} {μ : Nat → Nat → Int32} {cap : Nat → Nat} {σ : St} (hR : RX ca h ρ μ cap σ) (hI : InvX σ) (hcap : ∀ k, cap k ≤ 100) (p1 : Int32) {o : Nat} {g : Nat → Int64} (ho : h o = none) : FM l D ca yL_pass (.codeWith yL_pass cL_pass 4 (some .int) [(0, 9, 12, 23), (0, 9, 15, 35)]) { frames := 8, cells := 2, slots := 12, locals := 145 } [.ref (ρ 0 0), .int p1, .ref o] (un h (one o (oc ca g))) (fun v h2 => v = some (.int (lawK (X_pass_c σ p1) 0 1 2)) ∧ ∃ h2x, RA ca h2x (ρ 0 0) (X_pass_s σ p1) ∧ h2x o = none ∧ h2 = un h2x (one o (oc ca (if X_pass_c σ p1 = 0 then vp_updL g 0 (X_pass σ p1).toInt64 else g)))) noX := by
  refine FM.ofH [some (.ref (ρ 0 0)), some (.int p1), some (.ref o), none] (by decide) (Nat.le_of_ble_eq_true rfl) rfl ?_
  rintro K X rfl rfl rfl
  refine J_aload_2 X dL_pass_0 ?_
  refine J_iconst (v := 0) X dL_pass_1 rfl ?_
  refine J_aload_0 X dL_pass_2 ?_
  refine J_iload_1 X dL_pass_3 ?_
  refine J_callV X ((c_X_pass hR hI p1).frame (apart_one (e := oc (kca K) g) ho)) (And.intro gw_2_193 cw_X10_pass) (un_l hR.root) rfl rfl rfl (Nat.le_of_ble_eq_true rfl) dL_pass_4 rfl (fun v h2 e => ?_) (fun E h2 e => ?_)
  · obtain ⟨hx, ⟨e1, e2, hRA⟩, hap, eh⟩ := e
    subst e1
    subst eh
    have ho2 : hx o = none := hap.sym o (by rw [one_same]; exact fun z => by cases z)
    show J K _ [some (.ref (ρ 0 0)), some (.int p1), some (.ref o), none] [.int (X_pass σ p1), .int 0, .ref o] 7 _ _
    refine J_i2l X dL_pass_7 ?_
    refine J_last X (N := 1) (un_one ho2) vp01 dL_pass_8 ?_
    rw [fU_un_one ho2]
    refine J_goto (tgt := 18) X dL_pass_9 (by decide) ?_
    refine J_iconst (v := 0) X dL_pass_18 rfl ?_
    exact J_iret X rfl rfl ⟨by rw [e2]; rfl, hx, ⟨ρ, _, cap, hRA, rfl, hcap⟩, ho2, by rw [if_pos e2]; rfl⟩ dL_pass_19
  · obtain ⟨hx, ⟨eE, ec, hRA⟩, hap, eh⟩ := e
    subst eh
    have ho2 : hx o = none := hap.sym o (by rw [one_same]; exact fun z => by cases z)
    rcases C_pass (σ := σ) (p1 := p1) with z | z | z
    · exact absurd z ec
    · rw [z, xN_2] at eE
      subst eE
      refine J_catch X [] ⟨0, 9, 12, 23⟩ [⟨0, 9, 15, 35⟩] rfl (fun w hw => (by cases hw)) (by decide) (by decide) gw_2_148 (cst_in (i := 10) rfl) (fun q => ?_)
      refine J_astore_3 X dL_pass_12 rfl (by decide) ?_
      refine J_iconst (v := 1) X dL_pass_13 rfl ?_
      exact J_iret X rfl rfl ⟨by rw [z]; rfl, hx, ⟨ρ, _, cap, hRA, rfl, hcap⟩, ho2, by rw [if_neg ec]⟩ dL_pass_14
    · rw [z, xN_3] at eE
      subst eE
      refine J_catch X [⟨0, 9, 12, 23⟩] ⟨0, 9, 15, 35⟩ [] rfl (List.forall_mem_cons.mpr ⟨⟨by decide, _, gw_2_148, by decide⟩, (fun w hw => absurd hw List.not_mem_nil)⟩) (by decide) (by decide) gw_2_192 (cst_in (i := 11) rfl) (fun q => ?_)
      refine J_astore_3 X dL_pass_15 rfl (by decide) ?_
      refine J_iconst (v := 2) X dL_pass_16 rfl ?_
      exact J_iret X rfl rfl ⟨by rw [z]; rfl, hx, ⟨ρ, _, cap, hRA, rfl, hcap⟩, ho2, by rw [if_neg ec]⟩ dL_pass_17
theorem C_village {σ : St} {p1 : Int32} {p2 : Int32} : X_village_c σ p1 p2 = 0 ∨ X_village_c σ p1 p2 = 2 ∨ X_village_c σ p1 p2 = 3 := by
  unfold X_village_c
  try simp only [X_glowFrom_L18_c_k, X_ground_L11_c_k, X_culprit_L14_c_k, X_trails_L21_c_k, insX_c, psX_c, audX_c, plan_c, way_c]
  (repeat' split) <;> decide
theorem cw_L_village : Cond.static yL_village ∈ GW ∧ Cond.initialized yL_village.cls ∈ GW ∧ Cond.codeWith yL_village cL_village 5 (some .int) [(0, 10, 13, 23), (0, 10, 17, 35)] ∈ GW ∧ (yL_village.cls ≠ "java/lang/invoke/MethodHandle" ∧ yL_village.cls ≠ "java/lang/invoke/VarHandle") ∧ (parseMethodDescriptor yL_village.desc).map (fun d => d.parameters.length) = some 4 := ⟨gw_2_237, gw_1_0, gw_2_238, ⟨by decide, by decide⟩, by decide +kernel⟩
theorem c_L_village {l : Launch} {D : va_G} {ca : Nat → Nat} {h : fH} {ρ : Nat → Nat → Nat} {μ : Nat → Nat → Int32} {cap : Nat → Nat} {σ : St} (hR : RX ca h ρ μ cap σ) (hI : InvX σ) (hcap : ∀ k, cap k ≤ 100) (p1 : Int32) (p2 : Int32) {o : Nat} {g : Nat → Int64} (ho : h o = none) : FM l D ca yL_village (.codeWith yL_village cL_village 5 (some .int) [(0, 10, 13, 23), (0, 10, 17, 35)]) { frames := 8, cells := 5, slots := 123, locals := 313 } [.ref (ρ 0 0), .int p1, .int p2, .ref o] (un h (one o (oc ca g))) (fun v h2 => v = some (.int (lawK (X_village_c σ p1 p2) 0 1 2)) ∧ ∃ h2x, RA ca h2x (ρ 0 0) (X_village_s σ p1 p2) ∧ h2x o = none ∧ h2 = un h2x (one o (oc ca (if X_village_c σ p1 p2 = 0 then vp_updL g 0 (X_village σ p1 p2).toInt64 else g)))) noX := by
  refine FM.ofH [some (.ref (ρ 0 0)), some (.int p1), some (.int p2), some (.ref o), none] (by decide) (Nat.le_of_ble_eq_true rfl) rfl ?_
  rintro K X rfl rfl rfl
  refine J_aload_3 X dL_village_0 ?_
  refine J_iconst (v := 0) X dL_village_1 rfl ?_
  refine J_aload_0 X dL_village_2 ?_
  refine J_iload_1 X dL_village_3 ?_
  refine J_iload_2 X dL_village_4 ?_
  refine J_callV X ((c_X_village hR hI p1 p2 hcap).frame (apart_one (e := oc (kca K) g) ho)) (And.intro gw_2_239 cw_X10_village) (un_l hR.root) rfl rfl rfl (Nat.le_of_ble_eq_true rfl) dL_village_5 rfl (fun v h2 e => ?_) (fun E h2 e => ?_)
  · obtain ⟨hx, ⟨e1, e2, hRA⟩, hap, eh⟩ := e
    subst e1
    subst eh
    have ho2 : hx o = none := hap.sym o (by rw [one_same]; exact fun z => by cases z)
    show J K _ [some (.ref (ρ 0 0)), some (.int p1), some (.int p2), some (.ref o), none] [.int (X_village σ p1 p2), .int 0, .ref o] 8 _ _
    refine J_i2l X dL_village_8 ?_
    refine J_last X (N := 1) (un_one ho2) vp01 dL_village_9 ?_
    rw [fU_un_one ho2]
    refine J_goto (tgt := 21) X dL_village_10 (by decide) ?_
    refine J_iconst (v := 0) X dL_village_21 rfl ?_
    exact J_iret X rfl rfl ⟨by rw [e2]; rfl, hx, hRA, ho2, by rw [if_pos e2]; rfl⟩ dL_village_22
  · obtain ⟨hx, ⟨eE, ec, hRA⟩, hap, eh⟩ := e
    subst eh
    have ho2 : hx o = none := hap.sym o (by rw [one_same]; exact fun z => by cases z)
    rcases C_village (σ := σ) (p1 := p1) (p2 := p2) with z | z | z
    · exact absurd z ec
    · rw [z, xN_2] at eE
      subst eE
      refine J_catch X [] ⟨0, 10, 13, 23⟩ [⟨0, 10, 17, 35⟩] rfl (fun w hw => (by cases hw)) (by decide) (by decide) gw_2_148 (cst_in (i := 10) rfl) (fun q => ?_)
      refine J_astore_4 X dL_village_13 rfl (by decide) ?_
      refine J_iconst (v := 1) X dL_village_15 rfl ?_
      exact J_iret X rfl rfl ⟨by rw [z]; rfl, hx, hRA, ho2, by rw [if_neg ec]⟩ dL_village_16
    · rw [z, xN_3] at eE
      subst eE
      refine J_catch X [⟨0, 10, 13, 23⟩] ⟨0, 10, 17, 35⟩ [] rfl (List.forall_mem_cons.mpr ⟨⟨by decide, _, gw_2_148, by decide⟩, (fun w hw => absurd hw List.not_mem_nil)⟩) (by decide) (by decide) gw_2_192 (cst_in (i := 11) rfl) (fun q => ?_)
      refine J_astore_4 X dL_village_17 rfl (by decide) ?_
      refine J_iconst (v := 2) X dL_village_19 rfl ?_
      exact J_iret X rfl rfl ⟨by rw [z]; rfl, hx, hRA, ho2, by rw [if_neg ec]⟩ dL_village_20
theorem C_lamp {σ : St} {p1 : Int32} {p2 : Int32} {p3 : Int32} {p4 : Int32} {p5 : Int32} : X_lamp_c σ p1 p2 p3 p4 p5 = 0 ∨ X_lamp_c σ p1 p2 p3 p4 p5 = 1 ∨ X_lamp_c σ p1 p2 p3 p4 p5 = 2 ∨ X_lamp_c σ p1 p2 p3 p4 p5 = 3 := by
  unfold X_lamp_c
  try simp only [X_glowFrom_L18_c_k, X_ground_L11_c_k, X_culprit_L14_c_k, X_trails_L21_c_k, insX_c, psX_c, audX_c, plan_c, way_c]
  (repeat' split) <;> decide
theorem cw_L_lamp : Cond.static yL_lamp ∈ GW ∧ Cond.initialized yL_lamp.cls ∈ GW ∧ Cond.codeWith yL_lamp cL_lamp 8 (some .int) [(0, 16, 19, 13), (0, 16, 23, 23), (0, 16, 27, 35)] ∈ GW ∧ (yL_lamp.cls ≠ "java/lang/invoke/MethodHandle" ∧ yL_lamp.cls ≠ "java/lang/invoke/VarHandle") ∧ (parseMethodDescriptor yL_lamp.desc).map (fun d => d.parameters.length) = some 7 := ⟨gw_3_29, gw_1_0, gw_3_30, ⟨by decide, by decide⟩, by decide +kernel⟩
theorem c_L_lamp {l : Launch} {D : va_G} {ca : Nat → Nat} {h : fH} {ρ : Nat → Nat → Nat} {μ : Nat → Nat → Int32} {cap : Nat → Nat} {σ : St} (hR : RX ca h ρ μ cap σ) (hI : InvX σ) (hcap : ∀ k, cap k ≤ 100) (p1 : Int32) (p2 : Int32) (p3 : Int32) (p4 : Int32) (p5 : Int32) {o : Nat} {g : Nat → Int64} (ho : h o = none) : FM l D ca yL_lamp (.codeWith yL_lamp cL_lamp 8 (some .int) [(0, 16, 19, 13), (0, 16, 23, 23), (0, 16, 27, 35)]) { frames := 9, cells := 8, slots := 148, locals := 318 } [.ref (ρ 0 0), .int p1, .int p2, .int p3, .int p4, .int p5, .ref o] (un h (one o (oc ca g))) (fun v h2 => v = some (.int (lawK (X_lamp_c σ p1 p2 p3 p4 p5) 1 2 3)) ∧ ∃ h2x, RA ca h2x (ρ 0 0) (X_lamp_s σ p1 p2 p3 p4 p5) ∧ h2x o = none ∧ h2 = un h2x (one o (oc ca (if X_lamp_c σ p1 p2 p3 p4 p5 = 0 then vp_updL g 0 (X_lamp σ p1 p2 p3 p4 p5).toInt64 else g)))) noX := by
  refine FM.ofH [some (.ref (ρ 0 0)), some (.int p1), some (.int p2), some (.int p3), some (.int p4), some (.int p5), some (.ref o), none] (by decide) (Nat.le_of_ble_eq_true rfl) rfl ?_
  rintro K X rfl rfl rfl
  refine J_aload_6 X dL_lamp_0 ?_
  refine J_iconst (v := 0) X dL_lamp_2 rfl ?_
  refine J_aload_0 X dL_lamp_3 ?_
  refine J_iload_1 X dL_lamp_4 ?_
  refine J_iload_2 X dL_lamp_5 ?_
  refine J_iload_3 X dL_lamp_6 ?_
  refine J_iload_4 X dL_lamp_7 ?_
  refine J_iload_5 X dL_lamp_9 ?_
  refine J_callV X ((c_X_lamp hR hI p1 p2 p3 p4 p5 hcap).frame (apart_one (e := oc (kca K) g) ho)) (And.intro gw_3_31 cw_X10_lamp) (un_l hR.root) rfl rfl rfl (Nat.le_of_ble_eq_true rfl) dL_lamp_11 rfl (fun v h2 e => ?_) (fun E h2 e => ?_)
  · obtain ⟨hx, ⟨e1, e2, hRA⟩, hap, eh⟩ := e
    subst e1
    subst eh
    have ho2 : hx o = none := hap.sym o (by rw [one_same]; exact fun z => by cases z)
    show J K _ [some (.ref (ρ 0 0)), some (.int p1), some (.int p2), some (.int p3), some (.int p4), some (.int p5), some (.ref o), none] [.int (X_lamp σ p1 p2 p3 p4 p5), .int 0, .ref o] 14 _ _
    refine J_i2l X dL_lamp_14 ?_
    refine J_last X (N := 1) (un_one ho2) vp01 dL_lamp_15 ?_
    rw [fU_un_one ho2]
    refine J_goto (tgt := 31) X dL_lamp_16 (by decide) ?_
    refine J_iconst (v := 0) X dL_lamp_31 rfl ?_
    exact J_iret X rfl rfl ⟨by rw [e2]; rfl, hx, hRA, ho2, by rw [if_pos e2]; rfl⟩ dL_lamp_32
  · obtain ⟨hx, ⟨eE, ec, hRA⟩, hap, eh⟩ := e
    subst eh
    have ho2 : hx o = none := hap.sym o (by rw [one_same]; exact fun z => by cases z)
    rcases C_lamp (σ := σ) (p1 := p1) (p2 := p2) (p3 := p3) (p4 := p4) (p5 := p5) with z | z | z | z
    · exact absurd z ec
    · rw [z, xN_1] at eE
      subst eE
      refine J_catch X [] ⟨0, 16, 19, 13⟩ [⟨0, 16, 23, 23⟩, ⟨0, 16, 27, 35⟩] rfl (fun w hw => (by cases hw)) (by decide) (by decide) gw_2_41 (cst_in (i := 3) rfl) (fun q => ?_)
      refine J_astore_7 X dL_lamp_19 rfl (by decide) ?_
      refine J_iconst (v := 1) X dL_lamp_21 rfl ?_
      exact J_iret X rfl rfl ⟨by rw [z]; rfl, hx, hRA, ho2, by rw [if_neg ec]⟩ dL_lamp_22
    · rw [z, xN_2] at eE
      subst eE
      refine J_catch X [⟨0, 16, 19, 13⟩] ⟨0, 16, 23, 23⟩ [⟨0, 16, 27, 35⟩] rfl (List.forall_mem_cons.mpr ⟨⟨by decide, _, gw_2_41, by decide⟩, (fun w hw => absurd hw List.not_mem_nil)⟩) (by decide) (by decide) gw_2_148 (cst_in (i := 10) rfl) (fun q => ?_)
      refine J_astore_7 X dL_lamp_23 rfl (by decide) ?_
      refine J_iconst (v := 2) X dL_lamp_25 rfl ?_
      exact J_iret X rfl rfl ⟨by rw [z]; rfl, hx, hRA, ho2, by rw [if_neg ec]⟩ dL_lamp_26
    · rw [z, xN_3] at eE
      subst eE
      refine J_catch X [⟨0, 16, 19, 13⟩, ⟨0, 16, 23, 23⟩] ⟨0, 16, 27, 35⟩ [] rfl (List.forall_mem_cons.mpr ⟨⟨by decide, _, gw_2_41, by decide⟩, (List.forall_mem_cons.mpr ⟨⟨by decide, _, gw_2_148, by decide⟩, (fun w hw => absurd hw List.not_mem_nil)⟩)⟩) (by decide) (by decide) gw_2_192 (cst_in (i := 11) rfl) (fun q => ?_)
      refine J_astore_7 X dL_lamp_27 rfl (by decide) ?_
      refine J_iconst (v := 3) X dL_lamp_29 rfl ?_
      exact J_iret X rfl rfl ⟨by rw [z]; rfl, hx, hRA, ho2, by rw [if_neg ec]⟩ dL_lamp_30
theorem C_hours {σ : St} {p1 : Int32} {p2 : Int32} {p3 : Int32} : X_hours_c σ p1 p2 p3 = 0 ∨ X_hours_c σ p1 p2 p3 = 1 ∨ X_hours_c σ p1 p2 p3 = 2 ∨ X_hours_c σ p1 p2 p3 = 3 := by
  unfold X_hours_c
  try simp only [X_glowFrom_L18_c_k, X_ground_L11_c_k, X_culprit_L14_c_k, X_trails_L21_c_k, insX_c, psX_c, audX_c, plan_c, way_c]
  (repeat' split) <;> decide
theorem cw_L_hours : Cond.static yL_hours ∈ GW ∧ Cond.initialized yL_hours.cls ∈ GW ∧ Cond.codeWith yL_hours cL_hours 5 (some .int) [(0, 7, 10, 13), (0, 7, 14, 23), (0, 7, 18, 35)] ∈ GW ∧ (yL_hours.cls ≠ "java/lang/invoke/MethodHandle" ∧ yL_hours.cls ≠ "java/lang/invoke/VarHandle") ∧ (parseMethodDescriptor yL_hours.desc).map (fun d => d.parameters.length) = some 4 := ⟨gw_3_90, gw_1_0, gw_3_91, ⟨by decide, by decide⟩, by decide +kernel⟩
theorem c_L_hours {l : Launch} {D : va_G} {ca : Nat → Nat} {h : fH} {ρ : Nat → Nat → Nat} {μ : Nat → Nat → Int32} {cap : Nat → Nat} {σ : St} (hR : RX ca h ρ μ cap σ) (hI : InvX σ) (hcap : ∀ k, cap k ≤ 100) (p1 : Int32) (p2 : Int32) (p3 : Int32) : FM l D ca yL_hours (.codeWith yL_hours cL_hours 5 (some .int) [(0, 7, 10, 13), (0, 7, 14, 23), (0, 7, 18, 35)]) { frames := 9, cells := 4, slots := 24, locals := 170 } [.ref (ρ 0 0), .int p1, .int p2, .int p3] h (fun v h2 => v = some (.int (lawK (X_hours_c σ p1 p2 p3) 1 2 3)) ∧ RA ca h2 (ρ 0 0) (X_hours_s σ p1 p2 p3)) noX := by
  refine FM.ofH [some (.ref (ρ 0 0)), some (.int p1), some (.int p2), some (.int p3), none] (by decide) (Nat.le_of_ble_eq_true rfl) rfl ?_
  rintro K X rfl rfl rfl
  refine J_aload_0 X dL_hours_0 ?_
  refine J_iload_1 X dL_hours_1 ?_
  refine J_iload_2 X dL_hours_2 ?_
  refine J_iload_3 X dL_hours_3 ?_
  refine J_callV X (c_X_hours hR hI p1 p2 p3) (And.intro gw_3_92 cw_X10_hours) hR.root rfl rfl rfl (Nat.le_of_ble_eq_true rfl) dL_hours_4 rfl (fun v h2 e => ?_) (fun E h2 e => ?_)
  · obtain ⟨e1, e2, hRA⟩ := e
    subst e1
    show J K h2 [some (.ref (ρ 0 0)), some (.int p1), some (.int p2), some (.int p3), none] [] 7 _ _
    refine J_goto (tgt := 22) X dL_hours_7 (by decide) ?_
    refine J_iconst (v := 0) X dL_hours_22 rfl ?_
    exact J_iret X rfl rfl ⟨by rw [e2]; rfl, ⟨ρ, _, cap, hRA, rfl, hcap⟩⟩ dL_hours_23
  · obtain ⟨eE, ec, hRA⟩ := e
    rcases C_hours (σ := σ) (p1 := p1) (p2 := p2) (p3 := p3) with z | z | z | z
    · exact absurd z ec
    · rw [z, xN_1] at eE
      subst eE
      refine J_catch X [] ⟨0, 7, 10, 13⟩ [⟨0, 7, 14, 23⟩, ⟨0, 7, 18, 35⟩] rfl (fun w hw => (by cases hw)) (by decide) (by decide) gw_2_41 (cst_in (i := 3) rfl) (fun q => ?_)
      refine J_astore_4 X dL_hours_10 rfl (by decide) ?_
      refine J_iconst (v := 1) X dL_hours_12 rfl ?_
      exact J_iret X rfl rfl ⟨by rw [z]; rfl, ⟨ρ, _, cap, hRA, rfl, hcap⟩⟩ dL_hours_13
    · rw [z, xN_2] at eE
      subst eE
      refine J_catch X [⟨0, 7, 10, 13⟩] ⟨0, 7, 14, 23⟩ [⟨0, 7, 18, 35⟩] rfl (List.forall_mem_cons.mpr ⟨⟨by decide, _, gw_2_41, by decide⟩, (fun w hw => absurd hw List.not_mem_nil)⟩) (by decide) (by decide) gw_2_148 (cst_in (i := 10) rfl) (fun q => ?_)
      refine J_astore_4 X dL_hours_14 rfl (by decide) ?_
      refine J_iconst (v := 2) X dL_hours_16 rfl ?_
      exact J_iret X rfl rfl ⟨by rw [z]; rfl, ⟨ρ, _, cap, hRA, rfl, hcap⟩⟩ dL_hours_17
    · rw [z, xN_3] at eE
      subst eE
      refine J_catch X [⟨0, 7, 10, 13⟩, ⟨0, 7, 14, 23⟩] ⟨0, 7, 18, 35⟩ [] rfl (List.forall_mem_cons.mpr ⟨⟨by decide, _, gw_2_41, by decide⟩, (List.forall_mem_cons.mpr ⟨⟨by decide, _, gw_2_148, by decide⟩, (fun w hw => absurd hw List.not_mem_nil)⟩)⟩) (by decide) (by decide) gw_2_192 (cst_in (i := 11) rfl) (fun q => ?_)
      refine J_astore_4 X dL_hours_18 rfl (by decide) ?_
      refine J_iconst (v := 3) X dL_hours_20 rfl ?_
      exact J_iret X rfl rfl ⟨by rw [z]; rfl, ⟨ρ, _, cap, hRA, rfl, hcap⟩⟩ dL_hours_21
theorem C_exempt {σ : St} {p1 : Int32} {p2 : Int32} : X_exempt_c σ p1 p2 = 0 ∨ X_exempt_c σ p1 p2 = 1 := by
  unfold X_exempt_c
  try simp only [X_glowFrom_L18_c_k, X_ground_L11_c_k, X_culprit_L14_c_k, X_trails_L21_c_k, insX_c, psX_c, audX_c, plan_c, way_c]
  (repeat' split) <;> decide
theorem cw_L_exempt : Cond.static yL_exempt ∈ GW ∧ Cond.initialized yL_exempt.cls ∈ GW ∧ Cond.codeWith yL_exempt cL_exempt 5 (some .int) [(0, 17, 20, 13)] ∈ GW ∧ (yL_exempt.cls ≠ "java/lang/invoke/MethodHandle" ∧ yL_exempt.cls ≠ "java/lang/invoke/VarHandle") ∧ (parseMethodDescriptor yL_exempt.desc).map (fun d => d.parameters.length) = some 4 := ⟨gw_3_106, gw_1_0, gw_3_107, ⟨by decide, by decide⟩, by decide +kernel⟩
theorem c_L_exempt {l : Launch} {D : va_G} {ca : Nat → Nat} {h : fH} {ρ : Nat → Nat → Nat} {μ : Nat → Nat → Int32} {cap : Nat → Nat} {σ : St} (hR : RX ca h ρ μ cap σ) (hI : InvX σ) (hcap : ∀ k, cap k ≤ 100) (p1 : Int32) (p2 : Int32) (hp2 : p2 = 0 ∨ p2 = 1) {o : Nat} {g : Nat → Int64} (ho : h o = none) : FM l D ca yL_exempt (.codeWith yL_exempt cL_exempt 5 (some .int) [(0, 17, 20, 13)]) { frames := 9, cells := 1, slots := 6, locals := 170 } [.ref (ρ 0 0), .int p1, .int p2, .ref o] (un h (one o (oc ca g))) (fun v h2 => v = some (.int (lawK (X_exempt_c σ p1 p2) 1 0 0)) ∧ ∃ h2x, RA ca h2x (ρ 0 0) (X_exempt_s σ p1 p2) ∧ h2x o = none ∧ h2 = un h2x (one o (oc ca (if X_exempt_c σ p1 p2 = 0 then vp_updL g 0 (if X_exempt σ p1 p2 = 0 then (0 : Int64) else 1) else g)))) noX := by
  refine FM.ofH [some (.ref (ρ 0 0)), some (.int p1), some (.int p2), some (.ref o), none] (by decide) (Nat.le_of_ble_eq_true rfl) rfl ?_
  rintro K X rfl rfl rfl
  refine J_aload_3 X dL_exempt_0 ?_
  refine J_iconst (v := 0) X dL_exempt_1 rfl ?_
  refine J_aload_0 X dL_exempt_2 ?_
  refine J_iload_1 X dL_exempt_3 ?_
  refine J_iload_2 X dL_exempt_4 ?_
  refine J_callV X ((c_X_exempt hR hI p1 p2 hp2).frame (apart_one (e := oc (kca K) g) ho)) (And.intro gw_3_108 cw_X10_exempt) (un_l hR.root) rfl rfl rfl (Nat.le_of_ble_eq_true rfl) dL_exempt_5 rfl (fun v h2 e => ?_) (fun E h2 e => ?_)
  · obtain ⟨hx, ⟨e1, e2, hRA⟩, hap, eh⟩ := e
    subst e1
    subst eh
    have ho2 : hx o = none := hap.sym o (by rw [one_same]; exact fun z => by cases z)
    show J K _ [some (.ref (ρ 0 0)), some (.int p1), some (.int p2), some (.ref o), none] [.int (X_exempt σ p1 p2), .int 0, .ref o] 8 _ _
    have K16 : J K (un hx (one o (oc (kca K) g))) [some (.ref (ρ 0 0)), some (.int p1), some (.int p2), some (.ref o), none] [.long (if X_exempt σ p1 p2 = 0 then (0 : Int64) else 1), .int 0, .ref o] 16 1 6 := by
      refine J_last X (N := 1) (un_one ho2) vp01 dL_exempt_16 ?_
      rw [fU_un_one ho2]
      refine J_goto (tgt := 24) X dL_exempt_17 (by decide) ?_
      refine J_iconst (v := 0) X dL_exempt_24 rfl ?_
      exact J_iret X rfl rfl ⟨by rw [e2]; rfl, hx, ⟨ρ, _, cap, hRA, rfl, hcap⟩, ho2, by rw [if_pos e2]; rfl⟩ dL_exempt_25
    refine J_if_eq (tgt := 15) X dL_exempt_8 (by decide) (fun z => ?_) (fun z => ?_)
    · refine J_lconst (v := 0) X dL_exempt_15 rfl ?_
      rw [if_pos z] at K16
      exact K16
    · refine J_lconst (v := 1) X dL_exempt_11 rfl ?_
      refine J_goto (tgt := 16) X dL_exempt_12 (by decide) ?_
      rw [if_neg z] at K16
      exact K16
  · obtain ⟨hx, ⟨eE, ec, hRA⟩, hap, eh⟩ := e
    subst eh
    have ho2 : hx o = none := hap.sym o (by rw [one_same]; exact fun z => by cases z)
    rcases C_exempt (σ := σ) (p1 := p1) (p2 := p2) with z | z
    · exact absurd z ec
    · rw [z, xN_1] at eE
      subst eE
      refine J_catch X [] ⟨0, 17, 20, 13⟩ [] rfl (fun w hw => (by cases hw)) (by decide) (by decide) gw_2_41 (cst_in (i := 3) rfl) (fun q => ?_)
      refine J_astore_4 X dL_exempt_20 rfl (by decide) ?_
      refine J_iconst (v := 1) X dL_exempt_22 rfl ?_
      exact J_iret X rfl rfl ⟨by rw [z]; rfl, hx, ⟨ρ, _, cap, hRA, rfl, hcap⟩, ho2, by rw [if_neg ec]⟩ dL_exempt_23
theorem C_outage {σ : St} {p1 : Int32} {p2 : Int32} : X_outage_c σ p1 p2 = 0 ∨ X_outage_c σ p1 p2 = 1 ∨ X_outage_c σ p1 p2 = 2 := by
  unfold X_outage_c
  try simp only [X_glowFrom_L18_c_k, X_ground_L11_c_k, X_culprit_L14_c_k, X_trails_L21_c_k, insX_c, psX_c, audX_c, plan_c, way_c]
  (repeat' split) <;> decide
theorem cw_L_outage : Cond.static yL_outage ∈ GW ∧ Cond.initialized yL_outage.cls ∈ GW ∧ Cond.codeWith yL_outage cL_outage 5 (some .int) [(0, 10, 13, 13), (0, 10, 17, 23)] ∈ GW ∧ (yL_outage.cls ≠ "java/lang/invoke/MethodHandle" ∧ yL_outage.cls ≠ "java/lang/invoke/VarHandle") ∧ (parseMethodDescriptor yL_outage.desc).map (fun d => d.parameters.length) = some 4 := ⟨gw_3_113, gw_1_0, gw_3_114, ⟨by decide, by decide⟩, by decide +kernel⟩
theorem c_L_outage {l : Launch} {D : va_G} {ca : Nat → Nat} {h : fH} {ρ : Nat → Nat → Nat} {μ : Nat → Nat → Int32} {cap : Nat → Nat} {σ : St} (hR : RX ca h ρ μ cap σ) (hI : InvX σ) (hcap : ∀ k, cap k ≤ 100) (p1 : Int32) (p2 : Int32) {o : Nat} {g : Nat → Int64} (ho : h o = none) : FM l D ca yL_outage (.codeWith yL_outage cL_outage 5 (some .int) [(0, 10, 13, 13), (0, 10, 17, 23)]) { frames := 9, cells := 2, slots := 12, locals := 170 } [.ref (ρ 0 0), .int p1, .int p2, .ref o] (un h (one o (oc ca g))) (fun v h2 => v = some (.int (lawK (X_outage_c σ p1 p2) 1 2 0)) ∧ ∃ h2x, RA ca h2x (ρ 0 0) (X_outage_s σ p1 p2) ∧ h2x o = none ∧ h2 = un h2x (one o (oc ca (if X_outage_c σ p1 p2 = 0 then vp_updL g 0 (X_outage σ p1 p2).toInt64 else g)))) noX := by
  refine FM.ofH [some (.ref (ρ 0 0)), some (.int p1), some (.int p2), some (.ref o), none] (by decide) (Nat.le_of_ble_eq_true rfl) rfl ?_
  rintro K X rfl rfl rfl
  refine J_aload_3 X dL_outage_0 ?_
  refine J_iconst (v := 0) X dL_outage_1 rfl ?_
  refine J_aload_0 X dL_outage_2 ?_
  refine J_iload_1 X dL_outage_3 ?_
  refine J_iload_2 X dL_outage_4 ?_
  refine J_callV X ((c_X_outage hR hI p1 p2).frame (apart_one (e := oc (kca K) g) ho)) (And.intro gw_3_115 cw_X10_outage) (un_l hR.root) rfl rfl rfl (Nat.le_of_ble_eq_true rfl) dL_outage_5 rfl (fun v h2 e => ?_) (fun E h2 e => ?_)
  · obtain ⟨hx, ⟨e1, e2, hRA⟩, hap, eh⟩ := e
    subst e1
    subst eh
    have ho2 : hx o = none := hap.sym o (by rw [one_same]; exact fun z => by cases z)
    show J K _ [some (.ref (ρ 0 0)), some (.int p1), some (.int p2), some (.ref o), none] [.int (X_outage σ p1 p2), .int 0, .ref o] 8 _ _
    refine J_i2l X dL_outage_8 ?_
    refine J_last X (N := 1) (un_one ho2) vp01 dL_outage_9 ?_
    rw [fU_un_one ho2]
    refine J_goto (tgt := 21) X dL_outage_10 (by decide) ?_
    refine J_iconst (v := 0) X dL_outage_21 rfl ?_
    exact J_iret X rfl rfl ⟨by rw [e2]; rfl, hx, ⟨ρ, _, cap, hRA, rfl, hcap⟩, ho2, by rw [if_pos e2]; rfl⟩ dL_outage_22
  · obtain ⟨hx, ⟨eE, ec, hRA⟩, hap, eh⟩ := e
    subst eh
    have ho2 : hx o = none := hap.sym o (by rw [one_same]; exact fun z => by cases z)
    rcases C_outage (σ := σ) (p1 := p1) (p2 := p2) with z | z | z
    · exact absurd z ec
    · rw [z, xN_1] at eE
      subst eE
      refine J_catch X [] ⟨0, 10, 13, 13⟩ [⟨0, 10, 17, 23⟩] rfl (fun w hw => (by cases hw)) (by decide) (by decide) gw_2_41 (cst_in (i := 3) rfl) (fun q => ?_)
      refine J_astore_4 X dL_outage_13 rfl (by decide) ?_
      refine J_iconst (v := 1) X dL_outage_15 rfl ?_
      exact J_iret X rfl rfl ⟨by rw [z]; rfl, hx, ⟨ρ, _, cap, hRA, rfl, hcap⟩, ho2, by rw [if_neg ec]⟩ dL_outage_16
    · rw [z, xN_2] at eE
      subst eE
      refine J_catch X [⟨0, 10, 13, 13⟩] ⟨0, 10, 17, 23⟩ [] rfl (List.forall_mem_cons.mpr ⟨⟨by decide, _, gw_2_41, by decide⟩, (fun w hw => absurd hw List.not_mem_nil)⟩) (by decide) (by decide) gw_2_148 (cst_in (i := 10) rfl) (fun q => ?_)
      refine J_astore_4 X dL_outage_17 rfl (by decide) ?_
      refine J_iconst (v := 2) X dL_outage_19 rfl ?_
      exact J_iret X rfl rfl ⟨by rw [z]; rfl, hx, ⟨ρ, _, cap, hRA, rfl, hcap⟩, ho2, by rw [if_neg ec]⟩ dL_outage_20
theorem C_vote {σ : St} {p1 : Int32} {p2 : Int32} {p3 : Int32} {p4 : Int32} {p5 : Int32} : X_vote_c σ p1 p2 p3 p4 p5 = 0 ∨ X_vote_c σ p1 p2 p3 p4 p5 = 1 ∨ X_vote_c σ p1 p2 p3 p4 p5 = 2 ∨ X_vote_c σ p1 p2 p3 p4 p5 = 3 := by
  unfold X_vote_c
  try simp only [X_glowFrom_L18_c_k, X_ground_L11_c_k, X_culprit_L14_c_k, X_trails_L21_c_k, insX_c, psX_c, audX_c, plan_c, way_c]
  (repeat' split) <;> decide
theorem cw_L_vote : Cond.static yL_vote ∈ GW ∧ Cond.initialized yL_vote.cls ∈ GW ∧ Cond.codeWith yL_vote cL_vote 8 (some .int) [(0, 16, 19, 13), (0, 16, 23, 23), (0, 16, 27, 35)] ∈ GW ∧ (yL_vote.cls ≠ "java/lang/invoke/MethodHandle" ∧ yL_vote.cls ≠ "java/lang/invoke/VarHandle") ∧ (parseMethodDescriptor yL_vote.desc).map (fun d => d.parameters.length) = some 7 := ⟨gw_3_121, gw_1_0, gw_3_122, ⟨by decide, by decide⟩, by decide +kernel⟩
theorem c_L_vote {l : Launch} {D : va_G} {ca : Nat → Nat} {h : fH} {ρ : Nat → Nat → Nat} {μ : Nat → Nat → Int32} {cap : Nat → Nat} {σ : St} (hR : RX ca h ρ μ cap σ) (hI : InvX σ) (hcap : ∀ k, cap k ≤ 100) (p1 : Int32) (p2 : Int32) (p3 : Int32) (p4 : Int32) (p5 : Int32) {o : Nat} {g : Nat → Int64} (ho : h o = none) : FM l D ca yL_vote (.codeWith yL_vote cL_vote 8 (some .int) [(0, 16, 19, 13), (0, 16, 23, 23), (0, 16, 27, 35)]) { frames := 9, cells := 8, slots := 48, locals := 180 } [.ref (ρ 0 0), .int p1, .int p2, .int p3, .int p4, .int p5, .ref o] (un h (one o (oc ca g))) (fun v h2 => v = some (.int (lawK (X_vote_c σ p1 p2 p3 p4 p5) 1 2 3)) ∧ ∃ h2x, RA ca h2x (ρ 0 0) (X_vote_s σ p1 p2 p3 p4 p5) ∧ h2x o = none ∧ h2 = un h2x (one o (oc ca (if X_vote_c σ p1 p2 p3 p4 p5 = 0 then vp_updL g 0 (X_vote σ p1 p2 p3 p4 p5).toInt64 else g)))) noX := by
  refine FM.ofH [some (.ref (ρ 0 0)), some (.int p1), some (.int p2), some (.int p3), some (.int p4), some (.int p5), some (.ref o), none] (by decide) (Nat.le_of_ble_eq_true rfl) rfl ?_
  rintro K X rfl rfl rfl
  refine J_aload_6 X dL_vote_0 ?_
  refine J_iconst (v := 0) X dL_vote_2 rfl ?_
  refine J_aload_0 X dL_vote_3 ?_
  refine J_iload_1 X dL_vote_4 ?_
  refine J_iload_2 X dL_vote_5 ?_
  refine J_iload_3 X dL_vote_6 ?_
  refine J_iload_4 X dL_vote_7 ?_
  refine J_iload_5 X dL_vote_9 ?_
  refine J_callV X ((c_X_vote hR hI p1 p2 p3 p4 p5).frame (apart_one (e := oc (kca K) g) ho)) (And.intro gw_3_123 cw_X10_vote) (un_l hR.root) rfl rfl rfl (Nat.le_of_ble_eq_true rfl) dL_vote_11 rfl (fun v h2 e => ?_) (fun E h2 e => ?_)
  · obtain ⟨hx, ⟨e1, e2, hRA⟩, hap, eh⟩ := e
    subst e1
    subst eh
    have ho2 : hx o = none := hap.sym o (by rw [one_same]; exact fun z => by cases z)
    show J K _ [some (.ref (ρ 0 0)), some (.int p1), some (.int p2), some (.int p3), some (.int p4), some (.int p5), some (.ref o), none] [.int (X_vote σ p1 p2 p3 p4 p5), .int 0, .ref o] 14 _ _
    refine J_i2l X dL_vote_14 ?_
    refine J_last X (N := 1) (un_one ho2) vp01 dL_vote_15 ?_
    rw [fU_un_one ho2]
    refine J_goto (tgt := 31) X dL_vote_16 (by decide) ?_
    refine J_iconst (v := 0) X dL_vote_31 rfl ?_
    exact J_iret X rfl rfl ⟨by rw [e2]; rfl, hx, ⟨ρ, _, cap, hRA, rfl, hcap⟩, ho2, by rw [if_pos e2]; rfl⟩ dL_vote_32
  · obtain ⟨hx, ⟨eE, ec, hRA⟩, hap, eh⟩ := e
    subst eh
    have ho2 : hx o = none := hap.sym o (by rw [one_same]; exact fun z => by cases z)
    rcases C_vote (σ := σ) (p1 := p1) (p2 := p2) (p3 := p3) (p4 := p4) (p5 := p5) with z | z | z | z
    · exact absurd z ec
    · rw [z, xN_1] at eE
      subst eE
      refine J_catch X [] ⟨0, 16, 19, 13⟩ [⟨0, 16, 23, 23⟩, ⟨0, 16, 27, 35⟩] rfl (fun w hw => (by cases hw)) (by decide) (by decide) gw_2_41 (cst_in (i := 3) rfl) (fun q => ?_)
      refine J_astore_7 X dL_vote_19 rfl (by decide) ?_
      refine J_iconst (v := 1) X dL_vote_21 rfl ?_
      exact J_iret X rfl rfl ⟨by rw [z]; rfl, hx, ⟨ρ, _, cap, hRA, rfl, hcap⟩, ho2, by rw [if_neg ec]⟩ dL_vote_22
    · rw [z, xN_2] at eE
      subst eE
      refine J_catch X [⟨0, 16, 19, 13⟩] ⟨0, 16, 23, 23⟩ [⟨0, 16, 27, 35⟩] rfl (List.forall_mem_cons.mpr ⟨⟨by decide, _, gw_2_41, by decide⟩, (fun w hw => absurd hw List.not_mem_nil)⟩) (by decide) (by decide) gw_2_148 (cst_in (i := 10) rfl) (fun q => ?_)
      refine J_astore_7 X dL_vote_23 rfl (by decide) ?_
      refine J_iconst (v := 2) X dL_vote_25 rfl ?_
      exact J_iret X rfl rfl ⟨by rw [z]; rfl, hx, ⟨ρ, _, cap, hRA, rfl, hcap⟩, ho2, by rw [if_neg ec]⟩ dL_vote_26
    · rw [z, xN_3] at eE
      subst eE
      refine J_catch X [⟨0, 16, 19, 13⟩, ⟨0, 16, 23, 23⟩] ⟨0, 16, 27, 35⟩ [] rfl (List.forall_mem_cons.mpr ⟨⟨by decide, _, gw_2_41, by decide⟩, (List.forall_mem_cons.mpr ⟨⟨by decide, _, gw_2_148, by decide⟩, (fun w hw => absurd hw List.not_mem_nil)⟩)⟩) (by decide) (by decide) gw_2_192 (cst_in (i := 11) rfl) (fun q => ?_)
      refine J_astore_7 X dL_vote_27 rfl (by decide) ?_
      refine J_iconst (v := 3) X dL_vote_29 rfl ?_
      exact J_iret X rfl rfl ⟨by rw [z]; rfl, hx, ⟨ρ, _, cap, hRA, rfl, hcap⟩, ho2, by rw [if_neg ec]⟩ dL_vote_30
theorem C_inspect {σ : St} {p1 : Int32} : X_inspect_c σ p1 = 0 ∨ X_inspect_c σ p1 = 1 := by
  unfold X_inspect_c
  try simp only [X_glowFrom_L18_c_k, X_ground_L11_c_k, X_culprit_L14_c_k, X_trails_L21_c_k, insX_c, psX_c, audX_c, plan_c, way_c]
  (repeat' split) <;> decide
theorem cw_L_inspect : Cond.static yL_inspect ∈ GW ∧ Cond.initialized yL_inspect.cls ∈ GW ∧ Cond.codeWith yL_inspect cL_inspect 4 (some .int) [(0, 9, 12, 13)] ∈ GW ∧ (yL_inspect.cls ≠ "java/lang/invoke/MethodHandle" ∧ yL_inspect.cls ≠ "java/lang/invoke/VarHandle") ∧ (parseMethodDescriptor yL_inspect.desc).map (fun d => d.parameters.length) = some 3 := ⟨gw_3_140, gw_1_0, gw_3_141, ⟨by decide, by decide⟩, by decide +kernel⟩
theorem c_L_inspect {l : Launch} {D : va_G} {ca : Nat → Nat} {h : fH} {ρ : Nat → Nat → Nat} {μ : Nat → Nat → Int32} {cap : Nat → Nat} {σ : St} (hR : RX ca h ρ μ cap σ) (hI : InvX σ) (hcap : ∀ k, cap k ≤ 100) (p1 : Int32) {o : Nat} {g : Nat → Int64} (ho : h o = none) : FM l D ca yL_inspect (.codeWith yL_inspect cL_inspect 4 (some .int) [(0, 9, 12, 13)]) { frames := 9, cells := 1, slots := 6, locals := 172 } [.ref (ρ 0 0), .int p1, .ref o] (un h (one o (oc ca g))) (fun v h2 => v = some (.int (lawK (X_inspect_c σ p1) 1 0 0)) ∧ ∃ h2x, RA ca h2x (ρ 0 0) (X_inspect_s σ p1) ∧ h2x o = none ∧ h2 = un h2x (one o (oc ca (if X_inspect_c σ p1 = 0 then vp_updL g 0 (X_inspect σ p1).toInt64 else g)))) noX := by
  refine FM.ofH [some (.ref (ρ 0 0)), some (.int p1), some (.ref o), none] (by decide) (Nat.le_of_ble_eq_true rfl) rfl ?_
  rintro K X rfl rfl rfl
  refine J_aload_2 X dL_inspect_0 ?_
  refine J_iconst (v := 0) X dL_inspect_1 rfl ?_
  refine J_aload_0 X dL_inspect_2 ?_
  refine J_iload_1 X dL_inspect_3 ?_
  refine J_callV X ((c_X_inspect hR hI p1).frame (apart_one (e := oc (kca K) g) ho)) (And.intro gw_3_142 cw_X10_inspect) (un_l hR.root) rfl rfl rfl (Nat.le_of_ble_eq_true rfl) dL_inspect_4 rfl (fun v h2 e => ?_) (fun E h2 e => ?_)
  · obtain ⟨hx, ⟨e1, e2, hRA⟩, hap, eh⟩ := e
    subst e1
    subst eh
    have ho2 : hx o = none := hap.sym o (by rw [one_same]; exact fun z => by cases z)
    show J K _ [some (.ref (ρ 0 0)), some (.int p1), some (.ref o), none] [.int (X_inspect σ p1), .int 0, .ref o] 7 _ _
    refine J_i2l X dL_inspect_7 ?_
    refine J_last X (N := 1) (un_one ho2) vp01 dL_inspect_8 ?_
    rw [fU_un_one ho2]
    refine J_goto (tgt := 15) X dL_inspect_9 (by decide) ?_
    refine J_iconst (v := 0) X dL_inspect_15 rfl ?_
    exact J_iret X rfl rfl ⟨by rw [e2]; rfl, hx, ⟨ρ, _, cap, hRA, rfl, hcap⟩, ho2, by rw [if_pos e2]; rfl⟩ dL_inspect_16
  · obtain ⟨hx, ⟨eE, ec, hRA⟩, hap, eh⟩ := e
    subst eh
    have ho2 : hx o = none := hap.sym o (by rw [one_same]; exact fun z => by cases z)
    rcases C_inspect (σ := σ) (p1 := p1) with z | z
    · exact absurd z ec
    · rw [z, xN_1] at eE
      subst eE
      refine J_catch X [] ⟨0, 9, 12, 13⟩ [] rfl (fun w hw => (by cases hw)) (by decide) (by decide) gw_2_41 (cst_in (i := 3) rfl) (fun q => ?_)
      refine J_astore_3 X dL_inspect_12 rfl (by decide) ?_
      refine J_iconst (v := 1) X dL_inspect_13 rfl ?_
      exact J_iret X rfl rfl ⟨by rw [z]; rfl, hx, ⟨ρ, _, cap, hRA, rfl, hcap⟩, ho2, by rw [if_neg ec]⟩ dL_inspect_14
theorem C_meter {σ : St} {p1 : Int32} {p2 : Int32} {p3 : Int32} : X_meter_c σ p1 p2 p3 = 0 ∨ X_meter_c σ p1 p2 p3 = 1 ∨ X_meter_c σ p1 p2 p3 = 2 ∨ X_meter_c σ p1 p2 p3 = 3 := by
  unfold X_meter_c
  try simp only [X_glowFrom_L18_c_k, X_ground_L11_c_k, X_culprit_L14_c_k, X_trails_L21_c_k, insX_c, psX_c, audX_c, plan_c, way_c]
  (repeat' split) <;> decide
theorem cw_L_meter : Cond.static yL_meter ∈ GW ∧ Cond.initialized yL_meter.cls ∈ GW ∧ Cond.codeWith yL_meter cL_meter 6 (some .int) [(0, 12, 15, 13), (0, 12, 19, 23), (0, 12, 23, 35)] ∈ GW ∧ (yL_meter.cls ≠ "java/lang/invoke/MethodHandle" ∧ yL_meter.cls ≠ "java/lang/invoke/VarHandle") ∧ (parseMethodDescriptor yL_meter.desc).map (fun d => d.parameters.length) = some 5 := ⟨gw_3_155, gw_1_0, gw_3_156, ⟨by decide, by decide⟩, by decide +kernel⟩
theorem c_L_meter {l : Launch} {D : va_G} {ca : Nat → Nat} {h : fH} {ρ : Nat → Nat → Nat} {μ : Nat → Nat → Int32} {cap : Nat → Nat} {σ : St} (hR : RX ca h ρ μ cap σ) (hI : InvX σ) (hcap : ∀ k, cap k ≤ 100) (p1 : Int32) (p2 : Int32) (p3 : Int32) {o : Nat} {g : Nat → Int64} (ho : h o = none) : FM l D ca yL_meter (.codeWith yL_meter cL_meter 6 (some .int) [(0, 12, 15, 13), (0, 12, 19, 23), (0, 12, 23, 35)]) { frames := 9, cells := 7, slots := 132, locals := 315 } [.ref (ρ 0 0), .int p1, .int p2, .int p3, .ref o] (un h (one o (oc ca g))) (fun v h2 => v = some (.int (lawK (X_meter_c σ p1 p2 p3) 1 2 3)) ∧ ∃ h2x, RA ca h2x (ρ 0 0) (X_meter_s σ p1 p2 p3) ∧ h2x o = none ∧ h2 = un h2x (one o (oc ca (if X_meter_c σ p1 p2 p3 = 0 then vp_updL g 0 (X_meter σ p1 p2 p3).toInt64 else g)))) noX := by
  refine FM.ofH [some (.ref (ρ 0 0)), some (.int p1), some (.int p2), some (.int p3), some (.ref o), none] (by decide) (Nat.le_of_ble_eq_true rfl) rfl ?_
  rintro K X rfl rfl rfl
  refine J_aload_4 X dL_meter_0 ?_
  refine J_iconst (v := 0) X dL_meter_2 rfl ?_
  refine J_aload_0 X dL_meter_3 ?_
  refine J_iload_1 X dL_meter_4 ?_
  refine J_iload_2 X dL_meter_5 ?_
  refine J_iload_3 X dL_meter_6 ?_
  refine J_callV X ((c_X_meter hR hI p1 p2 p3 hcap).frame (apart_one (e := oc (kca K) g) ho)) (And.intro gw_3_157 cw_X10_meter) (un_l hR.root) rfl rfl rfl (Nat.le_of_ble_eq_true rfl) dL_meter_7 rfl (fun v h2 e => ?_) (fun E h2 e => ?_)
  · obtain ⟨hx, ⟨e1, e2, hRA⟩, hap, eh⟩ := e
    subst e1
    subst eh
    have ho2 : hx o = none := hap.sym o (by rw [one_same]; exact fun z => by cases z)
    show J K _ [some (.ref (ρ 0 0)), some (.int p1), some (.int p2), some (.int p3), some (.ref o), none] [.int (X_meter σ p1 p2 p3), .int 0, .ref o] 10 _ _
    refine J_i2l X dL_meter_10 ?_
    refine J_last X (N := 1) (un_one ho2) vp01 dL_meter_11 ?_
    rw [fU_un_one ho2]
    refine J_goto (tgt := 27) X dL_meter_12 (by decide) ?_
    refine J_iconst (v := 0) X dL_meter_27 rfl ?_
    exact J_iret X rfl rfl ⟨by rw [e2]; rfl, hx, hRA, ho2, by rw [if_pos e2]; rfl⟩ dL_meter_28
  · obtain ⟨hx, ⟨eE, ec, hRA⟩, hap, eh⟩ := e
    subst eh
    have ho2 : hx o = none := hap.sym o (by rw [one_same]; exact fun z => by cases z)
    rcases C_meter (σ := σ) (p1 := p1) (p2 := p2) (p3 := p3) with z | z | z | z
    · exact absurd z ec
    · rw [z, xN_1] at eE
      subst eE
      refine J_catch X [] ⟨0, 12, 15, 13⟩ [⟨0, 12, 19, 23⟩, ⟨0, 12, 23, 35⟩] rfl (fun w hw => (by cases hw)) (by decide) (by decide) gw_2_41 (cst_in (i := 3) rfl) (fun q => ?_)
      refine J_astore_5 X dL_meter_15 rfl (by decide) ?_
      refine J_iconst (v := 1) X dL_meter_17 rfl ?_
      exact J_iret X rfl rfl ⟨by rw [z]; rfl, hx, hRA, ho2, by rw [if_neg ec]⟩ dL_meter_18
    · rw [z, xN_2] at eE
      subst eE
      refine J_catch X [⟨0, 12, 15, 13⟩] ⟨0, 12, 19, 23⟩ [⟨0, 12, 23, 35⟩] rfl (List.forall_mem_cons.mpr ⟨⟨by decide, _, gw_2_41, by decide⟩, (fun w hw => absurd hw List.not_mem_nil)⟩) (by decide) (by decide) gw_2_148 (cst_in (i := 10) rfl) (fun q => ?_)
      refine J_astore_5 X dL_meter_19 rfl (by decide) ?_
      refine J_iconst (v := 2) X dL_meter_21 rfl ?_
      exact J_iret X rfl rfl ⟨by rw [z]; rfl, hx, hRA, ho2, by rw [if_neg ec]⟩ dL_meter_22
    · rw [z, xN_3] at eE
      subst eE
      refine J_catch X [⟨0, 12, 15, 13⟩, ⟨0, 12, 19, 23⟩] ⟨0, 12, 23, 35⟩ [] rfl (List.forall_mem_cons.mpr ⟨⟨by decide, _, gw_2_41, by decide⟩, (List.forall_mem_cons.mpr ⟨⟨by decide, _, gw_2_148, by decide⟩, (fun w hw => absurd hw List.not_mem_nil)⟩)⟩) (by decide) (by decide) gw_2_192 (cst_in (i := 11) rfl) (fun q => ?_)
      refine J_astore_5 X dL_meter_23 rfl (by decide) ?_
      refine J_iconst (v := 3) X dL_meter_25 rfl ?_
      exact J_iret X rfl rfl ⟨by rw [z]; rfl, hx, hRA, ho2, by rw [if_neg ec]⟩ dL_meter_26
theorem C_read {σ : St} {p1 : Int32} : X_read_c σ p1 = 0 ∨ X_read_c σ p1 = 1 := by
  unfold X_read_c
  try simp only [X_glowFrom_L18_c_k, X_ground_L11_c_k, X_culprit_L14_c_k, X_trails_L21_c_k, insX_c, psX_c, audX_c, plan_c, way_c]
  (repeat' split) <;> decide
theorem cw_L_read : Cond.static yL_read ∈ GW ∧ Cond.initialized yL_read.cls ∈ GW ∧ Cond.codeWith yL_read cL_read 4 (some .int) [(0, 9, 12, 13)] ∈ GW ∧ (yL_read.cls ≠ "java/lang/invoke/MethodHandle" ∧ yL_read.cls ≠ "java/lang/invoke/VarHandle") ∧ (parseMethodDescriptor yL_read.desc).map (fun d => d.parameters.length) = some 3 := ⟨gw_3_191, gw_1_0, gw_3_192, ⟨by decide, by decide⟩, by decide +kernel⟩
theorem c_L_read {l : Launch} {D : va_G} {ca : Nat → Nat} {h : fH} {ρ : Nat → Nat → Nat} {μ : Nat → Nat → Int32} {cap : Nat → Nat} {σ : St} (hR : RX ca h ρ μ cap σ) (hI : InvX σ) (hcap : ∀ k, cap k ≤ 100) (p1 : Int32) {o : Nat} {g : Nat → Int64} (ho : h o = none) : FM l D ca yL_read (.codeWith yL_read cL_read 4 (some .int) [(0, 9, 12, 13)]) { frames := 9, cells := 3, slots := 108, locals := 365 } [.ref (ρ 0 0), .int p1, .ref o] (un h (one o (oc ca g))) (fun v h2 => v = some (.int (lawK (X_read_c σ p1) 1 0 0)) ∧ ∃ h2x, RA ca h2x (ρ 0 0) (X_read_s σ p1) ∧ h2x o = none ∧ h2 = un h2x (one o (oc ca (if X_read_c σ p1 = 0 then vp_updL g 0 (X_read σ p1).toInt64 else g)))) noX := by
  refine FM.ofH [some (.ref (ρ 0 0)), some (.int p1), some (.ref o), none] (by decide) (Nat.le_of_ble_eq_true rfl) rfl ?_
  rintro K X rfl rfl rfl
  refine J_aload_2 X dL_read_0 ?_
  refine J_iconst (v := 0) X dL_read_1 rfl ?_
  refine J_aload_0 X dL_read_2 ?_
  refine J_iload_1 X dL_read_3 ?_
  refine J_callV X ((c_X_read hR hI p1 hcap).frame (apart_one (e := oc (kca K) g) ho)) (And.intro gw_3_193 cw_X10_read) (un_l hR.root) rfl rfl rfl (Nat.le_of_ble_eq_true rfl) dL_read_4 rfl (fun v h2 e => ?_) (fun E h2 e => ?_)
  · obtain ⟨hx, ⟨e1, e2, hRA⟩, hap, eh⟩ := e
    subst e1
    subst eh
    have ho2 : hx o = none := hap.sym o (by rw [one_same]; exact fun z => by cases z)
    show J K _ [some (.ref (ρ 0 0)), some (.int p1), some (.ref o), none] [.int (X_read σ p1), .int 0, .ref o] 7 _ _
    refine J_i2l X dL_read_7 ?_
    refine J_last X (N := 1) (un_one ho2) vp01 dL_read_8 ?_
    rw [fU_un_one ho2]
    refine J_goto (tgt := 15) X dL_read_9 (by decide) ?_
    refine J_iconst (v := 0) X dL_read_15 rfl ?_
    exact J_iret X rfl rfl ⟨by rw [e2]; rfl, hx, hRA, ho2, by rw [if_pos e2]; rfl⟩ dL_read_16
  · obtain ⟨hx, ⟨eE, ec, hRA⟩, hap, eh⟩ := e
    subst eh
    have ho2 : hx o = none := hap.sym o (by rw [one_same]; exact fun z => by cases z)
    rcases C_read (σ := σ) (p1 := p1) with z | z
    · exact absurd z ec
    · rw [z, xN_1] at eE
      subst eE
      refine J_catch X [] ⟨0, 9, 12, 13⟩ [] rfl (fun w hw => (by cases hw)) (by decide) (by decide) gw_2_41 (cst_in (i := 3) rfl) (fun q => ?_)
      refine J_astore_3 X dL_read_12 rfl (by decide) ?_
      refine J_iconst (v := 1) X dL_read_13 rfl ?_
      exact J_iret X rfl rfl ⟨by rw [z]; rfl, hx, hRA, ho2, by rw [if_neg ec]⟩ dL_read_14
end
