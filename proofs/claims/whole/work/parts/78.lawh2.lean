noncomputable section
theorem C_tell {σ : St} {p1 : Int32} {p2 : Int32} : X_tell_c σ p1 p2 = 0 ∨ X_tell_c σ p1 p2 = 1 ∨ X_tell_c σ p1 p2 = 2 := by
  unfold X_tell_c
  try simp only [X_glowFrom_L18_c_k, X_ground_L11_c_k, X_culprit_L14_c_k, X_trails_L21_c_k, insX_c, psX_c, audX_c, plan_c, way_c]
  (repeat' split) <;> decide
theorem cw_L_tell : Cond.static yL_tell ∈ GW ∧ Cond.initialized yL_tell.cls ∈ GW ∧ Cond.codeWith yL_tell cL_tell 5 (some .int) [(0, 10, 13, 13), (0, 10, 17, 23)] ∈ GW ∧ (yL_tell.cls ≠ "java/lang/invoke/MethodHandle" ∧ yL_tell.cls ≠ "java/lang/invoke/VarHandle") ∧ (parseMethodDescriptor yL_tell.desc).map (fun d => d.parameters.length) = some 4 := ⟨gw_4_42, gw_1_0, gw_4_43, ⟨by decide, by decide⟩, by decide +kernel⟩
theorem c_L_tell {l : Launch} {D : va_G} {ca : Nat → Nat} {h : fH} {ρ : Nat → Nat → Nat} {μ : Nat → Nat → Int32} {cap : Nat → Nat} {σ : St} (hR : RX ca h ρ μ cap σ) (hI : InvX σ) (hcap : ∀ k, cap k ≤ 100) (p1 : Int32) (p2 : Int32) {o : Nat} {g : Nat → Int64} (ho : h o = none) : FM l D ca yL_tell (.codeWith yL_tell cL_tell 5 (some .int) [(0, 10, 13, 13), (0, 10, 17, 23)]) { frames := 9, cells := 2, slots := 12, locals := 170 } [.ref (ρ 0 0), .int p1, .int p2, .ref o] (un h (one o (oc ca g))) (fun v h2 => v = some (.int (lawK (X_tell_c σ p1 p2) 1 2 0)) ∧ ∃ h2x, RA ca h2x (ρ 0 0) (X_tell_s σ p1 p2) ∧ h2x o = none ∧ h2 = un h2x (one o (oc ca (if X_tell_c σ p1 p2 = 0 then vp_updL g 0 (X_tell σ p1 p2).toInt64 else g)))) noX := by
  refine FM.ofH [some (.ref (ρ 0 0)), some (.int p1), some (.int p2), some (.ref o), none] (by decide) (Nat.le_of_ble_eq_true rfl) rfl ?_
  rintro K X rfl rfl rfl
  refine J_aload_3 X dL_tell_0 ?_
  refine J_iconst (v := 0) X dL_tell_1 rfl ?_
  refine J_aload_0 X dL_tell_2 ?_
  refine J_iload_1 X dL_tell_3 ?_
  refine J_iload_2 X dL_tell_4 ?_
  refine J_callV X ((c_X_tell hR hI p1 p2).frame (apart_one (e := oc (kca K) g) ho)) (And.intro gw_4_44 cw_X10_tell) (un_l hR.root) rfl rfl rfl (Nat.le_of_ble_eq_true rfl) dL_tell_5 rfl (fun v h2 e => ?_) (fun E h2 e => ?_)
  · obtain ⟨hx, ⟨e1, e2, hRA⟩, hap, eh⟩ := e
    subst e1
    subst eh
    have ho2 : hx o = none := hap.sym o (by rw [one_same]; exact fun z => by cases z)
    show J K _ [some (.ref (ρ 0 0)), some (.int p1), some (.int p2), some (.ref o), none] [.int (X_tell σ p1 p2), .int 0, .ref o] 8 _ _
    refine J_i2l X dL_tell_8 ?_
    refine J_last X (N := 1) (un_one ho2) vp01 dL_tell_9 ?_
    rw [fU_un_one ho2]
    refine J_goto (tgt := 21) X dL_tell_10 (by decide) ?_
    refine J_iconst (v := 0) X dL_tell_21 rfl ?_
    exact J_iret X rfl rfl ⟨by rw [e2]; rfl, hx, ⟨ρ, _, cap, hRA, rfl, hcap⟩, ho2, by rw [if_pos e2]; rfl⟩ dL_tell_22
  · obtain ⟨hx, ⟨eE, ec, hRA⟩, hap, eh⟩ := e
    subst eh
    have ho2 : hx o = none := hap.sym o (by rw [one_same]; exact fun z => by cases z)
    rcases C_tell (σ := σ) (p1 := p1) (p2 := p2) with z | z | z
    · exact absurd z ec
    · rw [z, xN_1] at eE
      subst eE
      refine J_catch X [] ⟨0, 10, 13, 13⟩ [⟨0, 10, 17, 23⟩] rfl (fun w hw => (by cases hw)) (by decide) (by decide) gw_2_41 (cst_in (i := 3) rfl) (fun q => ?_)
      refine J_astore_4 X dL_tell_13 rfl (by decide) ?_
      refine J_iconst (v := 1) X dL_tell_15 rfl ?_
      exact J_iret X rfl rfl ⟨by rw [z]; rfl, hx, ⟨ρ, _, cap, hRA, rfl, hcap⟩, ho2, by rw [if_neg ec]⟩ dL_tell_16
    · rw [z, xN_2] at eE
      subst eE
      refine J_catch X [⟨0, 10, 13, 13⟩] ⟨0, 10, 17, 23⟩ [] rfl (List.forall_mem_cons.mpr ⟨⟨by decide, _, gw_2_41, by decide⟩, (fun w hw => absurd hw List.not_mem_nil)⟩) (by decide) (by decide) gw_2_148 (cst_in (i := 10) rfl) (fun q => ?_)
      refine J_astore_4 X dL_tell_17 rfl (by decide) ?_
      refine J_iconst (v := 2) X dL_tell_19 rfl ?_
      exact J_iret X rfl rfl ⟨by rw [z]; rfl, hx, ⟨ρ, _, cap, hRA, rfl, hcap⟩, ho2, by rw [if_neg ec]⟩ dL_tell_20
theorem C_audit {σ : St} {p1 : Int32} : X_audit_c σ p1 = 0 ∨ X_audit_c σ p1 = 2 := by
  unfold X_audit_c
  try simp only [X_glowFrom_L18_c_k, X_ground_L11_c_k, X_culprit_L14_c_k, X_trails_L21_c_k, insX_c, psX_c, audX_c, plan_c, way_c]
  (repeat' split) <;> decide
theorem cw_L_audit : Cond.static yL_audit ∈ GW ∧ Cond.initialized yL_audit.cls ∈ GW ∧ Cond.codeWith yL_audit cL_audit 4 (some .int) [(0, 16, 19, 23)] ∈ GW ∧ (yL_audit.cls ≠ "java/lang/invoke/MethodHandle" ∧ yL_audit.cls ≠ "java/lang/invoke/VarHandle") ∧ (parseMethodDescriptor yL_audit.desc).map (fun d => d.parameters.length) = some 3 := ⟨gw_4_49, gw_1_0, gw_4_50, ⟨by decide, by decide⟩, by decide +kernel⟩
theorem c_L_audit {l : Launch} {D : va_G} {ca : Nat → Nat} {h : fH} {ρ : Nat → Nat → Nat} {μ : Nat → Nat → Int32} {cap : Nat → Nat} {σ : St} (hR : RX ca h ρ μ cap σ) (hI : InvX σ) (hcap : ∀ k, cap k ≤ 100) (p1 : Int32) {o : Nat} {g : Nat → Int64} (ho : h o = none) : FM l D ca yL_audit (.codeWith yL_audit cL_audit 4 (some .int) [(0, 16, 19, 23)]) { frames := 8, cells := 1, slots := 6, locals := 147 } [.ref (ρ 0 0), .int p1, .ref o] (un h (one o (oc ca g))) (fun v h2 => v = some (.int (lawK (X_audit_c σ p1) 0 1 0)) ∧ ∃ h2x, RA ca h2x (ρ 0 0) (X_audit_s σ p1) ∧ h2x o = none ∧ h2 = un h2x (one o (oc ca (if X_audit_c σ p1 = 0 then vp_updL g 0 (if X_audit σ p1 = 0 then (0 : Int64) else 1) else g)))) noX := by
  refine FM.ofH [some (.ref (ρ 0 0)), some (.int p1), some (.ref o), none] (by decide) (Nat.le_of_ble_eq_true rfl) rfl ?_
  rintro K X rfl rfl rfl
  refine J_aload_2 X dL_audit_0 ?_
  refine J_iconst (v := 0) X dL_audit_1 rfl ?_
  refine J_aload_0 X dL_audit_2 ?_
  refine J_iload_1 X dL_audit_3 ?_
  refine J_callV X ((c_X_audit hR hI p1).frame (apart_one (e := oc (kca K) g) ho)) (And.intro gw_4_51 cw_X10_audit) (un_l hR.root) rfl rfl rfl (Nat.le_of_ble_eq_true rfl) dL_audit_4 rfl (fun v h2 e => ?_) (fun E h2 e => ?_)
  · obtain ⟨hx, ⟨e1, e2, hRA⟩, hap, eh⟩ := e
    subst e1
    subst eh
    have ho2 : hx o = none := hap.sym o (by rw [one_same]; exact fun z => by cases z)
    show J K _ [some (.ref (ρ 0 0)), some (.int p1), some (.ref o), none] [.int (X_audit σ p1), .int 0, .ref o] 7 _ _
    have K16 : J K (un hx (one o (oc (kca K) g))) [some (.ref (ρ 0 0)), some (.int p1), some (.ref o), none] [.long (if X_audit σ p1 = 0 then (0 : Int64) else 1), .int 0, .ref o] 15 1 6 := by
      refine J_last X (N := 1) (un_one ho2) vp01 dL_audit_15 ?_
      rw [fU_un_one ho2]
      refine J_goto (tgt := 22) X dL_audit_16 (by decide) ?_
      refine J_iconst (v := 0) X dL_audit_22 rfl ?_
      exact J_iret X rfl rfl ⟨by rw [e2]; rfl, hx, ⟨ρ, _, cap, hRA, rfl, hcap⟩, ho2, by rw [if_pos e2]; rfl⟩ dL_audit_23
    refine J_if_eq (tgt := 14) X dL_audit_7 (by decide) (fun z => ?_) (fun z => ?_)
    · refine J_lconst (v := 0) X dL_audit_14 rfl ?_
      rw [if_pos z] at K16
      exact K16
    · refine J_lconst (v := 1) X dL_audit_10 rfl ?_
      refine J_goto (tgt := 15) X dL_audit_11 (by decide) ?_
      rw [if_neg z] at K16
      exact K16
  · obtain ⟨hx, ⟨eE, ec, hRA⟩, hap, eh⟩ := e
    subst eh
    have ho2 : hx o = none := hap.sym o (by rw [one_same]; exact fun z => by cases z)
    rcases C_audit (σ := σ) (p1 := p1) with z | z
    · exact absurd z ec
    · rw [z, xN_2] at eE
      subst eE
      refine J_catch X [] ⟨0, 16, 19, 23⟩ [] rfl (fun w hw => (by cases hw)) (by decide) (by decide) gw_2_148 (cst_in (i := 10) rfl) (fun q => ?_)
      refine J_astore_3 X dL_audit_19 rfl (by decide) ?_
      refine J_iconst (v := 1) X dL_audit_20 rfl ?_
      exact J_iret X rfl rfl ⟨by rw [z]; rfl, hx, ⟨ρ, _, cap, hRA, rfl, hcap⟩, ho2, by rw [if_neg ec]⟩ dL_audit_21
theorem C_satellite {σ : St} {p1 : Int32} {p2 : Int32} : X_satellite_c σ p1 p2 = 0 ∨ X_satellite_c σ p1 p2 = 2 ∨ X_satellite_c σ p1 p2 = 3 := by
  unfold X_satellite_c
  try simp only [X_glowFrom_L18_c_k, X_ground_L11_c_k, X_culprit_L14_c_k, X_trails_L21_c_k, insX_c, psX_c, audX_c, plan_c, way_c]
  (repeat' split) <;> decide
theorem cw_L_satellite : Cond.static yL_satellite ∈ GW ∧ Cond.initialized yL_satellite.cls ∈ GW ∧ Cond.codeWith yL_satellite cL_satellite 5 (some .int) [(0, 10, 13, 23), (0, 10, 17, 35)] ∈ GW ∧ (yL_satellite.cls ≠ "java/lang/invoke/MethodHandle" ∧ yL_satellite.cls ≠ "java/lang/invoke/VarHandle") ∧ (parseMethodDescriptor yL_satellite.desc).map (fun d => d.parameters.length) = some 4 := ⟨gw_4_72, gw_1_0, gw_4_73, ⟨by decide, by decide⟩, by decide +kernel⟩
theorem c_L_satellite {l : Launch} {D : va_G} {ca : Nat → Nat} {h : fH} {ρ : Nat → Nat → Nat} {μ : Nat → Nat → Int32} {cap : Nat → Nat} {σ : St} (hR : RX ca h ρ μ cap σ) (hI : InvX σ) (hcap : ∀ k, cap k ≤ 100) (p1 : Int32) (p2 : Int32) {o : Nat} {g : Nat → Int64} (ho : h o = none) : FM l D ca yL_satellite (.codeWith yL_satellite cL_satellite 5 (some .int) [(0, 10, 13, 23), (0, 10, 17, 35)]) { frames := 8, cells := 5, slots := 120, locals := 313 } [.ref (ρ 0 0), .int p1, .int p2, .ref o] (un h (one o (oc ca g))) (fun v h2 => v = some (.int (lawK (X_satellite_c σ p1 p2) 0 1 2)) ∧ ∃ h2x, RA ca h2x (ρ 0 0) (X_satellite_s σ p1 p2) ∧ h2x o = none ∧ h2 = un h2x (one o (oc ca (if X_satellite_c σ p1 p2 = 0 then vp_updL g 0 (X_satellite σ p1 p2).toInt64 else g)))) noX := by
  refine FM.ofH [some (.ref (ρ 0 0)), some (.int p1), some (.int p2), some (.ref o), none] (by decide) (Nat.le_of_ble_eq_true rfl) rfl ?_
  rintro K X rfl rfl rfl
  refine J_aload_3 X dL_satellite_0 ?_
  refine J_iconst (v := 0) X dL_satellite_1 rfl ?_
  refine J_aload_0 X dL_satellite_2 ?_
  refine J_iload_1 X dL_satellite_3 ?_
  refine J_iload_2 X dL_satellite_4 ?_
  refine J_callV X ((c_X_satellite hR hI p1 p2 hcap).frame (apart_one (e := oc (kca K) g) ho)) (And.intro gw_4_74 cw_X10_satellite) (un_l hR.root) rfl rfl rfl (Nat.le_of_ble_eq_true rfl) dL_satellite_5 rfl (fun v h2 e => ?_) (fun E h2 e => ?_)
  · obtain ⟨hx, ⟨e1, e2, hRA⟩, hap, eh⟩ := e
    subst e1
    subst eh
    have ho2 : hx o = none := hap.sym o (by rw [one_same]; exact fun z => by cases z)
    show J K _ [some (.ref (ρ 0 0)), some (.int p1), some (.int p2), some (.ref o), none] [.int (X_satellite σ p1 p2), .int 0, .ref o] 8 _ _
    refine J_i2l X dL_satellite_8 ?_
    refine J_last X (N := 1) (un_one ho2) vp01 dL_satellite_9 ?_
    rw [fU_un_one ho2]
    refine J_goto (tgt := 21) X dL_satellite_10 (by decide) ?_
    refine J_iconst (v := 0) X dL_satellite_21 rfl ?_
    exact J_iret X rfl rfl ⟨by rw [e2]; rfl, hx, hRA, ho2, by rw [if_pos e2]; rfl⟩ dL_satellite_22
  · obtain ⟨hx, ⟨eE, ec, hRA⟩, hap, eh⟩ := e
    subst eh
    have ho2 : hx o = none := hap.sym o (by rw [one_same]; exact fun z => by cases z)
    rcases C_satellite (σ := σ) (p1 := p1) (p2 := p2) with z | z | z
    · exact absurd z ec
    · rw [z, xN_2] at eE
      subst eE
      refine J_catch X [] ⟨0, 10, 13, 23⟩ [⟨0, 10, 17, 35⟩] rfl (fun w hw => (by cases hw)) (by decide) (by decide) gw_2_148 (cst_in (i := 10) rfl) (fun q => ?_)
      refine J_astore_4 X dL_satellite_13 rfl (by decide) ?_
      refine J_iconst (v := 1) X dL_satellite_15 rfl ?_
      exact J_iret X rfl rfl ⟨by rw [z]; rfl, hx, hRA, ho2, by rw [if_neg ec]⟩ dL_satellite_16
    · rw [z, xN_3] at eE
      subst eE
      refine J_catch X [⟨0, 10, 13, 23⟩] ⟨0, 10, 17, 35⟩ [] rfl (List.forall_mem_cons.mpr ⟨⟨by decide, _, gw_2_148, by decide⟩, (fun w hw => absurd hw List.not_mem_nil)⟩) (by decide) (by decide) gw_2_192 (cst_in (i := 11) rfl) (fun q => ?_)
      refine J_astore_4 X dL_satellite_17 rfl (by decide) ?_
      refine J_iconst (v := 2) X dL_satellite_19 rfl ?_
      exact J_iret X rfl rfl ⟨by rw [z]; rfl, hx, hRA, ho2, by rw [if_neg ec]⟩ dL_satellite_20
theorem C_ofLamp {σ : St} {p1 : Int32} {p2 : Int32} : X_ofLamp_c σ p1 p2 = 0 ∨ X_ofLamp_c σ p1 p2 = 1 ∨ X_ofLamp_c σ p1 p2 = 2 := by
  unfold X_ofLamp_c
  try simp only [X_glowFrom_L18_c_k, X_ground_L11_c_k, X_culprit_L14_c_k, X_trails_L21_c_k, insX_c, psX_c, audX_c, plan_c, way_c]
  (repeat' split) <;> decide
theorem cw_L_ofLamp : Cond.static yL_ofLamp ∈ GW ∧ Cond.initialized yL_ofLamp.cls ∈ GW ∧ Cond.codeWith yL_ofLamp cL_ofLamp 5 (some .int) [(0, 10, 13, 13), (0, 10, 17, 23)] ∈ GW ∧ (yL_ofLamp.cls ≠ "java/lang/invoke/MethodHandle" ∧ yL_ofLamp.cls ≠ "java/lang/invoke/VarHandle") ∧ (parseMethodDescriptor yL_ofLamp.desc).map (fun d => d.parameters.length) = some 4 := ⟨gw_4_92, gw_1_0, gw_4_93, ⟨by decide, by decide⟩, by decide +kernel⟩
theorem c_L_ofLamp {l : Launch} {D : va_G} {ca : Nat → Nat} {h : fH} {ρ : Nat → Nat → Nat} {μ : Nat → Nat → Int32} {cap : Nat → Nat} {σ : St} (hR : RX ca h ρ μ cap σ) (hI : InvX σ) (hcap : ∀ k, cap k ≤ 100) (p1 : Int32) (p2 : Int32) {o : Nat} {g : Nat → Int64} (ho : h o = none) : FM l D ca yL_ofLamp (.codeWith yL_ofLamp cL_ofLamp 5 (some .int) [(0, 10, 13, 13), (0, 10, 17, 23)]) { frames := 9, cells := 2, slots := 12, locals := 168 } [.ref (ρ 0 0), .int p1, .int p2, .ref o] (un h (one o (oc ca g))) (fun v h2 => v = some (.int (lawK (X_ofLamp_c σ p1 p2) 1 2 0)) ∧ ∃ h2x, RA ca h2x (ρ 0 0) (X_ofLamp_s σ p1 p2) ∧ h2x o = none ∧ h2 = un h2x (one o (oc ca (if X_ofLamp_c σ p1 p2 = 0 then vp_updL g 0 (X_ofLamp σ p1 p2).toInt64 else g)))) noX := by
  refine FM.ofH [some (.ref (ρ 0 0)), some (.int p1), some (.int p2), some (.ref o), none] (by decide) (Nat.le_of_ble_eq_true rfl) rfl ?_
  rintro K X rfl rfl rfl
  refine J_aload_3 X dL_ofLamp_0 ?_
  refine J_iconst (v := 0) X dL_ofLamp_1 rfl ?_
  refine J_aload_0 X dL_ofLamp_2 ?_
  refine J_iload_1 X dL_ofLamp_3 ?_
  refine J_iload_2 X dL_ofLamp_4 ?_
  refine J_callV X ((c_X_ofLamp hR hI p1 p2).frame (apart_one (e := oc (kca K) g) ho)) (And.intro gw_4_94 cw_X10_ofLamp) (un_l hR.root) rfl rfl rfl (Nat.le_of_ble_eq_true rfl) dL_ofLamp_5 rfl (fun v h2 e => ?_) (fun E h2 e => ?_)
  · obtain ⟨hx, ⟨e1, e2, hRA⟩, hap, eh⟩ := e
    subst e1
    subst eh
    have ho2 : hx o = none := hap.sym o (by rw [one_same]; exact fun z => by cases z)
    show J K _ [some (.ref (ρ 0 0)), some (.int p1), some (.int p2), some (.ref o), none] [.int (X_ofLamp σ p1 p2), .int 0, .ref o] 8 _ _
    refine J_i2l X dL_ofLamp_8 ?_
    refine J_last X (N := 1) (un_one ho2) vp01 dL_ofLamp_9 ?_
    rw [fU_un_one ho2]
    refine J_goto (tgt := 21) X dL_ofLamp_10 (by decide) ?_
    refine J_iconst (v := 0) X dL_ofLamp_21 rfl ?_
    exact J_iret X rfl rfl ⟨by rw [e2]; rfl, hx, ⟨ρ, _, cap, hRA, rfl, hcap⟩, ho2, by rw [if_pos e2]; rfl⟩ dL_ofLamp_22
  · obtain ⟨hx, ⟨eE, ec, hRA⟩, hap, eh⟩ := e
    subst eh
    have ho2 : hx o = none := hap.sym o (by rw [one_same]; exact fun z => by cases z)
    rcases C_ofLamp (σ := σ) (p1 := p1) (p2 := p2) with z | z | z
    · exact absurd z ec
    · rw [z, xN_1] at eE
      subst eE
      refine J_catch X [] ⟨0, 10, 13, 13⟩ [⟨0, 10, 17, 23⟩] rfl (fun w hw => (by cases hw)) (by decide) (by decide) gw_2_41 (cst_in (i := 3) rfl) (fun q => ?_)
      refine J_astore_4 X dL_ofLamp_13 rfl (by decide) ?_
      refine J_iconst (v := 1) X dL_ofLamp_15 rfl ?_
      exact J_iret X rfl rfl ⟨by rw [z]; rfl, hx, ⟨ρ, _, cap, hRA, rfl, hcap⟩, ho2, by rw [if_neg ec]⟩ dL_ofLamp_16
    · rw [z, xN_2] at eE
      subst eE
      refine J_catch X [⟨0, 10, 13, 13⟩] ⟨0, 10, 17, 23⟩ [] rfl (List.forall_mem_cons.mpr ⟨⟨by decide, _, gw_2_41, by decide⟩, (fun w hw => absurd hw List.not_mem_nil)⟩) (by decide) (by decide) gw_2_148 (cst_in (i := 10) rfl) (fun q => ?_)
      refine J_astore_4 X dL_ofLamp_17 rfl (by decide) ?_
      refine J_iconst (v := 2) X dL_ofLamp_19 rfl ?_
      exact J_iret X rfl rfl ⟨by rw [z]; rfl, hx, ⟨ρ, _, cap, hRA, rfl, hcap⟩, ho2, by rw [if_neg ec]⟩ dL_ofLamp_20
theorem C_ofVillage {σ : St} {p1 : Int32} {p2 : Int32} : X_ofVillage_c σ p1 p2 = 0 ∨ X_ofVillage_c σ p1 p2 = 1 ∨ X_ofVillage_c σ p1 p2 = 2 := by
  unfold X_ofVillage_c
  try simp only [X_glowFrom_L18_c_k, X_ground_L11_c_k, X_culprit_L14_c_k, X_trails_L21_c_k, insX_c, psX_c, audX_c, plan_c, way_c]
  (repeat' split) <;> decide
theorem cw_L_ofVillage : Cond.static yL_ofVillage ∈ GW ∧ Cond.initialized yL_ofVillage.cls ∈ GW ∧ Cond.codeWith yL_ofVillage cL_ofVillage 5 (some .int) [(0, 10, 13, 13), (0, 10, 17, 23)] ∈ GW ∧ (yL_ofVillage.cls ≠ "java/lang/invoke/MethodHandle" ∧ yL_ofVillage.cls ≠ "java/lang/invoke/VarHandle") ∧ (parseMethodDescriptor yL_ofVillage.desc).map (fun d => d.parameters.length) = some 4 := ⟨gw_4_100, gw_1_0, gw_4_101, ⟨by decide, by decide⟩, by decide +kernel⟩
theorem c_L_ofVillage {l : Launch} {D : va_G} {ca : Nat → Nat} {h : fH} {ρ : Nat → Nat → Nat} {μ : Nat → Nat → Int32} {cap : Nat → Nat} {σ : St} (hR : RX ca h ρ μ cap σ) (hI : InvX σ) (hcap : ∀ k, cap k ≤ 100) (p1 : Int32) (p2 : Int32) {o : Nat} {g : Nat → Int64} (ho : h o = none) : FM l D ca yL_ofVillage (.codeWith yL_ofVillage cL_ofVillage 5 (some .int) [(0, 10, 13, 13), (0, 10, 17, 23)]) { frames := 9, cells := 2, slots := 12, locals := 168 } [.ref (ρ 0 0), .int p1, .int p2, .ref o] (un h (one o (oc ca g))) (fun v h2 => v = some (.int (lawK (X_ofVillage_c σ p1 p2) 1 2 0)) ∧ ∃ h2x, RA ca h2x (ρ 0 0) (X_ofVillage_s σ p1 p2) ∧ h2x o = none ∧ h2 = un h2x (one o (oc ca (if X_ofVillage_c σ p1 p2 = 0 then vp_updL g 0 (X_ofVillage σ p1 p2).toInt64 else g)))) noX := by
  refine FM.ofH [some (.ref (ρ 0 0)), some (.int p1), some (.int p2), some (.ref o), none] (by decide) (Nat.le_of_ble_eq_true rfl) rfl ?_
  rintro K X rfl rfl rfl
  refine J_aload_3 X dL_ofVillage_0 ?_
  refine J_iconst (v := 0) X dL_ofVillage_1 rfl ?_
  refine J_aload_0 X dL_ofVillage_2 ?_
  refine J_iload_1 X dL_ofVillage_3 ?_
  refine J_iload_2 X dL_ofVillage_4 ?_
  refine J_callV X ((c_X_ofVillage hR hI p1 p2).frame (apart_one (e := oc (kca K) g) ho)) (And.intro gw_4_102 cw_X10_ofVillage) (un_l hR.root) rfl rfl rfl (Nat.le_of_ble_eq_true rfl) dL_ofVillage_5 rfl (fun v h2 e => ?_) (fun E h2 e => ?_)
  · obtain ⟨hx, ⟨e1, e2, hRA⟩, hap, eh⟩ := e
    subst e1
    subst eh
    have ho2 : hx o = none := hap.sym o (by rw [one_same]; exact fun z => by cases z)
    show J K _ [some (.ref (ρ 0 0)), some (.int p1), some (.int p2), some (.ref o), none] [.int (X_ofVillage σ p1 p2), .int 0, .ref o] 8 _ _
    refine J_i2l X dL_ofVillage_8 ?_
    refine J_last X (N := 1) (un_one ho2) vp01 dL_ofVillage_9 ?_
    rw [fU_un_one ho2]
    refine J_goto (tgt := 21) X dL_ofVillage_10 (by decide) ?_
    refine J_iconst (v := 0) X dL_ofVillage_21 rfl ?_
    exact J_iret X rfl rfl ⟨by rw [e2]; rfl, hx, ⟨ρ, _, cap, hRA, rfl, hcap⟩, ho2, by rw [if_pos e2]; rfl⟩ dL_ofVillage_22
  · obtain ⟨hx, ⟨eE, ec, hRA⟩, hap, eh⟩ := e
    subst eh
    have ho2 : hx o = none := hap.sym o (by rw [one_same]; exact fun z => by cases z)
    rcases C_ofVillage (σ := σ) (p1 := p1) (p2 := p2) with z | z | z
    · exact absurd z ec
    · rw [z, xN_1] at eE
      subst eE
      refine J_catch X [] ⟨0, 10, 13, 13⟩ [⟨0, 10, 17, 23⟩] rfl (fun w hw => (by cases hw)) (by decide) (by decide) gw_2_41 (cst_in (i := 3) rfl) (fun q => ?_)
      refine J_astore_4 X dL_ofVillage_13 rfl (by decide) ?_
      refine J_iconst (v := 1) X dL_ofVillage_15 rfl ?_
      exact J_iret X rfl rfl ⟨by rw [z]; rfl, hx, ⟨ρ, _, cap, hRA, rfl, hcap⟩, ho2, by rw [if_neg ec]⟩ dL_ofVillage_16
    · rw [z, xN_2] at eE
      subst eE
      refine J_catch X [⟨0, 10, 13, 13⟩] ⟨0, 10, 17, 23⟩ [] rfl (List.forall_mem_cons.mpr ⟨⟨by decide, _, gw_2_41, by decide⟩, (fun w hw => absurd hw List.not_mem_nil)⟩) (by decide) (by decide) gw_2_148 (cst_in (i := 10) rfl) (fun q => ?_)
      refine J_astore_4 X dL_ofVillage_17 rfl (by decide) ?_
      refine J_iconst (v := 2) X dL_ofVillage_19 rfl ?_
      exact J_iret X rfl rfl ⟨by rw [z]; rfl, hx, ⟨ρ, _, cap, hRA, rfl, hcap⟩, ho2, by rw [if_neg ec]⟩ dL_ofVillage_20
theorem C_gives {σ : St} {p1 : Int32} {p2 : Int32} : X_gives_c σ p1 p2 = 0 ∨ X_gives_c σ p1 p2 = 1 := by
  unfold X_gives_c
  try simp only [X_glowFrom_L18_c_k, X_ground_L11_c_k, X_culprit_L14_c_k, X_trails_L21_c_k, insX_c, psX_c, audX_c, plan_c, way_c]
  (repeat' split) <;> decide
theorem cw_L_gives : Cond.static yL_gives ∈ GW ∧ Cond.initialized yL_gives.cls ∈ GW ∧ Cond.codeWith yL_gives cL_gives 5 (some .int) [(0, 10, 13, 13)] ∈ GW ∧ (yL_gives.cls ≠ "java/lang/invoke/MethodHandle" ∧ yL_gives.cls ≠ "java/lang/invoke/VarHandle") ∧ (parseMethodDescriptor yL_gives.desc).map (fun d => d.parameters.length) = some 4 := ⟨gw_4_111, gw_1_0, gw_4_112, ⟨by decide, by decide⟩, by decide +kernel⟩
theorem c_L_gives {l : Launch} {D : va_G} {ca : Nat → Nat} {h : fH} {ρ : Nat → Nat → Nat} {μ : Nat → Nat → Int32} {cap : Nat → Nat} {σ : St} (hR : RX ca h ρ μ cap σ) (hI : InvX σ) (hcap : ∀ k, cap k ≤ 100) (p1 : Int32) (p2 : Int32) {o : Nat} {g : Nat → Int64} (ho : h o = none) : FM l D ca yL_gives (.codeWith yL_gives cL_gives 5 (some .int) [(0, 10, 13, 13)]) { frames := 9, cells := 2, slots := 12, locals := 168 } [.ref (ρ 0 0), .int p1, .int p2, .ref o] (un h (one o (oc ca g))) (fun v h2 => v = some (.int (lawK (X_gives_c σ p1 p2) 1 0 0)) ∧ ∃ h2x, RA ca h2x (ρ 0 0) (X_gives_s σ p1 p2) ∧ h2x o = none ∧ h2 = un h2x (one o (oc ca (if X_gives_c σ p1 p2 = 0 then vp_updL g 0 (X_gives σ p1 p2).toInt64 else g)))) noX := by
  refine FM.ofH [some (.ref (ρ 0 0)), some (.int p1), some (.int p2), some (.ref o), none] (by decide) (Nat.le_of_ble_eq_true rfl) rfl ?_
  rintro K X rfl rfl rfl
  refine J_aload_3 X dL_gives_0 ?_
  refine J_iconst (v := 0) X dL_gives_1 rfl ?_
  refine J_aload_0 X dL_gives_2 ?_
  refine J_iload_1 X dL_gives_3 ?_
  refine J_iload_2 X dL_gives_4 ?_
  refine J_callV X ((c_X_gives hR hI p1 p2).frame (apart_one (e := oc (kca K) g) ho)) (And.intro gw_4_113 cw_X10_gives) (un_l hR.root) rfl rfl rfl (Nat.le_of_ble_eq_true rfl) dL_gives_5 rfl (fun v h2 e => ?_) (fun E h2 e => ?_)
  · obtain ⟨hx, ⟨e1, e2, hRA⟩, hap, eh⟩ := e
    subst e1
    subst eh
    have ho2 : hx o = none := hap.sym o (by rw [one_same]; exact fun z => by cases z)
    show J K _ [some (.ref (ρ 0 0)), some (.int p1), some (.int p2), some (.ref o), none] [.int (X_gives σ p1 p2), .int 0, .ref o] 8 _ _
    refine J_i2l X dL_gives_8 ?_
    refine J_last X (N := 1) (un_one ho2) vp01 dL_gives_9 ?_
    rw [fU_un_one ho2]
    refine J_goto (tgt := 17) X dL_gives_10 (by decide) ?_
    refine J_iconst (v := 0) X dL_gives_17 rfl ?_
    exact J_iret X rfl rfl ⟨by rw [e2]; rfl, hx, ⟨ρ, _, cap, hRA, rfl, hcap⟩, ho2, by rw [if_pos e2]; rfl⟩ dL_gives_18
  · obtain ⟨hx, ⟨eE, ec, hRA⟩, hap, eh⟩ := e
    subst eh
    have ho2 : hx o = none := hap.sym o (by rw [one_same]; exact fun z => by cases z)
    rcases C_gives (σ := σ) (p1 := p1) (p2 := p2) with z | z
    · exact absurd z ec
    · rw [z, xN_1] at eE
      subst eE
      refine J_catch X [] ⟨0, 10, 13, 13⟩ [] rfl (fun w hw => (by cases hw)) (by decide) (by decide) gw_2_41 (cst_in (i := 3) rfl) (fun q => ?_)
      refine J_astore_4 X dL_gives_13 rfl (by decide) ?_
      refine J_iconst (v := 1) X dL_gives_15 rfl ?_
      exact J_iret X rfl rfl ⟨by rw [z]; rfl, hx, ⟨ρ, _, cap, hRA, rfl, hcap⟩, ho2, by rw [if_neg ec]⟩ dL_gives_16
theorem C_glow {σ : St} {p1 : Int32} : X_glow_c σ p1 = 0 ∨ X_glow_c σ p1 = 1 := by
  unfold X_glow_c
  try simp only [X_glowFrom_L18_c_k, X_ground_L11_c_k, X_culprit_L14_c_k, X_trails_L21_c_k, insX_c, psX_c, audX_c, plan_c, way_c]
  (repeat' split) <;> decide
theorem cw_L_glow : Cond.static yL_glow ∈ GW ∧ Cond.initialized yL_glow.cls ∈ GW ∧ Cond.codeWith yL_glow cL_glow 4 (some .int) [(0, 9, 12, 13)] ∈ GW ∧ (yL_glow.cls ≠ "java/lang/invoke/MethodHandle" ∧ yL_glow.cls ≠ "java/lang/invoke/VarHandle") ∧ (parseMethodDescriptor yL_glow.desc).map (fun d => d.parameters.length) = some 3 := ⟨gw_4_118, gw_1_0, gw_4_119, ⟨by decide, by decide⟩, by decide +kernel⟩
theorem c_L_glow {l : Launch} {D : va_G} {ca : Nat → Nat} {h : fH} {ρ : Nat → Nat → Nat} {μ : Nat → Nat → Int32} {cap : Nat → Nat} {σ : St} (hR : RX ca h ρ μ cap σ) (hI : InvX σ) (hcap : ∀ k, cap k ≤ 100) (p1 : Int32) {o : Nat} {g : Nat → Int64} (ho : h o = none) : FM l D ca yL_glow (.codeWith yL_glow cL_glow 4 (some .int) [(0, 9, 12, 13)]) { frames := 9, cells := 1, slots := 6, locals := 182 } [.ref (ρ 0 0), .int p1, .ref o] (un h (one o (oc ca g))) (fun v h2 => v = some (.int (lawK (X_glow_c σ p1) 1 0 0)) ∧ ∃ h2x, RA ca h2x (ρ 0 0) (X_glow_s σ p1) ∧ h2x o = none ∧ h2 = un h2x (one o (oc ca (if X_glow_c σ p1 = 0 then vp_updL g 0 (X_glow σ p1).toInt64 else g)))) noX := by
  refine FM.ofH [some (.ref (ρ 0 0)), some (.int p1), some (.ref o), none] (by decide) (Nat.le_of_ble_eq_true rfl) rfl ?_
  rintro K X rfl rfl rfl
  refine J_aload_2 X dL_glow_0 ?_
  refine J_iconst (v := 0) X dL_glow_1 rfl ?_
  refine J_aload_0 X dL_glow_2 ?_
  refine J_iload_1 X dL_glow_3 ?_
  refine J_callV X ((c_X_glow hR hI p1).frame (apart_one (e := oc (kca K) g) ho)) (And.intro gw_4_120 cw_X10_glow) (un_l hR.root) rfl rfl rfl (Nat.le_of_ble_eq_true rfl) dL_glow_4 rfl (fun v h2 e => ?_) (fun E h2 e => ?_)
  · obtain ⟨hx, ⟨e1, e2, hRA⟩, hap, eh⟩ := e
    subst e1
    subst eh
    have ho2 : hx o = none := hap.sym o (by rw [one_same]; exact fun z => by cases z)
    show J K _ [some (.ref (ρ 0 0)), some (.int p1), some (.ref o), none] [.int (X_glow σ p1), .int 0, .ref o] 7 _ _
    refine J_i2l X dL_glow_7 ?_
    refine J_last X (N := 1) (un_one ho2) vp01 dL_glow_8 ?_
    rw [fU_un_one ho2]
    refine J_goto (tgt := 15) X dL_glow_9 (by decide) ?_
    refine J_iconst (v := 0) X dL_glow_15 rfl ?_
    exact J_iret X rfl rfl ⟨by rw [e2]; rfl, hx, ⟨ρ, _, cap, hRA, rfl, hcap⟩, ho2, by rw [if_pos e2]; rfl⟩ dL_glow_16
  · obtain ⟨hx, ⟨eE, ec, hRA⟩, hap, eh⟩ := e
    subst eh
    have ho2 : hx o = none := hap.sym o (by rw [one_same]; exact fun z => by cases z)
    rcases C_glow (σ := σ) (p1 := p1) with z | z
    · exact absurd z ec
    · rw [z, xN_1] at eE
      subst eE
      refine J_catch X [] ⟨0, 9, 12, 13⟩ [] rfl (fun w hw => (by cases hw)) (by decide) (by decide) gw_2_41 (cst_in (i := 3) rfl) (fun q => ?_)
      refine J_astore_3 X dL_glow_12 rfl (by decide) ?_
      refine J_iconst (v := 1) X dL_glow_13 rfl ?_
      exact J_iret X rfl rfl ⟨by rw [z]; rfl, hx, ⟨ρ, _, cap, hRA, rfl, hcap⟩, ho2, by rw [if_neg ec]⟩ dL_glow_14
theorem C_glowFrom {σ : St} {p1 : Int32} {p2 : Int32} : X_glowFrom_c σ p1 p2 = 0 ∨ X_glowFrom_c σ p1 p2 = 1 ∨ X_glowFrom_c σ p1 p2 = 2 := by
  unfold X_glowFrom_c
  try simp only [X_glowFrom_L18_c_k, X_ground_L11_c_k, X_culprit_L14_c_k, X_trails_L21_c_k, insX_c, psX_c, audX_c, plan_c, way_c]
  (repeat' split) <;> decide
theorem cw_L_glowFrom : Cond.static yL_glowFrom ∈ GW ∧ Cond.initialized yL_glowFrom.cls ∈ GW ∧ Cond.codeWith yL_glowFrom cL_glowFrom 5 (some .int) [(0, 10, 13, 13), (0, 10, 17, 23)] ∈ GW ∧ (yL_glowFrom.cls ≠ "java/lang/invoke/MethodHandle" ∧ yL_glowFrom.cls ≠ "java/lang/invoke/VarHandle") ∧ (parseMethodDescriptor yL_glowFrom.desc).map (fun d => d.parameters.length) = some 4 := ⟨gw_4_125, gw_1_0, gw_4_126, ⟨by decide, by decide⟩, by decide +kernel⟩
theorem c_L_glowFrom {l : Launch} {D : va_G} {ca : Nat → Nat} {h : fH} {ρ : Nat → Nat → Nat} {μ : Nat → Nat → Int32} {cap : Nat → Nat} {σ : St} (hR : RX ca h ρ μ cap σ) (hI : InvX σ) (hcap : ∀ k, cap k ≤ 100) (p1 : Int32) (p2 : Int32) {o : Nat} {g : Nat → Int64} (ho : h o = none) : FM l D ca yL_glowFrom (.codeWith yL_glowFrom cL_glowFrom 5 (some .int) [(0, 10, 13, 13), (0, 10, 17, 23)]) { frames := 9, cells := 2, slots := 12, locals := 174 } [.ref (ρ 0 0), .int p1, .int p2, .ref o] (un h (one o (oc ca g))) (fun v h2 => v = some (.int (lawK (X_glowFrom_c σ p1 p2) 1 2 0)) ∧ ∃ h2x, RA ca h2x (ρ 0 0) (X_glowFrom_s σ p1 p2) ∧ h2x o = none ∧ h2 = un h2x (one o (oc ca (if X_glowFrom_c σ p1 p2 = 0 then vp_updL g 0 (X_glowFrom σ p1 p2).toInt64 else g)))) noX := by
  refine FM.ofH [some (.ref (ρ 0 0)), some (.int p1), some (.int p2), some (.ref o), none] (by decide) (Nat.le_of_ble_eq_true rfl) rfl ?_
  rintro K X rfl rfl rfl
  refine J_aload_3 X dL_glowFrom_0 ?_
  refine J_iconst (v := 0) X dL_glowFrom_1 rfl ?_
  refine J_aload_0 X dL_glowFrom_2 ?_
  refine J_iload_1 X dL_glowFrom_3 ?_
  refine J_iload_2 X dL_glowFrom_4 ?_
  refine J_callV X ((c_X_glowFrom hR hI p1 p2).frame (apart_one (e := oc (kca K) g) ho)) (And.intro gw_4_127 cw_X10_glowFrom) (un_l hR.root) rfl rfl rfl (Nat.le_of_ble_eq_true rfl) dL_glowFrom_5 rfl (fun v h2 e => ?_) (fun E h2 e => ?_)
  · obtain ⟨hx, ⟨e1, e2, hRA⟩, hap, eh⟩ := e
    subst e1
    subst eh
    have ho2 : hx o = none := hap.sym o (by rw [one_same]; exact fun z => by cases z)
    show J K _ [some (.ref (ρ 0 0)), some (.int p1), some (.int p2), some (.ref o), none] [.int (X_glowFrom σ p1 p2), .int 0, .ref o] 8 _ _
    refine J_i2l X dL_glowFrom_8 ?_
    refine J_last X (N := 1) (un_one ho2) vp01 dL_glowFrom_9 ?_
    rw [fU_un_one ho2]
    refine J_goto (tgt := 21) X dL_glowFrom_10 (by decide) ?_
    refine J_iconst (v := 0) X dL_glowFrom_21 rfl ?_
    exact J_iret X rfl rfl ⟨by rw [e2]; rfl, hx, ⟨ρ, _, cap, hRA, rfl, hcap⟩, ho2, by rw [if_pos e2]; rfl⟩ dL_glowFrom_22
  · obtain ⟨hx, ⟨eE, ec, hRA⟩, hap, eh⟩ := e
    subst eh
    have ho2 : hx o = none := hap.sym o (by rw [one_same]; exact fun z => by cases z)
    rcases C_glowFrom (σ := σ) (p1 := p1) (p2 := p2) with z | z | z
    · exact absurd z ec
    · rw [z, xN_1] at eE
      subst eE
      refine J_catch X [] ⟨0, 10, 13, 13⟩ [⟨0, 10, 17, 23⟩] rfl (fun w hw => (by cases hw)) (by decide) (by decide) gw_2_41 (cst_in (i := 3) rfl) (fun q => ?_)
      refine J_astore_4 X dL_glowFrom_13 rfl (by decide) ?_
      refine J_iconst (v := 1) X dL_glowFrom_15 rfl ?_
      exact J_iret X rfl rfl ⟨by rw [z]; rfl, hx, ⟨ρ, _, cap, hRA, rfl, hcap⟩, ho2, by rw [if_neg ec]⟩ dL_glowFrom_16
    · rw [z, xN_2] at eE
      subst eE
      refine J_catch X [⟨0, 10, 13, 13⟩] ⟨0, 10, 17, 23⟩ [] rfl (List.forall_mem_cons.mpr ⟨⟨by decide, _, gw_2_41, by decide⟩, (fun w hw => absurd hw List.not_mem_nil)⟩) (by decide) (by decide) gw_2_148 (cst_in (i := 10) rfl) (fun q => ?_)
      refine J_astore_4 X dL_glowFrom_17 rfl (by decide) ?_
      refine J_iconst (v := 2) X dL_glowFrom_19 rfl ?_
      exact J_iret X rfl rfl ⟨by rw [z]; rfl, hx, ⟨ρ, _, cap, hRA, rfl, hcap⟩, ho2, by rw [if_neg ec]⟩ dL_glowFrom_20
theorem C_ground {σ : St} {p1 : Int32} : X_ground_c σ p1 = 0 ∨ X_ground_c σ p1 = 1 := by
  unfold X_ground_c
  try simp only [X_glowFrom_L18_c_k, X_ground_L11_c_k, X_culprit_L14_c_k, X_trails_L21_c_k, insX_c, psX_c, audX_c, plan_c, way_c]
  (repeat' split) <;> decide
theorem cw_L_ground : Cond.static yL_ground ∈ GW ∧ Cond.initialized yL_ground.cls ∈ GW ∧ Cond.codeWith yL_ground cL_ground 4 (some .int) [(0, 9, 12, 13)] ∈ GW ∧ (yL_ground.cls ≠ "java/lang/invoke/MethodHandle" ∧ yL_ground.cls ≠ "java/lang/invoke/VarHandle") ∧ (parseMethodDescriptor yL_ground.desc).map (fun d => d.parameters.length) = some 3 := ⟨gw_4_136, gw_1_0, gw_4_137, ⟨by decide, by decide⟩, by decide +kernel⟩
theorem c_L_ground {l : Launch} {D : va_G} {ca : Nat → Nat} {h : fH} {ρ : Nat → Nat → Nat} {μ : Nat → Nat → Int32} {cap : Nat → Nat} {σ : St} (hR : RX ca h ρ μ cap σ) (hI : InvX σ) (hcap : ∀ k, cap k ≤ 100) (p1 : Int32) {o : Nat} {g : Nat → Int64} (ho : h o = none) : FM l D ca yL_ground (.codeWith yL_ground cL_ground 4 (some .int) [(0, 9, 12, 13)]) { frames := 9, cells := 1, slots := 6, locals := 172 } [.ref (ρ 0 0), .int p1, .ref o] (un h (one o (oc ca g))) (fun v h2 => v = some (.int (lawK (X_ground_c σ p1) 1 0 0)) ∧ ∃ h2x, RA ca h2x (ρ 0 0) (X_ground_s σ p1) ∧ h2x o = none ∧ h2 = un h2x (one o (oc ca (if X_ground_c σ p1 = 0 then vp_updL g 0 (X_ground σ p1).toInt64 else g)))) noX := by
  refine FM.ofH [some (.ref (ρ 0 0)), some (.int p1), some (.ref o), none] (by decide) (Nat.le_of_ble_eq_true rfl) rfl ?_
  rintro K X rfl rfl rfl
  refine J_aload_2 X dL_ground_0 ?_
  refine J_iconst (v := 0) X dL_ground_1 rfl ?_
  refine J_aload_0 X dL_ground_2 ?_
  refine J_iload_1 X dL_ground_3 ?_
  refine J_callV X ((c_X_ground hR hI p1).frame (apart_one (e := oc (kca K) g) ho)) (And.intro gw_4_138 cw_X10_ground) (un_l hR.root) rfl rfl rfl (Nat.le_of_ble_eq_true rfl) dL_ground_4 rfl (fun v h2 e => ?_) (fun E h2 e => ?_)
  · obtain ⟨hx, ⟨e1, e2, hRA⟩, hap, eh⟩ := e
    subst e1
    subst eh
    have ho2 : hx o = none := hap.sym o (by rw [one_same]; exact fun z => by cases z)
    show J K _ [some (.ref (ρ 0 0)), some (.int p1), some (.ref o), none] [.int (X_ground σ p1), .int 0, .ref o] 7 _ _
    refine J_i2l X dL_ground_7 ?_
    refine J_last X (N := 1) (un_one ho2) vp01 dL_ground_8 ?_
    rw [fU_un_one ho2]
    refine J_goto (tgt := 15) X dL_ground_9 (by decide) ?_
    refine J_iconst (v := 0) X dL_ground_15 rfl ?_
    exact J_iret X rfl rfl ⟨by rw [e2]; rfl, hx, ⟨ρ, _, cap, hRA, rfl, hcap⟩, ho2, by rw [if_pos e2]; rfl⟩ dL_ground_16
  · obtain ⟨hx, ⟨eE, ec, hRA⟩, hap, eh⟩ := e
    subst eh
    have ho2 : hx o = none := hap.sym o (by rw [one_same]; exact fun z => by cases z)
    rcases C_ground (σ := σ) (p1 := p1) with z | z
    · exact absurd z ec
    · rw [z, xN_1] at eE
      subst eE
      refine J_catch X [] ⟨0, 9, 12, 13⟩ [] rfl (fun w hw => (by cases hw)) (by decide) (by decide) gw_2_41 (cst_in (i := 3) rfl) (fun q => ?_)
      refine J_astore_3 X dL_ground_12 rfl (by decide) ?_
      refine J_iconst (v := 1) X dL_ground_13 rfl ?_
      exact J_iret X rfl rfl ⟨by rw [z]; rfl, hx, ⟨ρ, _, cap, hRA, rfl, hcap⟩, ho2, by rw [if_neg ec]⟩ dL_ground_14
theorem C_way {σ μ : St} {p1 : Int32} {p2 : Int32} {p3 : Int32} : X_way_c σ μ p1 p2 p3 = 0 ∨ X_way_c σ μ p1 p2 p3 = 1 ∨ X_way_c σ μ p1 p2 p3 = 2 := by
  unfold X_way_c
  try simp only [X_glowFrom_L18_c_k, X_ground_L11_c_k, X_culprit_L14_c_k, X_trails_L21_c_k, insX_c, psX_c, audX_c, plan_c, way_c]
  (repeat' split) <;> decide
theorem cw_L_way : Cond.static yL_way ∈ GW ∧ Cond.initialized yL_way.cls ∈ GW ∧ Cond.codeWith yL_way cL_way 6 (some .int) [(0, 12, 15, 13), (0, 12, 19, 23)] ∈ GW ∧ (yL_way.cls ≠ "java/lang/invoke/MethodHandle" ∧ yL_way.cls ≠ "java/lang/invoke/VarHandle") ∧ (parseMethodDescriptor yL_way.desc).map (fun d => d.parameters.length) = some 5 := ⟨gw_4_143, gw_1_0, gw_4_144, ⟨by decide, by decide⟩, by decide +kernel⟩
theorem c_L_way {l : Launch} {D : va_G} {ca : Nat → Nat} {h : fH} {ρ : Nat → Nat → Nat} {μ : St} {cap : Nat → Nat} {σ : St} (hR : RX ca h ρ μ cap σ) (hI : InvX σ) (hcap : ∀ k, cap k ≤ 100) (p1 : Int32) (p2 : Int32) (p3 : Int32) {o : Nat} {g : Nat → Int64} (ho : h o = none) : FM l D ca yL_way (.codeWith yL_way cL_way 6 (some .int) [(0, 12, 15, 13), (0, 12, 19, 23)]) { frames := 8, cells := 3, slots := 18, locals := 151 } [.ref (ρ 0 0), .int p1, .int p2, .int p3, .ref o] (un h (one o (oc ca g))) (fun v h2 => v = some (.int (lawK (X_way_c σ μ p1 p2 p3) 1 2 0)) ∧ ∃ h2x, RA ca h2x (ρ 0 0) (σ) ∧ h2x o = none ∧ h2 = un h2x (one o (oc ca (if X_way_c σ μ p1 p2 p3 = 0 then vp_updL g 0 (X_way σ μ p1 p2 p3).toInt64 else g)))) noX := by
  refine FM.ofH [some (.ref (ρ 0 0)), some (.int p1), some (.int p2), some (.int p3), some (.ref o), none] (by decide) (Nat.le_of_ble_eq_true rfl) rfl ?_
  rintro K X rfl rfl rfl
  refine J_aload_4 X dL_way_0 ?_
  refine J_iconst (v := 0) X dL_way_2 rfl ?_
  refine J_aload_0 X dL_way_3 ?_
  refine J_iload_1 X dL_way_4 ?_
  refine J_iload_2 X dL_way_5 ?_
  refine J_iload_3 X dL_way_6 ?_
  refine J_callV X ((c_X_way hR hI p1 p2 p3).frame (apart_one (e := oc (kca K) g) ho)) (And.intro gw_4_145 cw_X10_way) (un_l hR.root) rfl rfl rfl (Nat.le_of_ble_eq_true rfl) dL_way_7 rfl (fun v h2 e => ?_) (fun E h2 e => ?_)
  · obtain ⟨hx, ⟨e1, e2, hRA⟩, hap, eh⟩ := e
    subst e1
    subst eh
    have ho2 : hx o = none := hap.sym o (by rw [one_same]; exact fun z => by cases z)
    show J K _ [some (.ref (ρ 0 0)), some (.int p1), some (.int p2), some (.int p3), some (.ref o), none] [.int (X_way σ μ p1 p2 p3), .int 0, .ref o] 10 _ _
    refine J_i2l X dL_way_10 ?_
    refine J_last X (N := 1) (un_one ho2) vp01 dL_way_11 ?_
    rw [fU_un_one ho2]
    refine J_goto (tgt := 23) X dL_way_12 (by decide) ?_
    refine J_iconst (v := 0) X dL_way_23 rfl ?_
    exact J_iret X rfl rfl ⟨by rw [e2]; rfl, hx, ⟨ρ, _, cap, hRA, rfl, hcap⟩, ho2, by rw [if_pos e2]; rfl⟩ dL_way_24
  · obtain ⟨hx, ⟨eE, ec, hRA⟩, hap, eh⟩ := e
    subst eh
    have ho2 : hx o = none := hap.sym o (by rw [one_same]; exact fun z => by cases z)
    rcases C_way (σ := σ) (μ := μ) (p1 := p1) (p2 := p2) (p3 := p3) with z | z | z
    · exact absurd z ec
    · rw [z, xN_1] at eE
      subst eE
      refine J_catch X [] ⟨0, 12, 15, 13⟩ [⟨0, 12, 19, 23⟩] rfl (fun w hw => (by cases hw)) (by decide) (by decide) gw_2_41 (cst_in (i := 3) rfl) (fun q => ?_)
      refine J_astore_5 X dL_way_15 rfl (by decide) ?_
      refine J_iconst (v := 1) X dL_way_17 rfl ?_
      exact J_iret X rfl rfl ⟨by rw [z]; rfl, hx, ⟨ρ, _, cap, hRA, rfl, hcap⟩, ho2, by rw [if_neg ec]⟩ dL_way_18
    · rw [z, xN_2] at eE
      subst eE
      refine J_catch X [⟨0, 12, 15, 13⟩] ⟨0, 12, 19, 23⟩ [] rfl (List.forall_mem_cons.mpr ⟨⟨by decide, _, gw_2_41, by decide⟩, (fun w hw => absurd hw List.not_mem_nil)⟩) (by decide) (by decide) gw_2_148 (cst_in (i := 10) rfl) (fun q => ?_)
      refine J_astore_5 X dL_way_19 rfl (by decide) ?_
      refine J_iconst (v := 2) X dL_way_21 rfl ?_
      exact J_iret X rfl rfl ⟨by rw [z]; rfl, hx, ⟨ρ, _, cap, hRA, rfl, hcap⟩, ho2, by rw [if_neg ec]⟩ dL_way_22
theorem C_ofReading {σ : St} {p1 : Int32} {p2 : Int32} {p3 : Int32} : X_ofReading_c σ p1 p2 p3 = 0 ∨ X_ofReading_c σ p1 p2 p3 = 1 ∨ X_ofReading_c σ p1 p2 p3 = 2 := by
  unfold X_ofReading_c
  try simp only [X_glowFrom_L18_c_k, X_ground_L11_c_k, X_culprit_L14_c_k, X_trails_L21_c_k, insX_c, psX_c, audX_c, plan_c, way_c]
  (repeat' split) <;> decide
theorem cw_L_ofReading : Cond.static yL_ofReading ∈ GW ∧ Cond.initialized yL_ofReading.cls ∈ GW ∧ Cond.codeWith yL_ofReading cL_ofReading 6 (some .int) [(0, 12, 15, 13), (0, 12, 19, 23)] ∈ GW ∧ (yL_ofReading.cls ≠ "java/lang/invoke/MethodHandle" ∧ yL_ofReading.cls ≠ "java/lang/invoke/VarHandle") ∧ (parseMethodDescriptor yL_ofReading.desc).map (fun d => d.parameters.length) = some 5 := ⟨gw_4_174, gw_1_0, gw_4_175, ⟨by decide, by decide⟩, by decide +kernel⟩
theorem c_L_ofReading {l : Launch} {D : va_G} {ca : Nat → Nat} {h : fH} {ρ : Nat → Nat → Nat} {μ : Nat → Nat → Int32} {cap : Nat → Nat} {σ : St} (hR : RX ca h ρ μ cap σ) (hI : InvX σ) (hcap : ∀ k, cap k ≤ 100) (p1 : Int32) (p2 : Int32) (p3 : Int32) {o : Nat} {g : Nat → Int64} (ho : h o = none) : FM l D ca yL_ofReading (.codeWith yL_ofReading cL_ofReading 6 (some .int) [(0, 12, 15, 13), (0, 12, 19, 23)]) { frames := 9, cells := 3, slots := 18, locals := 172 } [.ref (ρ 0 0), .int p1, .int p2, .int p3, .ref o] (un h (one o (oc ca g))) (fun v h2 => v = some (.int (lawK (X_ofReading_c σ p1 p2 p3) 1 2 0)) ∧ ∃ h2x, RA ca h2x (ρ 0 0) (X_ofReading_s σ p1 p2 p3) ∧ h2x o = none ∧ h2 = un h2x (one o (oc ca (if X_ofReading_c σ p1 p2 p3 = 0 then vp_updL g 0 (X_ofReading σ p1 p2 p3).toInt64 else g)))) noX := by
  refine FM.ofH [some (.ref (ρ 0 0)), some (.int p1), some (.int p2), some (.int p3), some (.ref o), none] (by decide) (Nat.le_of_ble_eq_true rfl) rfl ?_
  rintro K X rfl rfl rfl
  refine J_aload_4 X dL_ofReading_0 ?_
  refine J_iconst (v := 0) X dL_ofReading_2 rfl ?_
  refine J_aload_0 X dL_ofReading_3 ?_
  refine J_iload_1 X dL_ofReading_4 ?_
  refine J_iload_2 X dL_ofReading_5 ?_
  refine J_iload_3 X dL_ofReading_6 ?_
  refine J_callV X ((c_X_ofReading hR hI p1 p2 p3).frame (apart_one (e := oc (kca K) g) ho)) (And.intro gw_4_176 cw_X10_ofReading) (un_l hR.root) rfl rfl rfl (Nat.le_of_ble_eq_true rfl) dL_ofReading_7 rfl (fun v h2 e => ?_) (fun E h2 e => ?_)
  · obtain ⟨hx, ⟨e1, e2, hRA⟩, hap, eh⟩ := e
    subst e1
    subst eh
    have ho2 : hx o = none := hap.sym o (by rw [one_same]; exact fun z => by cases z)
    show J K _ [some (.ref (ρ 0 0)), some (.int p1), some (.int p2), some (.int p3), some (.ref o), none] [.int (X_ofReading σ p1 p2 p3), .int 0, .ref o] 10 _ _
    refine J_i2l X dL_ofReading_10 ?_
    refine J_last X (N := 1) (un_one ho2) vp01 dL_ofReading_11 ?_
    rw [fU_un_one ho2]
    refine J_goto (tgt := 23) X dL_ofReading_12 (by decide) ?_
    refine J_iconst (v := 0) X dL_ofReading_23 rfl ?_
    exact J_iret X rfl rfl ⟨by rw [e2]; rfl, hx, ⟨ρ, _, cap, hRA, rfl, hcap⟩, ho2, by rw [if_pos e2]; rfl⟩ dL_ofReading_24
  · obtain ⟨hx, ⟨eE, ec, hRA⟩, hap, eh⟩ := e
    subst eh
    have ho2 : hx o = none := hap.sym o (by rw [one_same]; exact fun z => by cases z)
    rcases C_ofReading (σ := σ) (p1 := p1) (p2 := p2) (p3 := p3) with z | z | z
    · exact absurd z ec
    · rw [z, xN_1] at eE
      subst eE
      refine J_catch X [] ⟨0, 12, 15, 13⟩ [⟨0, 12, 19, 23⟩] rfl (fun w hw => (by cases hw)) (by decide) (by decide) gw_2_41 (cst_in (i := 3) rfl) (fun q => ?_)
      refine J_astore_5 X dL_ofReading_15 rfl (by decide) ?_
      refine J_iconst (v := 1) X dL_ofReading_17 rfl ?_
      exact J_iret X rfl rfl ⟨by rw [z]; rfl, hx, ⟨ρ, _, cap, hRA, rfl, hcap⟩, ho2, by rw [if_neg ec]⟩ dL_ofReading_18
    · rw [z, xN_2] at eE
      subst eE
      refine J_catch X [⟨0, 12, 15, 13⟩] ⟨0, 12, 19, 23⟩ [] rfl (List.forall_mem_cons.mpr ⟨⟨by decide, _, gw_2_41, by decide⟩, (fun w hw => absurd hw List.not_mem_nil)⟩) (by decide) (by decide) gw_2_148 (cst_in (i := 10) rfl) (fun q => ?_)
      refine J_astore_5 X dL_ofReading_19 rfl (by decide) ?_
      refine J_iconst (v := 2) X dL_ofReading_21 rfl ?_
      exact J_iret X rfl rfl ⟨by rw [z]; rfl, hx, ⟨ρ, _, cap, hRA, rfl, hcap⟩, ho2, by rw [if_neg ec]⟩ dL_ofReading_22
theorem C_trend {σ : St} {p1 : Int32} : X_trend_c σ p1 = 0 ∨ X_trend_c σ p1 = 1 ∨ X_trend_c σ p1 = 3 := by
  unfold X_trend_c
  have hs := slope_c σ (ix p1)
  (repeat' split) <;> first | decide | (rcases hs with z | z <;> rw [z] <;> decide) | exact absurd (by assumption) (by assumption)
theorem cw_L_trend : Cond.static yL_trend ∈ GW ∧ Cond.initialized yL_trend.cls ∈ GW ∧ Cond.codeWith yL_trend cL_trend 4 (some .int) [(0, 8, 11, 13), (0, 8, 14, 35)] ∈ GW ∧ (yL_trend.cls ≠ "java/lang/invoke/MethodHandle" ∧ yL_trend.cls ≠ "java/lang/invoke/VarHandle") ∧ (parseMethodDescriptor yL_trend.desc).map (fun d => d.parameters.length) = some 3 := ⟨gw_4_182, gw_1_0, gw_4_183, ⟨by decide, by decide⟩, by decide +kernel⟩
theorem c_L_trend {l : Launch} {D : va_G} {ca : Nat → Nat} {h : fH} {ρ : Nat → Nat → Nat} {μ : Nat → Nat → Int32} {cap : Nat → Nat} {σ : St} (hR : RX ca h ρ μ cap σ) (hI : InvX σ) (hcap : ∀ k, cap k ≤ 100) (p1 : Int32) {o : Nat} {g : Nat → Int64} (ho : h o = none) : FM l D ca yL_trend (.codeWith yL_trend cL_trend 4 (some .int) [(0, 8, 11, 13), (0, 8, 14, 35)]) { frames := 9, cells := 2, slots := 12, locals := 218 } [.ref (ρ 0 0), .int p1, .ref o] (un h (one o (oc ca g))) (fun v h2 => v = some (.int (lawK (X_trend_c σ p1) 1 0 2)) ∧ ∃ h2x, RA ca h2x (ρ 0 0) (X_trend_s σ p1) ∧ h2x o = none ∧ h2 = un h2x (one o (oc ca (if X_trend_c σ p1 = 0 then vp_updL g 0 (X_trend σ p1) else g)))) noX := by
  refine FM.ofH [some (.ref (ρ 0 0)), some (.int p1), some (.ref o), none] (by decide) (Nat.le_of_ble_eq_true rfl) rfl ?_
  rintro K X rfl rfl rfl
  refine J_aload_2 X dL_trend_0 ?_
  refine J_iconst (v := 0) X dL_trend_1 rfl ?_
  refine J_aload_0 X dL_trend_2 ?_
  refine J_iload_1 X dL_trend_3 ?_
  refine J_callV X ((c_X_trend hR hI p1).frame (apart_one (e := oc (kca K) g) ho)) (And.intro gw_4_184 cw_X10_trend) (un_l hR.root) rfl rfl rfl (Nat.le_of_ble_eq_true rfl) dL_trend_4 rfl (fun v h2 e => ?_) (fun E h2 e => ?_)
  · obtain ⟨hx, ⟨e1, e2, hRA⟩, hap, eh⟩ := e
    subst e1
    subst eh
    have ho2 : hx o = none := hap.sym o (by rw [one_same]; exact fun z => by cases z)
    show J K _ [some (.ref (ρ 0 0)), some (.int p1), some (.ref o), none] [.long (X_trend σ p1), .int 0, .ref o] 7 _ _
    refine J_last X (N := 1) (un_one ho2) vp01 dL_trend_7 ?_
    rw [fU_un_one ho2]
    refine J_goto (tgt := 17) X dL_trend_8 (by decide) ?_
    refine J_iconst (v := 0) X dL_trend_17 rfl ?_
    exact J_iret X rfl rfl ⟨by rw [e2]; rfl, hx, ⟨ρ, _, cap, hRA, rfl, hcap⟩, ho2, by rw [if_pos e2]; rfl⟩ dL_trend_18
  · obtain ⟨hx, ⟨eE, ec, hRA⟩, hap, eh⟩ := e
    subst eh
    have ho2 : hx o = none := hap.sym o (by rw [one_same]; exact fun z => by cases z)
    rcases C_trend (σ := σ) (p1 := p1) with z | z | z
    · exact absurd z ec
    · rw [z, xN_1] at eE
      subst eE
      refine J_catch X [] ⟨0, 8, 11, 13⟩ [⟨0, 8, 14, 35⟩] rfl (fun w hw => (by cases hw)) (by decide) (by decide) gw_2_41 (cst_in (i := 3) rfl) (fun q => ?_)
      refine J_astore_3 X dL_trend_11 rfl (by decide) ?_
      refine J_iconst (v := 1) X dL_trend_12 rfl ?_
      exact J_iret X rfl rfl ⟨by rw [z]; rfl, hx, ⟨ρ, _, cap, hRA, rfl, hcap⟩, ho2, by rw [if_neg ec]⟩ dL_trend_13
    · rw [z, xN_3] at eE
      subst eE
      refine J_catch X [⟨0, 8, 11, 13⟩] ⟨0, 8, 14, 35⟩ [] rfl (List.forall_mem_cons.mpr ⟨⟨by decide, _, gw_2_41, by decide⟩, (fun w hw => absurd hw List.not_mem_nil)⟩) (by decide) (by decide) gw_2_192 (cst_in (i := 11) rfl) (fun q => ?_)
      refine J_astore_3 X dL_trend_14 rfl (by decide) ?_
      refine J_iconst (v := 2) X dL_trend_15 rfl ?_
      exact J_iret X rfl rfl ⟨by rw [z]; rfl, hx, ⟨ρ, _, cap, hRA, rfl, hcap⟩, ho2, by rw [if_neg ec]⟩ dL_trend_16
theorem C_trails {σ : St} {p1 : Int32} {p2 : Int32} : X_trails_c σ p1 p2 = 0 ∨ X_trails_c σ p1 p2 = 2 := by
  unfold X_trails_c
  try simp only [X_glowFrom_L18_c_k, X_ground_L11_c_k, X_culprit_L14_c_k, X_trails_L21_c_k, insX_c, psX_c, audX_c, plan_c, way_c]
  (repeat' split) <;> decide
theorem cw_L_trails : Cond.static yL_trails ∈ GW ∧ Cond.initialized yL_trails.cls ∈ GW ∧ Cond.codeWith yL_trails cL_trails 5 (some .int) [(0, 10, 13, 23)] ∈ GW ∧ (yL_trails.cls ≠ "java/lang/invoke/MethodHandle" ∧ yL_trails.cls ≠ "java/lang/invoke/VarHandle") ∧ (parseMethodDescriptor yL_trails.desc).map (fun d => d.parameters.length) = some 4 := ⟨gw_4_196, gw_1_0, gw_4_197, ⟨by decide, by decide⟩, by decide +kernel⟩
theorem c_L_trails {l : Launch} {D : va_G} {ca : Nat → Nat} {h : fH} {ρ : Nat → Nat → Nat} {μ : Nat → Nat → Int32} {cap : Nat → Nat} {σ : St} (hR : RX ca h ρ μ cap σ) (hI : InvX σ) (hcap : ∀ k, cap k ≤ 100) (p1 : Int32) (p2 : Int32) {o : Nat} {g : Nat → Int64} (ho : h o = none) : FM l D ca yL_trails (.codeWith yL_trails cL_trails 5 (some .int) [(0, 10, 13, 23)]) { frames := 8, cells := 2, slots := 12, locals := 149 } [.ref (ρ 0 0), .int p1, .int p2, .ref o] (un h (one o (oc ca g))) (fun v h2 => v = some (.int (lawK (X_trails_c σ p1 p2) 0 1 0)) ∧ ∃ h2x, RA ca h2x (ρ 0 0) (X_trails_s σ p1 p2) ∧ h2x o = none ∧ h2 = un h2x (one o (oc ca (if X_trails_c σ p1 p2 = 0 then vp_updL g 0 (X_trails σ p1 p2).toInt64 else g)))) noX := by
  refine FM.ofH [some (.ref (ρ 0 0)), some (.int p1), some (.int p2), some (.ref o), none] (by decide) (Nat.le_of_ble_eq_true rfl) rfl ?_
  rintro K X rfl rfl rfl
  refine J_aload_3 X dL_trails_0 ?_
  refine J_iconst (v := 0) X dL_trails_1 rfl ?_
  refine J_aload_0 X dL_trails_2 ?_
  refine J_iload_1 X dL_trails_3 ?_
  refine J_iload_2 X dL_trails_4 ?_
  refine J_callV X ((c_X_trails hR hI p1 p2).frame (apart_one (e := oc (kca K) g) ho)) (And.intro gw_4_198 cw_X10_trails) (un_l hR.root) rfl rfl rfl (Nat.le_of_ble_eq_true rfl) dL_trails_5 rfl (fun v h2 e => ?_) (fun E h2 e => ?_)
  · obtain ⟨hx, ⟨e1, e2, hRA⟩, hap, eh⟩ := e
    subst e1
    subst eh
    have ho2 : hx o = none := hap.sym o (by rw [one_same]; exact fun z => by cases z)
    show J K _ [some (.ref (ρ 0 0)), some (.int p1), some (.int p2), some (.ref o), none] [.int (X_trails σ p1 p2), .int 0, .ref o] 8 _ _
    refine J_i2l X dL_trails_8 ?_
    refine J_last X (N := 1) (un_one ho2) vp01 dL_trails_9 ?_
    rw [fU_un_one ho2]
    refine J_goto (tgt := 17) X dL_trails_10 (by decide) ?_
    refine J_iconst (v := 0) X dL_trails_17 rfl ?_
    exact J_iret X rfl rfl ⟨by rw [e2]; rfl, hx, ⟨ρ, _, cap, hRA, rfl, hcap⟩, ho2, by rw [if_pos e2]; rfl⟩ dL_trails_18
  · obtain ⟨hx, ⟨eE, ec, hRA⟩, hap, eh⟩ := e
    subst eh
    have ho2 : hx o = none := hap.sym o (by rw [one_same]; exact fun z => by cases z)
    rcases C_trails (σ := σ) (p1 := p1) (p2 := p2) with z | z
    · exact absurd z ec
    · rw [z, xN_2] at eE
      subst eE
      refine J_catch X [] ⟨0, 10, 13, 23⟩ [] rfl (fun w hw => (by cases hw)) (by decide) (by decide) gw_2_148 (cst_in (i := 10) rfl) (fun q => ?_)
      refine J_astore_4 X dL_trails_13 rfl (by decide) ?_
      refine J_iconst (v := 1) X dL_trails_15 rfl ?_
      exact J_iret X rfl rfl ⟨by rw [z]; rfl, hx, ⟨ρ, _, cap, hRA, rfl, hcap⟩, ho2, by rw [if_neg ec]⟩ dL_trails_16
theorem C_culprit {σ : St} {p1 : Int32} : X_culprit_c σ p1 = 0 ∨ X_culprit_c σ p1 = 1 := by
  unfold X_culprit_c
  try simp only [X_glowFrom_L18_c_k, X_ground_L11_c_k, X_culprit_L14_c_k, X_trails_L21_c_k, insX_c, psX_c, audX_c, plan_c, way_c]
  (repeat' split) <;> decide
theorem cw_L_culprit : Cond.static yL_culprit ∈ GW ∧ Cond.initialized yL_culprit.cls ∈ GW ∧ Cond.codeWith yL_culprit cL_culprit 4 (some .int) [(0, 9, 12, 13)] ∈ GW ∧ (yL_culprit.cls ≠ "java/lang/invoke/MethodHandle" ∧ yL_culprit.cls ≠ "java/lang/invoke/VarHandle") ∧ (parseMethodDescriptor yL_culprit.desc).map (fun d => d.parameters.length) = some 3 := ⟨gw_4_211, gw_1_0, gw_4_212, ⟨by decide, by decide⟩, by decide +kernel⟩
theorem c_L_culprit {l : Launch} {D : va_G} {ca : Nat → Nat} {h : fH} {ρ : Nat → Nat → Nat} {μ : Nat → Nat → Int32} {cap : Nat → Nat} {σ : St} (hR : RX ca h ρ μ cap σ) (hI : InvX σ) (hcap : ∀ k, cap k ≤ 100) (p1 : Int32) {o : Nat} {g : Nat → Int64} (ho : h o = none) : FM l D ca yL_culprit (.codeWith yL_culprit cL_culprit 4 (some .int) [(0, 9, 12, 13)]) { frames := 9, cells := 1, slots := 6, locals := 174 } [.ref (ρ 0 0), .int p1, .ref o] (un h (one o (oc ca g))) (fun v h2 => v = some (.int (lawK (X_culprit_c σ p1) 1 0 0)) ∧ ∃ h2x, RA ca h2x (ρ 0 0) (X_culprit_s σ p1) ∧ h2x o = none ∧ h2 = un h2x (one o (oc ca (if X_culprit_c σ p1 = 0 then vp_updL g 0 (X_culprit σ p1).toInt64 else g)))) noX := by
  refine FM.ofH [some (.ref (ρ 0 0)), some (.int p1), some (.ref o), none] (by decide) (Nat.le_of_ble_eq_true rfl) rfl ?_
  rintro K X rfl rfl rfl
  refine J_aload_2 X dL_culprit_0 ?_
  refine J_iconst (v := 0) X dL_culprit_1 rfl ?_
  refine J_aload_0 X dL_culprit_2 ?_
  refine J_iload_1 X dL_culprit_3 ?_
  refine J_callV X ((c_X_culprit hR hI p1).frame (apart_one (e := oc (kca K) g) ho)) (And.intro gw_4_213 cw_X10_culprit) (un_l hR.root) rfl rfl rfl (Nat.le_of_ble_eq_true rfl) dL_culprit_4 rfl (fun v h2 e => ?_) (fun E h2 e => ?_)
  · obtain ⟨hx, ⟨e1, e2, hRA⟩, hap, eh⟩ := e
    subst e1
    subst eh
    have ho2 : hx o = none := hap.sym o (by rw [one_same]; exact fun z => by cases z)
    show J K _ [some (.ref (ρ 0 0)), some (.int p1), some (.ref o), none] [.int (X_culprit σ p1), .int 0, .ref o] 7 _ _
    refine J_i2l X dL_culprit_7 ?_
    refine J_last X (N := 1) (un_one ho2) vp01 dL_culprit_8 ?_
    rw [fU_un_one ho2]
    refine J_goto (tgt := 15) X dL_culprit_9 (by decide) ?_
    refine J_iconst (v := 0) X dL_culprit_15 rfl ?_
    exact J_iret X rfl rfl ⟨by rw [e2]; rfl, hx, ⟨ρ, _, cap, hRA, rfl, hcap⟩, ho2, by rw [if_pos e2]; rfl⟩ dL_culprit_16
  · obtain ⟨hx, ⟨eE, ec, hRA⟩, hap, eh⟩ := e
    subst eh
    have ho2 : hx o = none := hap.sym o (by rw [one_same]; exact fun z => by cases z)
    rcases C_culprit (σ := σ) (p1 := p1) with z | z
    · exact absurd z ec
    · rw [z, xN_1] at eE
      subst eE
      refine J_catch X [] ⟨0, 9, 12, 13⟩ [] rfl (fun w hw => (by cases hw)) (by decide) (by decide) gw_2_41 (cst_in (i := 3) rfl) (fun q => ?_)
      refine J_astore_3 X dL_culprit_12 rfl (by decide) ?_
      refine J_iconst (v := 1) X dL_culprit_13 rfl ?_
      exact J_iret X rfl rfl ⟨by rw [z]; rfl, hx, ⟨ρ, _, cap, hRA, rfl, hcap⟩, ho2, by rw [if_neg ec]⟩ dL_culprit_14
theorem C_plan {σ μ : St} {p1 : Int32} {p2 : Int32} {p3 : Int32} : X_plan_c σ μ p1 p2 p3 = 0 ∨ X_plan_c σ μ p1 p2 p3 = 1 ∨ X_plan_c σ μ p1 p2 p3 = 2 := by
  unfold X_plan_c
  try simp only [X_glowFrom_L18_c_k, X_ground_L11_c_k, X_culprit_L14_c_k, X_trails_L21_c_k, insX_c, psX_c, audX_c, plan_c, way_c]
  (repeat' split) <;> decide
theorem cw_L_plan : Cond.static yL_plan ∈ GW ∧ Cond.initialized yL_plan.cls ∈ GW ∧ Cond.codeWith yL_plan cL_plan 6 (some .int) [(0, 12, 15, 13), (0, 12, 19, 23)] ∈ GW ∧ (yL_plan.cls ≠ "java/lang/invoke/MethodHandle" ∧ yL_plan.cls ≠ "java/lang/invoke/VarHandle") ∧ (parseMethodDescriptor yL_plan.desc).map (fun d => d.parameters.length) = some 5 := ⟨gw_4_218, gw_1_0, gw_4_219, ⟨by decide, by decide⟩, by decide +kernel⟩
theorem c_L_plan {l : Launch} {D : va_G} {ca : Nat → Nat} {h : fH} {ρ : Nat → Nat → Nat} {μ : St} {cap : Nat → Nat} {σ : St} (hR : RX ca h ρ μ cap σ) (hI : InvX σ) (hcap : ∀ k, cap k ≤ 100) (p1 : Int32) (p2 : Int32) (p3 : Int32) {o : Nat} {g : Nat → Int64} (ho : h o = none) : FM l D ca yL_plan (.codeWith yL_plan cL_plan 6 (some .int) [(0, 12, 15, 13), (0, 12, 19, 23)]) { frames := 9, cells := 3, slots := 18, locals := 176 } [.ref (ρ 0 0), .int p1, .int p2, .int p3, .ref o] (un h (one o (oc ca g))) (fun v h2 => v = some (.int (lawK (X_plan_c σ μ p1 p2 p3) 1 2 0)) ∧ ∃ h2x, RA ca h2x (ρ 0 0) (σ) ∧ h2x o = none ∧ h2 = un h2x (one o (oc ca (if X_plan_c σ μ p1 p2 p3 = 0 then vp_updL g 0 (X_plan σ μ p1 p2 p3).toInt64 else g)))) noX := by
  refine FM.ofH [some (.ref (ρ 0 0)), some (.int p1), some (.int p2), some (.int p3), some (.ref o), none] (by decide) (Nat.le_of_ble_eq_true rfl) rfl ?_
  rintro K X rfl rfl rfl
  refine J_aload_4 X dL_plan_0 ?_
  refine J_iconst (v := 0) X dL_plan_2 rfl ?_
  refine J_aload_0 X dL_plan_3 ?_
  refine J_iload_1 X dL_plan_4 ?_
  refine J_iload_2 X dL_plan_5 ?_
  refine J_iload_3 X dL_plan_6 ?_
  refine J_callV X ((c_X_plan hR hI p1 p2 p3).frame (apart_one (e := oc (kca K) g) ho)) (And.intro gw_4_220 cw_X10_plan) (un_l hR.root) rfl rfl rfl (Nat.le_of_ble_eq_true rfl) dL_plan_7 rfl (fun v h2 e => ?_) (fun E h2 e => ?_)
  · obtain ⟨hx, ⟨e1, e2, hRA⟩, hap, eh⟩ := e
    subst e1
    subst eh
    have ho2 : hx o = none := hap.sym o (by rw [one_same]; exact fun z => by cases z)
    show J K _ [some (.ref (ρ 0 0)), some (.int p1), some (.int p2), some (.int p3), some (.ref o), none] [.int (X_plan σ μ p1 p2 p3), .int 0, .ref o] 10 _ _
    refine J_i2l X dL_plan_10 ?_
    refine J_last X (N := 1) (un_one ho2) vp01 dL_plan_11 ?_
    rw [fU_un_one ho2]
    refine J_goto (tgt := 23) X dL_plan_12 (by decide) ?_
    refine J_iconst (v := 0) X dL_plan_23 rfl ?_
    exact J_iret X rfl rfl ⟨by rw [e2]; rfl, hx, ⟨ρ, _, cap, hRA, rfl, hcap⟩, ho2, by rw [if_pos e2]; rfl⟩ dL_plan_24
  · obtain ⟨hx, ⟨eE, ec, hRA⟩, hap, eh⟩ := e
    subst eh
    have ho2 : hx o = none := hap.sym o (by rw [one_same]; exact fun z => by cases z)
    rcases C_plan (σ := σ) (μ := μ) (p1 := p1) (p2 := p2) (p3 := p3) with z | z | z
    · exact absurd z ec
    · rw [z, xN_1] at eE
      subst eE
      refine J_catch X [] ⟨0, 12, 15, 13⟩ [⟨0, 12, 19, 23⟩] rfl (fun w hw => (by cases hw)) (by decide) (by decide) gw_2_41 (cst_in (i := 3) rfl) (fun q => ?_)
      refine J_astore_5 X dL_plan_15 rfl (by decide) ?_
      refine J_iconst (v := 1) X dL_plan_17 rfl ?_
      exact J_iret X rfl rfl ⟨by rw [z]; rfl, hx, ⟨ρ, _, cap, hRA, rfl, hcap⟩, ho2, by rw [if_neg ec]⟩ dL_plan_18
    · rw [z, xN_2] at eE
      subst eE
      refine J_catch X [⟨0, 12, 15, 13⟩] ⟨0, 12, 19, 23⟩ [] rfl (List.forall_mem_cons.mpr ⟨⟨by decide, _, gw_2_41, by decide⟩, (fun w hw => absurd hw List.not_mem_nil)⟩) (by decide) (by decide) gw_2_148 (cst_in (i := 10) rfl) (fun q => ?_)
      refine J_astore_5 X dL_plan_19 rfl (by decide) ?_
      refine J_iconst (v := 2) X dL_plan_21 rfl ?_
      exact J_iret X rfl rfl ⟨by rw [z]; rfl, hx, ⟨ρ, _, cap, hRA, rfl, hcap⟩, ho2, by rw [if_neg ec]⟩ dL_plan_22
end
