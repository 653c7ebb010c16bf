noncomputable section
theorem S_time {σ : St} (hI : InvX σ) (hO : InvO σ) : sEq σ (M_time_s σ) := by
  have q := K_time hI hO
  by_cases c : (0 : Int32) = 0
  · have e := q.2.2.1 c
    exact fun k hk => (e k hk).symm
  · exact fun k hk => (q.2.2.2 c k hk).symm
theorem S_ofLamp {σ : St} (hI : InvX σ) (hO : InvO σ) (p1 : Int32) (p2 : Int32) : sEq σ (M_ofLamp_s σ p1 p2) := by
  have q := K_ofLamp hI hO p1 p2
  by_cases c : X_ofLamp_c σ p1 p2 = 0
  · have e := q.2.2.1 c
    rw [R_ofLamp] at e
    exact fun k hk => (e k hk).symm
  · exact fun k hk => (q.2.2.2 c k hk).symm
theorem S_ofVillage {σ : St} (hI : InvX σ) (hO : InvO σ) (p1 : Int32) (p2 : Int32) : sEq σ (M_ofVillage_s σ p1 p2) := by
  have q := K_ofVillage hI hO p1 p2
  by_cases c : X_ofVillage_c σ p1 p2 = 0
  · have e := q.2.2.1 c
    rw [R_ofVillage] at e
    exact fun k hk => (e k hk).symm
  · exact fun k hk => (q.2.2.2 c k hk).symm
theorem S_gives {σ : St} (hI : InvX σ) (hO : InvO σ) (p1 : Int32) (p2 : Int32) : sEq σ (M_gives_s σ p1 p2) := by
  have q := K_gives hI hO p1 p2
  by_cases c : X_gives_c σ p1 p2 = 0
  · have e := q.2.2.1 c
    rw [R_gives] at e
    exact fun k hk => (e k hk).symm
  · exact fun k hk => (q.2.2.2 c k hk).symm
theorem S_glow {σ : St} (hI : InvX σ) (hO : InvO σ) (p1 : Int32) : sEq σ (M_glow_s σ p1) := by
  have q := K_glow hI hO p1
  by_cases c : X_glow_c σ p1 = 0
  · have e := q.2.2.1 c
    rw [R_glow] at e
    exact fun k hk => (e k hk).symm
  · exact fun k hk => (q.2.2.2 c k hk).symm
theorem S_glowFrom {σ : St} (hI : InvX σ) (hO : InvO σ) (p1 : Int32) (p2 : Int32) : sEq σ (M_glowFrom_s σ p1 p2) := by
  have q := K_glowFrom hI hO p1 p2
  by_cases c : X_glowFrom_c σ p1 p2 = 0
  · have e := q.2.2.1 c
    rw [R_glowFrom] at e
    exact fun k hk => (e k hk).symm
  · exact fun k hk => (q.2.2.2 c k hk).symm
theorem S_ground {σ : St} (hI : InvX σ) (hO : InvO σ) (p1 : Int32) : sEq σ (M_ground_s σ p1) := by
  have q := K_ground hI hO p1
  by_cases c : X_ground_c σ p1 = 0
  · have e := q.2.2.1 c
    rw [R_ground] at e
    exact fun k hk => (e k hk).symm
  · exact fun k hk => (q.2.2.2 c k hk).symm
theorem S_way {σ : St} (hI : InvX σ) (hO : InvO σ) (p1 : Int32) (p2 : Int32) (p3 : Int32) : sEq σ (M_way_s σ p1 p2 p3) := by
  have q := K_way hI hO (fun _ _ => 0) p1 p2 p3
  by_cases c : X_way_c σ (fun _ _ => 0) p1 p2 p3 = 0
  · have e := q.2.2.1 c
    exact fun k hk => (e k hk).symm
  · exact fun k hk => (q.2.2.2 c k hk).symm
theorem S_ofReading {σ : St} (hI : InvX σ) (hO : InvO σ) (p1 : Int32) (p2 : Int32) (p3 : Int32) : sEq σ (M_ofReading_s σ p1 p2 p3) := by
  have q := K_ofReading hI hO p1 p2 p3
  by_cases c : X_ofReading_c σ p1 p2 p3 = 0
  · have e := q.2.2.1 c
    rw [R_ofReading] at e
    exact fun k hk => (e k hk).symm
  · exact fun k hk => (q.2.2.2 c k hk).symm
theorem S_trend {σ : St} (hI : InvX σ) (hO : InvO σ) (p1 : Int32) : sEq σ (M_trend_s σ p1) := by
  have q := K_trend hI hO p1
  by_cases c : X_trend_c σ p1 = 0
  · have e := q.2.2.1 c
    rw [R_trend] at e
    exact fun k hk => (e k hk).symm
  · exact fun k hk => (q.2.2.2 c k hk).symm
theorem S_isHeld {σ : St} (hI : InvX σ) (hO : InvO σ) : sEq σ (M_isHeld_s σ) := by
  have q := K_isHeld hI hO
  by_cases c : (0 : Int32) = 0
  · have e := q.2.2.1 c
    exact fun k hk => (e k hk).symm
  · exact fun k hk => (q.2.2.2 c k hk).symm
theorem S_culprit {σ : St} (hI : InvX σ) (hO : InvO σ) (p1 : Int32) : sEq σ (M_culprit_s σ p1) := by
  have q := K_culprit hI hO p1
  by_cases c : X_culprit_c σ p1 = 0
  · have e := q.2.2.1 c
    rw [R_culprit] at e
    exact fun k hk => (e k hk).symm
  · exact fun k hk => (q.2.2.2 c k hk).symm
theorem S_plan {σ : St} (hI : InvX σ) (hO : InvO σ) (p1 : Int32) (p2 : Int32) (p3 : Int32) : sEq σ (M_plan_s σ p1 p2 p3) := by
  have q := K_plan hI hO (fun _ _ => 0) p1 p2 p3
  by_cases c : X_plan_c σ (fun _ _ => 0) p1 p2 p3 = 0
  · have e := q.2.2.1 c
    exact fun k hk => (e k hk).symm
  · exact fun k hk => (q.2.2.2 c k hk).symm
theorem cw_L_ruled : Cond.static yL_ruled ∈ GW ∧ Cond.initialized yL_ruled.cls ∈ GW ∧ Cond.code yL_ruled cL_ruled 5 (some .int) ∈ GW ∧ (yL_ruled.cls ≠ "java/lang/invoke/MethodHandle" ∧ yL_ruled.cls ≠ "java/lang/invoke/VarHandle") ∧ (parseMethodDescriptor yL_ruled.desc).map (fun d => d.parameters.length) = some 5 := ⟨gw_2_192, gw_1_0, gw_2_193, ⟨by decide, by decide⟩, by decide +kernel⟩
theorem c_R_ruled {l : Launch} {D : va_G} {ca : Nat → Nat} {h : fH} {r : Nat} {σ : St} (hX : RA ca h r σ) (hI : InvX σ) (hO : InvO σ) (p1 : Int32) (p2 : Int32) (p3 : Int32) (p4 : Int32) : FM l D ca yL_ruled (.code yL_ruled cL_ruled 5 (some .int)) { frames := 9, cells := 4, slots := 24, locals := 172 } [.ref r, .int p1, .int p2, .int p3, .int p4] h (pPub (some (.int 0)) (M_law_s σ p1 p2 p3 p4 41 0) (fun h2 => RA ca h2 r (M_law_s σ p1 p2 p3 p4))) (fun E h2 => RA ca h2 r (M_law_s σ p1 p2 p3 p4) ∧ ((E = xIO ∧ M_law_s σ p1 p2 p3 p4 41 0 = 1) ∨ (E = xIA ∧ M_law_s σ p1 p2 p3 p4 41 0 = 2))) := by
  refine FM.of [some (.ref r), some (.int p1), some (.int p2), some (.int p3), some (.int p4)] (by decide) (Nat.le_of_ble_eq_true rfl) rfl ?_
  rintro K X rfl rfl rfl
  obtain ⟨vs, hroot⟩ := RA.root hX
  refine J_aload_0 X dL_ruled_0 ?_
  refine J_iload_1 X dL_ruled_1 ?_
  refine J_iload_2 X dL_ruled_2 ?_
  refine J_iload_3 X dL_ruled_3 ?_
  refine J_iload_4 X dL_ruled_4 ?_
  refine J_callV X (c_R_law hX hI hO p1 p2 p3 p4) (And.intro gw_2_194 cw_X10_law) hroot rfl rfl rfl (Nat.le_of_ble_eq_true rfl) dL_ruled_6 rfl (fun v h2 e => ?_) (fun E h2 e => ?_)
  · obtain ⟨e1, e2, e3⟩ := e
    subst e1
    refine J_iconst (v := 0) X dL_ruled_9 rfl ?_
    exact J_iret X rfl rfl ⟨rfl, e2, e3⟩ dL_ruled_10
  · exact JE_out X rfl rfl e
theorem cw_L_timed : Cond.static yL_timed ∈ GW ∧ Cond.initialized yL_timed.cls ∈ GW ∧ Cond.code yL_timed cL_timed 4 (some .int) ∈ GW ∧ (yL_timed.cls ≠ "java/lang/invoke/MethodHandle" ∧ yL_timed.cls ≠ "java/lang/invoke/VarHandle") ∧ (parseMethodDescriptor yL_timed.desc).map (fun d => d.parameters.length) = some 4 := ⟨gw_3_102, gw_1_0, gw_3_103, ⟨by decide, by decide⟩, by decide +kernel⟩
theorem c_R_timed {l : Launch} {D : va_G} {ca : Nat → Nat} {h : fH} {r : Nat} {σ : St} (hX : RA ca h r σ) (hI : InvX σ) (hO : InvO σ) (p1 : Int32) (p2 : Int32) (p3 : Int32) : FM l D ca yL_timed (.code yL_timed cL_timed 4 (some .int)) { frames := 9, cells := 4, slots := 24, locals := 170 } [.ref r, .int p1, .int p2, .int p3] h (pPub (some (.int 0)) (M_hours_s σ p1 p2 p3 41 0) (fun h2 => RA ca h2 r (M_hours_s σ p1 p2 p3))) (fun E h2 => RA ca h2 r (M_hours_s σ p1 p2 p3) ∧ ((E = xIO ∧ M_hours_s σ p1 p2 p3 41 0 = 1) ∨ (E = xIA ∧ M_hours_s σ p1 p2 p3 41 0 = 2) ∨ (E = xIS ∧ M_hours_s σ p1 p2 p3 41 0 = 3))) := by
  refine FM.of [some (.ref r), some (.int p1), some (.int p2), some (.int p3)] (by decide) (Nat.le_of_ble_eq_true rfl) rfl ?_
  rintro K X rfl rfl rfl
  obtain ⟨vs, hroot⟩ := RA.root hX
  refine J_aload_0 X dL_timed_0 ?_
  refine J_iload_1 X dL_timed_1 ?_
  refine J_iload_2 X dL_timed_2 ?_
  refine J_iload_3 X dL_timed_3 ?_
  refine J_callV X (c_R_hours hX hI hO p1 p2 p3) (And.intro gw_3_104 cw_X10_hours) hroot rfl rfl rfl (Nat.le_of_ble_eq_true rfl) dL_timed_4 rfl (fun v h2 e => ?_) (fun E h2 e => ?_)
  · obtain ⟨e1, e2, e3⟩ := e
    subst e1
    refine J_iconst (v := 0) X dL_timed_7 rfl ?_
    exact J_iret X rfl rfl ⟨rfl, e2, e3⟩ dL_timed_8
  · exact JE_out X rfl rfl e
theorem cw_L_does : Cond.static yL_does ∈ GW ∧ Cond.initialized yL_does.cls ∈ GW ∧ Cond.codeWith yL_does cL_does 8 (some .int) [(0, 291, 292, 75), (0, 291, 297, 78), (0, 291, 302, 81)] ∈ GW ∧ (yL_does.cls ≠ "java/lang/invoke/MethodHandle" ∧ yL_does.cls ≠ "java/lang/invoke/VarHandle") ∧ (parseMethodDescriptor yL_does.desc).map (fun d => d.parameters.length) = some 7 := ⟨gw_2_178, gw_1_0, gw_2_179, ⟨by decide, by decide⟩, by decide +kernel⟩
/-- what the law sees of zone -/
def DV_0 (σ : St) (p1 : Int32) (p2 : Int32) : Int32 := if M_zone_s σ p1 p2 41 0 = 0 then M_zone σ p1 p2 else -3000000
set_option maxHeartbeats 1000000 in
theorem c_D_0 {l : Launch} {D : va_G} {ca : Nat → Nat} {h : fH} {r : Nat} {σ : St} (hX : RA ca h r σ) (hI : InvX σ) (hO : InvO σ) (p1 p2 q3 q4 q5 : Int32) : FM l D ca yL_does (.codeWith yL_does cL_does 8 (some .int) [(0, 291, 292, 75), (0, 291, 297, 78), (0, 291, 302, 81)]) { frames := 9, cells := 2, slots := 12, locals := 172 } [.ref r, .int (0 : Int32), .int p1, .int p2, .int q3, .int q4, .int q5] h (fun v h2 => v = some (.int (DV_0 σ p1 p2)) ∧ RA ca h2 r (M_zone_s σ p1 p2)) noX := by
  refine FM.ofH [some (.ref r), some (.int (0 : Int32)), some (.int p1), some (.int p2), some (.int q3), some (.int q4), some (.int q5), none] (by decide) (Nat.le_of_ble_eq_true rfl) rfl ?_
  rintro K X rfl rfl rfl
  obtain ⟨vs, hroot⟩ := RA.root hX
  refine J_iload_1 X dL_does_0 ?_
  refine J_if_ne (tgt := 13) X dL_does_1 (by decide) (fun c => absurd (by decide) c) (fun _ => ?_)
  refine J_aload_0 X dL_does_4 ?_
  refine J_iload_2 X dL_does_5 ?_
  refine J_iload_3 X dL_does_6 ?_
  refine J_callV X (c_R_zone hX hI hO p1 p2) (And.intro gw_2_183 cw_X10_zone) hroot rfl rfl rfl (Nat.le_of_ble_eq_true rfl) dL_does_7 rfl (fun v h2 e => ?_) (fun E h2 e => ?_)
  · obtain ⟨e1, e2, e3⟩ := e
    subst e1
    show J K h2 [some (.ref r), some (.int (0 : Int32)), some (.int p1), some (.int p2), some (.int q3), some (.int q4), some (.int q5), none] [.int (M_zone σ p1 p2)] 10 2 12
    refine J_goto (tgt := 291) X dL_does_10 (by decide) ?_
    exact J_iret X rfl rfl ⟨by unfold DV_0; rw [if_pos e2], e3⟩ dL_does_291
  · obtain ⟨e3, e⟩ := e
    obtain ⟨eE, et⟩ := e
    subst eE
    refine J_catch X [] ⟨0, 291, 292, 75⟩ [⟨0, 291, 297, 78⟩, ⟨0, 291, 302, 81⟩] rfl (fun w hw => absurd hw List.not_mem_nil) (by decide) (by decide) gw_2_180 (cst_in (i := 3) rfl) (fun q => ?_)
    refine J_astore_7 X dL_does_292 rfl (by decide) ?_
    refine J_ldc (v := (-3000000 : Int32)) X dL_does_294 gw_4_72 ?_
    exact J_iret X rfl rfl ⟨by unfold DV_0; rw [et]; rfl, e3⟩ dL_does_296
/-- what the law sees of law -/
def DV_1 (σ : St) (p1 : Int32) (p2 : Int32) (p3 : Int32) (p4 : Int32) : Int32 := if M_law_s σ p1 p2 p3 p4 41 0 = 0 then 0 else if M_law_s σ p1 p2 p3 p4 41 0 = 1 then -3000000 else -2000000
set_option maxHeartbeats 1000000 in
theorem c_D_1 {l : Launch} {D : va_G} {ca : Nat → Nat} {h : fH} {r : Nat} {σ : St} (hX : RA ca h r σ) (hI : InvX σ) (hO : InvO σ) (p1 p2 p3 p4 q5 : Int32) : FM l D ca yL_does (.codeWith yL_does cL_does 8 (some .int) [(0, 291, 292, 75), (0, 291, 297, 78), (0, 291, 302, 81)]) { frames := 10, cells := 4, slots := 24, locals := 196 } [.ref r, .int (1 : Int32), .int p1, .int p2, .int p3, .int p4, .int q5] h (fun v h2 => v = some (.int (DV_1 σ p1 p2 p3 p4)) ∧ RA ca h2 r (M_law_s σ p1 p2 p3 p4)) noX := by
  refine FM.ofH [some (.ref r), some (.int (1 : Int32)), some (.int p1), some (.int p2), some (.int p3), some (.int p4), some (.int q5), none] (by decide) (Nat.le_of_ble_eq_true rfl) rfl ?_
  rintro K X rfl rfl rfl
  obtain ⟨vs, hroot⟩ := RA.root hX
  refine J_iload_1 X dL_does_0 ?_
  refine J_if_ne (tgt := 13) X dL_does_1 (by decide) (fun _ => ?_) (fun c => absurd c (by decide))
  refine J_iload_1 X dL_does_13 ?_
  refine J_iconst (v := 1) X dL_does_14 rfl ?_
  refine J_icmp_ne (tgt := 31) X dL_does_15 (by decide) (fun c => absurd (by decide) c) (fun _ => ?_)
  refine J_aload_0 X dL_does_18 ?_
  refine J_iload_2 X dL_does_19 ?_
  refine J_iload_3 X dL_does_20 ?_
  refine J_iload_4 X dL_does_21 ?_
  refine J_iload_5 X dL_does_23 ?_
  refine J_callS X (c_R_ruled hX hI hO p1 p2 p3 p4) (And.intro gw_2_191 cw_L_ruled) rfl rfl (Nat.le_of_ble_eq_true rfl) dL_does_25 rfl (fun v h2 e => ?_) (fun E h2 e => ?_)
  · obtain ⟨e1, e2, e3⟩ := e
    subst e1
    show J K h2 [some (.ref r), some (.int (1 : Int32)), some (.int p1), some (.int p2), some (.int p3), some (.int p4), some (.int q5), none] [.int 0] 28 4 24
    refine J_goto (tgt := 291) X dL_does_28 (by decide) ?_
    exact J_iret X rfl rfl ⟨by unfold DV_1; rw [if_pos e2], e3⟩ dL_does_291
  · obtain ⟨e3, e⟩ := e
    rcases e with e | e
    · obtain ⟨eE, et⟩ := e
      subst eE
      refine J_catch X [] ⟨0, 291, 292, 75⟩ [⟨0, 291, 297, 78⟩, ⟨0, 291, 302, 81⟩] rfl (fun w hw => absurd hw List.not_mem_nil) (by decide) (by decide) gw_2_180 (cst_in (i := 3) rfl) (fun q => ?_)
      refine J_astore_7 X dL_does_292 rfl (by decide) ?_
      refine J_ldc (v := (-3000000 : Int32)) X dL_does_294 gw_4_72 ?_
      exact J_iret X rfl rfl ⟨by unfold DV_1; rw [et]; rfl, e3⟩ dL_does_296
    · obtain ⟨eE, et⟩ := e
      subst eE
      refine J_catch X [⟨0, 291, 292, 75⟩] ⟨0, 291, 297, 78⟩ [⟨0, 291, 302, 81⟩] rfl (List.forall_mem_cons.mpr ⟨⟨by decide, _, gw_2_180, by decide⟩, (fun w hw => absurd hw List.not_mem_nil)⟩) (by decide) (by decide) gw_2_181 (cst_in (i := 10) rfl) (fun q => ?_)
      refine J_astore_7 X dL_does_297 rfl (by decide) ?_
      refine J_ldc (v := (-2000000 : Int32)) X dL_does_299 gw_4_73 ?_
      exact J_iret X rfl rfl ⟨by unfold DV_1; rw [et]; rfl, e3⟩ dL_does_301
/-- what the law sees of feast -/
def DV_2 (σ : St) (p1 : Int32) (p2 : Int32) : Int32 := if M_feast_s σ p1 p2 41 0 = 0 then M_feast σ p1 p2 else if M_feast_s σ p1 p2 41 0 = 1 then -3000000 else -2000000
set_option maxHeartbeats 1000000 in
theorem c_D_2 {l : Launch} {D : va_G} {ca : Nat → Nat} {h : fH} {r : Nat} {σ : St} (hX : RA ca h r σ) (hI : InvX σ) (hO : InvO σ) (p1 p2 q3 q4 q5 : Int32) : FM l D ca yL_does (.codeWith yL_does cL_does 8 (some .int) [(0, 291, 292, 75), (0, 291, 297, 78), (0, 291, 302, 81)]) { frames := 9, cells := 2, slots := 12, locals := 168 } [.ref r, .int (2 : Int32), .int p1, .int p2, .int q3, .int q4, .int q5] h (fun v h2 => v = some (.int (DV_2 σ p1 p2)) ∧ RA ca h2 r (M_feast_s σ p1 p2)) noX := by
  refine FM.ofH [some (.ref r), some (.int (2 : Int32)), some (.int p1), some (.int p2), some (.int q3), some (.int q4), some (.int q5), none] (by decide) (Nat.le_of_ble_eq_true rfl) rfl ?_
  rintro K X rfl rfl rfl
  obtain ⟨vs, hroot⟩ := RA.root hX
  refine J_iload_1 X dL_does_0 ?_
  refine J_if_ne (tgt := 13) X dL_does_1 (by decide) (fun _ => ?_) (fun c => absurd c (by decide))
  refine J_iload_1 X dL_does_13 ?_
  refine J_iconst (v := 1) X dL_does_14 rfl ?_
  refine J_icmp_ne (tgt := 31) X dL_does_15 (by decide) (fun _ => ?_) (fun c => absurd c (by decide))
  refine J_iload_1 X dL_does_31 ?_
  refine J_iconst (v := 2) X dL_does_32 rfl ?_
  refine J_icmp_ne (tgt := 45) X dL_does_33 (by decide) (fun c => absurd (by decide) c) (fun _ => ?_)
  refine J_aload_0 X dL_does_36 ?_
  refine J_iload_2 X dL_does_37 ?_
  refine J_iload_3 X dL_does_38 ?_
  refine J_callV X (c_R_feast hX hI hO p1 p2) (And.intro gw_2_216 cw_X10_feast) hroot rfl rfl rfl (Nat.le_of_ble_eq_true rfl) dL_does_39 rfl (fun v h2 e => ?_) (fun E h2 e => ?_)
  · obtain ⟨e1, e2, e3⟩ := e
    subst e1
    show J K h2 [some (.ref r), some (.int (2 : Int32)), some (.int p1), some (.int p2), some (.int q3), some (.int q4), some (.int q5), none] [.int (M_feast σ p1 p2)] 42 2 12
    refine J_goto (tgt := 291) X dL_does_42 (by decide) ?_
    exact J_iret X rfl rfl ⟨by unfold DV_2; rw [if_pos e2], e3⟩ dL_does_291
  · obtain ⟨e3, e⟩ := e
    rcases e with e | e
    · obtain ⟨eE, et⟩ := e
      subst eE
      refine J_catch X [] ⟨0, 291, 292, 75⟩ [⟨0, 291, 297, 78⟩, ⟨0, 291, 302, 81⟩] rfl (fun w hw => absurd hw List.not_mem_nil) (by decide) (by decide) gw_2_180 (cst_in (i := 3) rfl) (fun q => ?_)
      refine J_astore_7 X dL_does_292 rfl (by decide) ?_
      refine J_ldc (v := (-3000000 : Int32)) X dL_does_294 gw_4_72 ?_
      exact J_iret X rfl rfl ⟨by unfold DV_2; rw [et]; rfl, e3⟩ dL_does_296
    · obtain ⟨eE, et⟩ := e
      subst eE
      refine J_catch X [⟨0, 291, 292, 75⟩] ⟨0, 291, 297, 78⟩ [⟨0, 291, 302, 81⟩] rfl (List.forall_mem_cons.mpr ⟨⟨by decide, _, gw_2_180, by decide⟩, (fun w hw => absurd hw List.not_mem_nil)⟩) (by decide) (by decide) gw_2_181 (cst_in (i := 10) rfl) (fun q => ?_)
      refine J_astore_7 X dL_does_297 rfl (by decide) ?_
      refine J_ldc (v := (-2000000 : Int32)) X dL_does_299 gw_4_73 ?_
      exact J_iret X rfl rfl ⟨by unfold DV_2; rw [et]; rfl, e3⟩ dL_does_301
/-- what the law sees of air -/
def DV_3 (σ : St) (p1 : Int32) : Int32 := if M_air_s σ p1 41 0 = 0 then M_air σ p1 else -2000000
set_option maxHeartbeats 1000000 in
theorem c_D_3 {l : Launch} {D : va_G} {ca : Nat → Nat} {h : fH} {r : Nat} {σ : St} (hX : RA ca h r σ) (hI : InvX σ) (hO : InvO σ) (p1 q2 q3 q4 q5 : Int32) : FM l D ca yL_does (.codeWith yL_does cL_does 8 (some .int) [(0, 291, 292, 75), (0, 291, 297, 78), (0, 291, 302, 81)]) { frames := 8, cells := 1, slots := 6, locals := 145 } [.ref r, .int (3 : Int32), .int p1, .int q2, .int q3, .int q4, .int q5] h (fun v h2 => v = some (.int (DV_3 σ p1)) ∧ RA ca h2 r (M_air_s σ p1)) noX := by
  refine FM.ofH [some (.ref r), some (.int (3 : Int32)), some (.int p1), some (.int q2), some (.int q3), some (.int q4), some (.int q5), none] (by decide) (Nat.le_of_ble_eq_true rfl) rfl ?_
  rintro K X rfl rfl rfl
  obtain ⟨vs, hroot⟩ := RA.root hX
  refine J_iload_1 X dL_does_0 ?_
  refine J_if_ne (tgt := 13) X dL_does_1 (by decide) (fun _ => ?_) (fun c => absurd c (by decide))
  refine J_iload_1 X dL_does_13 ?_
  refine J_iconst (v := 1) X dL_does_14 rfl ?_
  refine J_icmp_ne (tgt := 31) X dL_does_15 (by decide) (fun _ => ?_) (fun c => absurd c (by decide))
  refine J_iload_1 X dL_does_31 ?_
  refine J_iconst (v := 2) X dL_does_32 rfl ?_
  refine J_icmp_ne (tgt := 45) X dL_does_33 (by decide) (fun _ => ?_) (fun c => absurd c (by decide))
  refine J_iload_1 X dL_does_45 ?_
  refine J_iconst (v := 3) X dL_does_46 rfl ?_
  refine J_icmp_ne (tgt := 58) X dL_does_47 (by decide) (fun c => absurd (by decide) c) (fun _ => ?_)
  refine J_aload_0 X dL_does_50 ?_
  refine J_iload_2 X dL_does_51 ?_
  refine J_callV X (c_R_air hX hI hO p1) (And.intro gw_2_224 cw_X10_air) hroot rfl rfl rfl (Nat.le_of_ble_eq_true rfl) dL_does_52 rfl (fun v h2 e => ?_) (fun E h2 e => ?_)
  · obtain ⟨e1, e2, e3⟩ := e
    subst e1
    show J K h2 [some (.ref r), some (.int (3 : Int32)), some (.int p1), some (.int q2), some (.int q3), some (.int q4), some (.int q5), none] [.int (M_air σ p1)] 55 1 6
    refine J_goto (tgt := 291) X dL_does_55 (by decide) ?_
    exact J_iret X rfl rfl ⟨by unfold DV_3; rw [if_pos e2], e3⟩ dL_does_291
  · obtain ⟨e3, e⟩ := e
    obtain ⟨eE, et⟩ := e
    subst eE
    refine J_catch X [⟨0, 291, 292, 75⟩] ⟨0, 291, 297, 78⟩ [⟨0, 291, 302, 81⟩] rfl (List.forall_mem_cons.mpr ⟨⟨by decide, _, gw_2_180, by decide⟩, (fun w hw => absurd hw List.not_mem_nil)⟩) (by decide) (by decide) gw_2_181 (cst_in (i := 10) rfl) (fun q => ?_)
    refine J_astore_7 X dL_does_297 rfl (by decide) ?_
    refine J_ldc (v := (-2000000 : Int32)) X dL_does_299 gw_4_73 ?_
    exact J_iret X rfl rfl ⟨by unfold DV_3; rw [et]; rfl, e3⟩ dL_does_301
/-- what the law sees of pass -/
def DV_4 (σ : St) (p1 : Int32) : Int32 := if M_pass_s σ p1 41 0 = 0 then M_pass σ p1 else if M_pass_s σ p1 41 0 = 1 then -2000000 else -1000000
set_option maxHeartbeats 1000000 in
theorem c_D_4 {l : Launch} {D : va_G} {ca : Nat → Nat} {h : fH} {r : Nat} {σ : St} (hX : RA ca h r σ) (hI : InvX σ) (hO : InvO σ) (p1 q2 q3 q4 q5 : Int32) : FM l D ca yL_does (.codeWith yL_does cL_does 8 (some .int) [(0, 291, 292, 75), (0, 291, 297, 78), (0, 291, 302, 81)]) { frames := 8, cells := 2, slots := 12, locals := 145 } [.ref r, .int (4 : Int32), .int p1, .int q2, .int q3, .int q4, .int q5] h (fun v h2 => v = some (.int (DV_4 σ p1)) ∧ RA ca h2 r (M_pass_s σ p1)) noX := by
  refine FM.ofH [some (.ref r), some (.int (4 : Int32)), some (.int p1), some (.int q2), some (.int q3), some (.int q4), some (.int q5), none] (by decide) (Nat.le_of_ble_eq_true rfl) rfl ?_
  rintro K X rfl rfl rfl
  obtain ⟨vs, hroot⟩ := RA.root hX
  refine J_iload_1 X dL_does_0 ?_
  refine J_if_ne (tgt := 13) X dL_does_1 (by decide) (fun _ => ?_) (fun c => absurd c (by decide))
  refine J_iload_1 X dL_does_13 ?_
  refine J_iconst (v := 1) X dL_does_14 rfl ?_
  refine J_icmp_ne (tgt := 31) X dL_does_15 (by decide) (fun _ => ?_) (fun c => absurd c (by decide))
  refine J_iload_1 X dL_does_31 ?_
  refine J_iconst (v := 2) X dL_does_32 rfl ?_
  refine J_icmp_ne (tgt := 45) X dL_does_33 (by decide) (fun _ => ?_) (fun c => absurd c (by decide))
  refine J_iload_1 X dL_does_45 ?_
  refine J_iconst (v := 3) X dL_does_46 rfl ?_
  refine J_icmp_ne (tgt := 58) X dL_does_47 (by decide) (fun _ => ?_) (fun c => absurd c (by decide))
  refine J_iload_1 X dL_does_58 ?_
  refine J_iconst (v := 4) X dL_does_59 rfl ?_
  refine J_icmp_ne (tgt := 71) X dL_does_60 (by decide) (fun c => absurd (by decide) c) (fun _ => ?_)
  refine J_aload_0 X dL_does_63 ?_
  refine J_iload_2 X dL_does_64 ?_
  refine J_callV X (c_R_pass hX hI hO p1) (And.intro gw_2_228 cw_X10_pass) hroot rfl rfl rfl (Nat.le_of_ble_eq_true rfl) dL_does_65 rfl (fun v h2 e => ?_) (fun E h2 e => ?_)
  · obtain ⟨e1, e2, e3⟩ := e
    subst e1
    show J K h2 [some (.ref r), some (.int (4 : Int32)), some (.int p1), some (.int q2), some (.int q3), some (.int q4), some (.int q5), none] [.int (M_pass σ p1)] 68 2 12
    refine J_goto (tgt := 291) X dL_does_68 (by decide) ?_
    exact J_iret X rfl rfl ⟨by unfold DV_4; rw [if_pos e2], e3⟩ dL_does_291
  · obtain ⟨e3, e⟩ := e
    rcases e with e | e
    · obtain ⟨eE, et⟩ := e
      subst eE
      refine J_catch X [⟨0, 291, 292, 75⟩] ⟨0, 291, 297, 78⟩ [⟨0, 291, 302, 81⟩] rfl (List.forall_mem_cons.mpr ⟨⟨by decide, _, gw_2_180, by decide⟩, (fun w hw => absurd hw List.not_mem_nil)⟩) (by decide) (by decide) gw_2_181 (cst_in (i := 10) rfl) (fun q => ?_)
      refine J_astore_7 X dL_does_297 rfl (by decide) ?_
      refine J_ldc (v := (-2000000 : Int32)) X dL_does_299 gw_4_73 ?_
      exact J_iret X rfl rfl ⟨by unfold DV_4; rw [et]; rfl, e3⟩ dL_does_301
    · obtain ⟨eE, et⟩ := e
      subst eE
      refine J_catch X [⟨0, 291, 292, 75⟩, ⟨0, 291, 297, 78⟩] ⟨0, 291, 302, 81⟩ [] rfl (List.forall_mem_cons.mpr ⟨⟨by decide, _, gw_2_180, by decide⟩, (List.forall_mem_cons.mpr ⟨⟨by decide, _, gw_2_181, by decide⟩, (fun w hw => absurd hw List.not_mem_nil)⟩)⟩) (by decide) (by decide) gw_2_182 (cst_in (i := 11) rfl) (fun q => ?_)
      refine J_astore_7 X dL_does_302 rfl (by decide) ?_
      refine J_ldc (v := (-1000000 : Int32)) X dL_does_304 gw_4_74 ?_
      exact J_iret X rfl rfl ⟨by unfold DV_4; rw [et]; rfl, e3⟩ dL_does_306
/-- what the law sees of village -/
def DV_5 (σ : St) (p1 : Int32) (p2 : Int32) : Int32 := if M_village_s σ p1 p2 41 0 = 0 then M_village σ p1 p2 else if M_village_s σ p1 p2 41 0 = 1 then -2000000 else -1000000
set_option maxHeartbeats 1000000 in
theorem c_D_5 {l : Launch} {D : va_G} {ca : Nat → Nat} {h : fH} {r : Nat} {σ : St} (hX : RA ca h r σ) (hI : InvX σ) (hO : InvO σ) (p1 p2 q3 q4 q5 : Int32) : FM l D ca yL_does (.codeWith yL_does cL_does 8 (some .int) [(0, 291, 292, 75), (0, 291, 297, 78), (0, 291, 302, 81)]) { frames := 8, cells := 5, slots := 123, locals := 313 } [.ref r, .int (5 : Int32), .int p1, .int p2, .int q3, .int q4, .int q5] h (fun v h2 => v = some (.int (DV_5 σ p1 p2)) ∧ RA ca h2 r (M_village_s σ p1 p2)) noX := by
  refine FM.ofH [some (.ref r), some (.int (5 : Int32)), some (.int p1), some (.int p2), some (.int q3), some (.int q4), some (.int q5), none] (by decide) (Nat.le_of_ble_eq_true rfl) rfl ?_
  rintro K X rfl rfl rfl
  obtain ⟨vs, hroot⟩ := RA.root hX
  refine J_iload_1 X dL_does_0 ?_
  refine J_if_ne (tgt := 13) X dL_does_1 (by decide) (fun _ => ?_) (fun c => absurd c (by decide))
  refine J_iload_1 X dL_does_13 ?_
  refine J_iconst (v := 1) X dL_does_14 rfl ?_
  refine J_icmp_ne (tgt := 31) X dL_does_15 (by decide) (fun _ => ?_) (fun c => absurd c (by decide))
  refine J_iload_1 X dL_does_31 ?_
  refine J_iconst (v := 2) X dL_does_32 rfl ?_
  refine J_icmp_ne (tgt := 45) X dL_does_33 (by decide) (fun _ => ?_) (fun c => absurd c (by decide))
  refine J_iload_1 X dL_does_45 ?_
  refine J_iconst (v := 3) X dL_does_46 rfl ?_
  refine J_icmp_ne (tgt := 58) X dL_does_47 (by decide) (fun _ => ?_) (fun c => absurd c (by decide))
  refine J_iload_1 X dL_does_58 ?_
  refine J_iconst (v := 4) X dL_does_59 rfl ?_
  refine J_icmp_ne (tgt := 71) X dL_does_60 (by decide) (fun _ => ?_) (fun c => absurd c (by decide))
  refine J_iload_1 X dL_does_71 ?_
  refine J_iconst (v := 5) X dL_does_72 rfl ?_
  refine J_icmp_ne (tgt := 85) X dL_does_73 (by decide) (fun c => absurd (by decide) c) (fun _ => ?_)
  refine J_aload_0 X dL_does_76 ?_
  refine J_iload_2 X dL_does_77 ?_
  refine J_iload_3 X dL_does_78 ?_
  refine J_callV X (c_R_village hX hI hO p1 p2) (And.intro gw_3_14 cw_X10_village) hroot rfl rfl rfl (Nat.le_of_ble_eq_true rfl) dL_does_79 rfl (fun v h2 e => ?_) (fun E h2 e => ?_)
  · obtain ⟨e1, e2, e3⟩ := e
    subst e1
    show J K h2 [some (.ref r), some (.int (5 : Int32)), some (.int p1), some (.int p2), some (.int q3), some (.int q4), some (.int q5), none] [.int (M_village σ p1 p2)] 82 5 123
    refine J_goto (tgt := 291) X dL_does_82 (by decide) ?_
    exact J_iret X rfl rfl ⟨by unfold DV_5; rw [if_pos e2], e3⟩ dL_does_291
  · obtain ⟨e3, e⟩ := e
    rcases e with e | e
    · obtain ⟨eE, et⟩ := e
      subst eE
      refine J_catch X [⟨0, 291, 292, 75⟩] ⟨0, 291, 297, 78⟩ [⟨0, 291, 302, 81⟩] rfl (List.forall_mem_cons.mpr ⟨⟨by decide, _, gw_2_180, by decide⟩, (fun w hw => absurd hw List.not_mem_nil)⟩) (by decide) (by decide) gw_2_181 (cst_in (i := 10) rfl) (fun q => ?_)
      refine J_astore_7 X dL_does_297 rfl (by decide) ?_
      refine J_ldc (v := (-2000000 : Int32)) X dL_does_299 gw_4_73 ?_
      exact J_iret X rfl rfl ⟨by unfold DV_5; rw [et]; rfl, e3⟩ dL_does_301
    · obtain ⟨eE, et⟩ := e
      subst eE
      refine J_catch X [⟨0, 291, 292, 75⟩, ⟨0, 291, 297, 78⟩] ⟨0, 291, 302, 81⟩ [] rfl (List.forall_mem_cons.mpr ⟨⟨by decide, _, gw_2_180, by decide⟩, (List.forall_mem_cons.mpr ⟨⟨by decide, _, gw_2_181, by decide⟩, (fun w hw => absurd hw List.not_mem_nil)⟩)⟩) (by decide) (by decide) gw_2_182 (cst_in (i := 11) rfl) (fun q => ?_)
      refine J_astore_7 X dL_does_302 rfl (by decide) ?_
      refine J_ldc (v := (-1000000 : Int32)) X dL_does_304 gw_4_74 ?_
      exact J_iret X rfl rfl ⟨by unfold DV_5; rw [et]; rfl, e3⟩ dL_does_306
/-- what the law sees of lamp -/
def DV_6 (σ : St) (p1 : Int32) (p2 : Int32) (p3 : Int32) (p4 : Int32) (p5 : Int32) : Int32 := if M_lamp_s σ p1 p2 p3 p4 p5 41 0 = 0 then M_lamp σ p1 p2 p3 p4 p5 else if M_lamp_s σ p1 p2 p3 p4 p5 41 0 = 1 then -3000000 else if M_lamp_s σ p1 p2 p3 p4 p5 41 0 = 2 then -2000000 else -1000000
set_option maxHeartbeats 1000000 in
theorem c_D_6 {l : Launch} {D : va_G} {ca : Nat → Nat} {h : fH} {r : Nat} {σ : St} (hX : RA ca h r σ) (hI : InvX σ) (hO : InvO σ) (p1 p2 p3 p4 p5 : Int32) : FM l D ca yL_does (.codeWith yL_does cL_does 8 (some .int) [(0, 291, 292, 75), (0, 291, 297, 78), (0, 291, 302, 81)]) { frames := 9, cells := 8, slots := 148, locals := 318 } [.ref r, .int (6 : Int32), .int p1, .int p2, .int p3, .int p4, .int p5] h (fun v h2 => v = some (.int (DV_6 σ p1 p2 p3 p4 p5)) ∧ RA ca h2 r (M_lamp_s σ p1 p2 p3 p4 p5)) noX := by
  refine FM.ofH [some (.ref r), some (.int (6 : Int32)), some (.int p1), some (.int p2), some (.int p3), some (.int p4), some (.int p5), none] (by decide) (Nat.le_of_ble_eq_true rfl) rfl ?_
  rintro K X rfl rfl rfl
  obtain ⟨vs, hroot⟩ := RA.root hX
  refine J_iload_1 X dL_does_0 ?_
  refine J_if_ne (tgt := 13) X dL_does_1 (by decide) (fun _ => ?_) (fun c => absurd c (by decide))
  refine J_iload_1 X dL_does_13 ?_
  refine J_iconst (v := 1) X dL_does_14 rfl ?_
  refine J_icmp_ne (tgt := 31) X dL_does_15 (by decide) (fun _ => ?_) (fun c => absurd c (by decide))
  refine J_iload_1 X dL_does_31 ?_
  refine J_iconst (v := 2) X dL_does_32 rfl ?_
  refine J_icmp_ne (tgt := 45) X dL_does_33 (by decide) (fun _ => ?_) (fun c => absurd c (by decide))
  refine J_iload_1 X dL_does_45 ?_
  refine J_iconst (v := 3) X dL_does_46 rfl ?_
  refine J_icmp_ne (tgt := 58) X dL_does_47 (by decide) (fun _ => ?_) (fun c => absurd c (by decide))
  refine J_iload_1 X dL_does_58 ?_
  refine J_iconst (v := 4) X dL_does_59 rfl ?_
  refine J_icmp_ne (tgt := 71) X dL_does_60 (by decide) (fun _ => ?_) (fun c => absurd c (by decide))
  refine J_iload_1 X dL_does_71 ?_
  refine J_iconst (v := 5) X dL_does_72 rfl ?_
  refine J_icmp_ne (tgt := 85) X dL_does_73 (by decide) (fun _ => ?_) (fun c => absurd c (by decide))
  refine J_iload_1 X dL_does_85 ?_
  refine J_bipush (v := (6 : Int32)) X dL_does_86 (by decide) ?_
  refine J_icmp_ne (tgt := 106) X dL_does_88 (by decide) (fun c => absurd (by decide) c) (fun _ => ?_)
  refine J_aload_0 X dL_does_91 ?_
  refine J_iload_2 X dL_does_92 ?_
  refine J_iload_3 X dL_does_93 ?_
  refine J_iload_4 X dL_does_94 ?_
  refine J_iload_5 X dL_does_96 ?_
  refine J_iload_6 X dL_does_98 ?_
  refine J_callV X (c_R_lamp hX hI hO p1 p2 p3 p4 p5) (And.intro gw_3_43 cw_X10_lamp) hroot rfl rfl rfl (Nat.le_of_ble_eq_true rfl) dL_does_100 rfl (fun v h2 e => ?_) (fun E h2 e => ?_)
  · obtain ⟨e1, e2, e3⟩ := e
    subst e1
    show J K h2 [some (.ref r), some (.int (6 : Int32)), some (.int p1), some (.int p2), some (.int p3), some (.int p4), some (.int p5), none] [.int (M_lamp σ p1 p2 p3 p4 p5)] 103 8 148
    refine J_goto (tgt := 291) X dL_does_103 (by decide) ?_
    exact J_iret X rfl rfl ⟨by unfold DV_6; rw [if_pos e2], e3⟩ dL_does_291
  · obtain ⟨e3, e⟩ := e
    rcases e with e | e | e
    · obtain ⟨eE, et⟩ := e
      subst eE
      refine J_catch X [] ⟨0, 291, 292, 75⟩ [⟨0, 291, 297, 78⟩, ⟨0, 291, 302, 81⟩] rfl (fun w hw => absurd hw List.not_mem_nil) (by decide) (by decide) gw_2_180 (cst_in (i := 3) rfl) (fun q => ?_)
      refine J_astore_7 X dL_does_292 rfl (by decide) ?_
      refine J_ldc (v := (-3000000 : Int32)) X dL_does_294 gw_4_72 ?_
      exact J_iret X rfl rfl ⟨by unfold DV_6; rw [et]; rfl, e3⟩ dL_does_296
    · obtain ⟨eE, et⟩ := e
      subst eE
      refine J_catch X [⟨0, 291, 292, 75⟩] ⟨0, 291, 297, 78⟩ [⟨0, 291, 302, 81⟩] rfl (List.forall_mem_cons.mpr ⟨⟨by decide, _, gw_2_180, by decide⟩, (fun w hw => absurd hw List.not_mem_nil)⟩) (by decide) (by decide) gw_2_181 (cst_in (i := 10) rfl) (fun q => ?_)
      refine J_astore_7 X dL_does_297 rfl (by decide) ?_
      refine J_ldc (v := (-2000000 : Int32)) X dL_does_299 gw_4_73 ?_
      exact J_iret X rfl rfl ⟨by unfold DV_6; rw [et]; rfl, e3⟩ dL_does_301
    · obtain ⟨eE, et⟩ := e
      subst eE
      refine J_catch X [⟨0, 291, 292, 75⟩, ⟨0, 291, 297, 78⟩] ⟨0, 291, 302, 81⟩ [] rfl (List.forall_mem_cons.mpr ⟨⟨by decide, _, gw_2_180, by decide⟩, (List.forall_mem_cons.mpr ⟨⟨by decide, _, gw_2_181, by decide⟩, (fun w hw => absurd hw List.not_mem_nil)⟩)⟩) (by decide) (by decide) gw_2_182 (cst_in (i := 11) rfl) (fun q => ?_)
      refine J_astore_7 X dL_does_302 rfl (by decide) ?_
      refine J_ldc (v := (-1000000 : Int32)) X dL_does_304 gw_4_74 ?_
      exact J_iret X rfl rfl ⟨by unfold DV_6; rw [et]; rfl, e3⟩ dL_does_306
/-- what the law sees of hours -/
def DV_7 (σ : St) (p1 : Int32) (p2 : Int32) (p3 : Int32) : Int32 := if M_hours_s σ p1 p2 p3 41 0 = 0 then 0 else if M_hours_s σ p1 p2 p3 41 0 = 1 then -3000000 else if M_hours_s σ p1 p2 p3 41 0 = 2 then -2000000 else -1000000
set_option maxHeartbeats 1000000 in
theorem c_D_7 {l : Launch} {D : va_G} {ca : Nat → Nat} {h : fH} {r : Nat} {σ : St} (hX : RA ca h r σ) (hI : InvX σ) (hO : InvO σ) (p1 p2 p3 q4 q5 : Int32) : FM l D ca yL_does (.codeWith yL_does cL_does 8 (some .int) [(0, 291, 292, 75), (0, 291, 297, 78), (0, 291, 302, 81)]) { frames := 10, cells := 4, slots := 24, locals := 193 } [.ref r, .int (7 : Int32), .int p1, .int p2, .int p3, .int q4, .int q5] h (fun v h2 => v = some (.int (DV_7 σ p1 p2 p3)) ∧ RA ca h2 r (M_hours_s σ p1 p2 p3)) noX := by
  refine FM.ofH [some (.ref r), some (.int (7 : Int32)), some (.int p1), some (.int p2), some (.int p3), some (.int q4), some (.int q5), none] (by decide) (Nat.le_of_ble_eq_true rfl) rfl ?_
  rintro K X rfl rfl rfl
  obtain ⟨vs, hroot⟩ := RA.root hX
  refine J_iload_1 X dL_does_0 ?_
  refine J_if_ne (tgt := 13) X dL_does_1 (by decide) (fun _ => ?_) (fun c => absurd c (by decide))
  refine J_iload_1 X dL_does_13 ?_
  refine J_iconst (v := 1) X dL_does_14 rfl ?_
  refine J_icmp_ne (tgt := 31) X dL_does_15 (by decide) (fun _ => ?_) (fun c => absurd c (by decide))
  refine J_iload_1 X dL_does_31 ?_
  refine J_iconst (v := 2) X dL_does_32 rfl ?_
  refine J_icmp_ne (tgt := 45) X dL_does_33 (by decide) (fun _ => ?_) (fun c => absurd c (by decide))
  refine J_iload_1 X dL_does_45 ?_
  refine J_iconst (v := 3) X dL_does_46 rfl ?_
  refine J_icmp_ne (tgt := 58) X dL_does_47 (by decide) (fun _ => ?_) (fun c => absurd c (by decide))
  refine J_iload_1 X dL_does_58 ?_
  refine J_iconst (v := 4) X dL_does_59 rfl ?_
  refine J_icmp_ne (tgt := 71) X dL_does_60 (by decide) (fun _ => ?_) (fun c => absurd c (by decide))
  refine J_iload_1 X dL_does_71 ?_
  refine J_iconst (v := 5) X dL_does_72 rfl ?_
  refine J_icmp_ne (tgt := 85) X dL_does_73 (by decide) (fun _ => ?_) (fun c => absurd c (by decide))
  refine J_iload_1 X dL_does_85 ?_
  refine J_bipush (v := (6 : Int32)) X dL_does_86 (by decide) ?_
  refine J_icmp_ne (tgt := 106) X dL_does_88 (by decide) (fun _ => ?_) (fun c => absurd c (by decide))
  refine J_iload_1 X dL_does_106 ?_
  refine J_bipush (v := (7 : Int32)) X dL_does_107 (by decide) ?_
  refine J_icmp_ne (tgt := 123) X dL_does_109 (by decide) (fun c => absurd (by decide) c) (fun _ => ?_)
  refine J_aload_0 X dL_does_112 ?_
  refine J_iload_2 X dL_does_113 ?_
  refine J_iload_3 X dL_does_114 ?_
  refine J_iload_4 X dL_does_115 ?_
  refine J_callS X (c_R_timed hX hI hO p1 p2 p3) (And.intro gw_3_101 cw_L_timed) rfl rfl (Nat.le_of_ble_eq_true rfl) dL_does_117 rfl (fun v h2 e => ?_) (fun E h2 e => ?_)
  · obtain ⟨e1, e2, e3⟩ := e
    subst e1
    show J K h2 [some (.ref r), some (.int (7 : Int32)), some (.int p1), some (.int p2), some (.int p3), some (.int q4), some (.int q5), none] [.int 0] 120 4 24
    refine J_goto (tgt := 291) X dL_does_120 (by decide) ?_
    exact J_iret X rfl rfl ⟨by unfold DV_7; rw [if_pos e2], e3⟩ dL_does_291
  · obtain ⟨e3, e⟩ := e
    rcases e with e | e | e
    · obtain ⟨eE, et⟩ := e
      subst eE
      refine J_catch X [] ⟨0, 291, 292, 75⟩ [⟨0, 291, 297, 78⟩, ⟨0, 291, 302, 81⟩] rfl (fun w hw => absurd hw List.not_mem_nil) (by decide) (by decide) gw_2_180 (cst_in (i := 3) rfl) (fun q => ?_)
      refine J_astore_7 X dL_does_292 rfl (by decide) ?_
      refine J_ldc (v := (-3000000 : Int32)) X dL_does_294 gw_4_72 ?_
      exact J_iret X rfl rfl ⟨by unfold DV_7; rw [et]; rfl, e3⟩ dL_does_296
    · obtain ⟨eE, et⟩ := e
      subst eE
      refine J_catch X [⟨0, 291, 292, 75⟩] ⟨0, 291, 297, 78⟩ [⟨0, 291, 302, 81⟩] rfl (List.forall_mem_cons.mpr ⟨⟨by decide, _, gw_2_180, by decide⟩, (fun w hw => absurd hw List.not_mem_nil)⟩) (by decide) (by decide) gw_2_181 (cst_in (i := 10) rfl) (fun q => ?_)
      refine J_astore_7 X dL_does_297 rfl (by decide) ?_
      refine J_ldc (v := (-2000000 : Int32)) X dL_does_299 gw_4_73 ?_
      exact J_iret X rfl rfl ⟨by unfold DV_7; rw [et]; rfl, e3⟩ dL_does_301
    · obtain ⟨eE, et⟩ := e
      subst eE
      refine J_catch X [⟨0, 291, 292, 75⟩, ⟨0, 291, 297, 78⟩] ⟨0, 291, 302, 81⟩ [] rfl (List.forall_mem_cons.mpr ⟨⟨by decide, _, gw_2_180, by decide⟩, (List.forall_mem_cons.mpr ⟨⟨by decide, _, gw_2_181, by decide⟩, (fun w hw => absurd hw List.not_mem_nil)⟩)⟩) (by decide) (by decide) gw_2_182 (cst_in (i := 11) rfl) (fun q => ?_)
      refine J_astore_7 X dL_does_302 rfl (by decide) ?_
      refine J_ldc (v := (-1000000 : Int32)) X dL_does_304 gw_4_74 ?_
      exact J_iret X rfl rfl ⟨by unfold DV_7; rw [et]; rfl, e3⟩ dL_does_306
/-- what the law sees of outage -/
def DV_8 (σ : St) (p1 : Int32) (p2 : Int32) : Int32 := if M_outage_s σ p1 p2 41 0 = 0 then M_outage σ p1 p2 else if M_outage_s σ p1 p2 41 0 = 1 then -3000000 else -2000000
set_option maxHeartbeats 1000000 in
theorem c_D_8 {l : Launch} {D : va_G} {ca : Nat → Nat} {h : fH} {r : Nat} {σ : St} (hX : RA ca h r σ) (hI : InvX σ) (hO : InvO σ) (p1 p2 q3 q4 q5 : Int32) : FM l D ca yL_does (.codeWith yL_does cL_does 8 (some .int) [(0, 291, 292, 75), (0, 291, 297, 78), (0, 291, 302, 81)]) { frames := 9, cells := 2, slots := 12, locals := 170 } [.ref r, .int (8 : Int32), .int p1, .int p2, .int q3, .int q4, .int q5] h (fun v h2 => v = some (.int (DV_8 σ p1 p2)) ∧ RA ca h2 r (M_outage_s σ p1 p2)) noX := by
  refine FM.ofH [some (.ref r), some (.int (8 : Int32)), some (.int p1), some (.int p2), some (.int q3), some (.int q4), some (.int q5), none] (by decide) (Nat.le_of_ble_eq_true rfl) rfl ?_
  rintro K X rfl rfl rfl
  obtain ⟨vs, hroot⟩ := RA.root hX
  refine J_iload_1 X dL_does_0 ?_
  refine J_if_ne (tgt := 13) X dL_does_1 (by decide) (fun _ => ?_) (fun c => absurd c (by decide))
  refine J_iload_1 X dL_does_13 ?_
  refine J_iconst (v := 1) X dL_does_14 rfl ?_
  refine J_icmp_ne (tgt := 31) X dL_does_15 (by decide) (fun _ => ?_) (fun c => absurd c (by decide))
  refine J_iload_1 X dL_does_31 ?_
  refine J_iconst (v := 2) X dL_does_32 rfl ?_
  refine J_icmp_ne (tgt := 45) X dL_does_33 (by decide) (fun _ => ?_) (fun c => absurd c (by decide))
  refine J_iload_1 X dL_does_45 ?_
  refine J_iconst (v := 3) X dL_does_46 rfl ?_
  refine J_icmp_ne (tgt := 58) X dL_does_47 (by decide) (fun _ => ?_) (fun c => absurd c (by decide))
  refine J_iload_1 X dL_does_58 ?_
  refine J_iconst (v := 4) X dL_does_59 rfl ?_
  refine J_icmp_ne (tgt := 71) X dL_does_60 (by decide) (fun _ => ?_) (fun c => absurd c (by decide))
  refine J_iload_1 X dL_does_71 ?_
  refine J_iconst (v := 5) X dL_does_72 rfl ?_
  refine J_icmp_ne (tgt := 85) X dL_does_73 (by decide) (fun _ => ?_) (fun c => absurd c (by decide))
  refine J_iload_1 X dL_does_85 ?_
  refine J_bipush (v := (6 : Int32)) X dL_does_86 (by decide) ?_
  refine J_icmp_ne (tgt := 106) X dL_does_88 (by decide) (fun _ => ?_) (fun c => absurd c (by decide))
  refine J_iload_1 X dL_does_106 ?_
  refine J_bipush (v := (7 : Int32)) X dL_does_107 (by decide) ?_
  refine J_icmp_ne (tgt := 123) X dL_does_109 (by decide) (fun _ => ?_) (fun c => absurd c (by decide))
  refine J_iload_1 X dL_does_123 ?_
  refine J_bipush (v := (8 : Int32)) X dL_does_124 (by decide) ?_
  refine J_icmp_ne (tgt := 138) X dL_does_126 (by decide) (fun c => absurd (by decide) c) (fun _ => ?_)
  refine J_aload_0 X dL_does_129 ?_
  refine J_iload_2 X dL_does_130 ?_
  refine J_iload_3 X dL_does_131 ?_
  refine J_callV X (c_R_outage hX hI hO p1 p2) (And.intro gw_3_117 cw_X10_outage) hroot rfl rfl rfl (Nat.le_of_ble_eq_true rfl) dL_does_132 rfl (fun v h2 e => ?_) (fun E h2 e => ?_)
  · obtain ⟨e1, e2, e3⟩ := e
    subst e1
    show J K h2 [some (.ref r), some (.int (8 : Int32)), some (.int p1), some (.int p2), some (.int q3), some (.int q4), some (.int q5), none] [.int (M_outage σ p1 p2)] 135 2 12
    refine J_goto (tgt := 291) X dL_does_135 (by decide) ?_
    exact J_iret X rfl rfl ⟨by unfold DV_8; rw [if_pos e2], e3⟩ dL_does_291
  · obtain ⟨e3, e⟩ := e
    rcases e with e | e
    · obtain ⟨eE, et⟩ := e
      subst eE
      refine J_catch X [] ⟨0, 291, 292, 75⟩ [⟨0, 291, 297, 78⟩, ⟨0, 291, 302, 81⟩] rfl (fun w hw => absurd hw List.not_mem_nil) (by decide) (by decide) gw_2_180 (cst_in (i := 3) rfl) (fun q => ?_)
      refine J_astore_7 X dL_does_292 rfl (by decide) ?_
      refine J_ldc (v := (-3000000 : Int32)) X dL_does_294 gw_4_72 ?_
      exact J_iret X rfl rfl ⟨by unfold DV_8; rw [et]; rfl, e3⟩ dL_does_296
    · obtain ⟨eE, et⟩ := e
      subst eE
      refine J_catch X [⟨0, 291, 292, 75⟩] ⟨0, 291, 297, 78⟩ [⟨0, 291, 302, 81⟩] rfl (List.forall_mem_cons.mpr ⟨⟨by decide, _, gw_2_180, by decide⟩, (fun w hw => absurd hw List.not_mem_nil)⟩) (by decide) (by decide) gw_2_181 (cst_in (i := 10) rfl) (fun q => ?_)
      refine J_astore_7 X dL_does_297 rfl (by decide) ?_
      refine J_ldc (v := (-2000000 : Int32)) X dL_does_299 gw_4_73 ?_
      exact J_iret X rfl rfl ⟨by unfold DV_8; rw [et]; rfl, e3⟩ dL_does_301
/-- what the law sees of vote -/
def DV_9 (σ : St) (p1 : Int32) (p2 : Int32) (p3 : Int32) (p4 : Int32) (p5 : Int32) : Int32 := if M_vote_s σ p1 p2 p3 p4 p5 41 0 = 0 then M_vote σ p1 p2 p3 p4 p5 else if M_vote_s σ p1 p2 p3 p4 p5 41 0 = 1 then -3000000 else if M_vote_s σ p1 p2 p3 p4 p5 41 0 = 2 then -2000000 else -1000000
set_option maxHeartbeats 1000000 in
theorem c_D_9 {l : Launch} {D : va_G} {ca : Nat → Nat} {h : fH} {r : Nat} {σ : St} (hX : RA ca h r σ) (hI : InvX σ) (hO : InvO σ) (p1 p2 p3 p4 p5 : Int32) : FM l D ca yL_does (.codeWith yL_does cL_does 8 (some .int) [(0, 291, 292, 75), (0, 291, 297, 78), (0, 291, 302, 81)]) { frames := 9, cells := 8, slots := 48, locals := 180 } [.ref r, .int (9 : Int32), .int p1, .int p2, .int p3, .int p4, .int p5] h (fun v h2 => v = some (.int (DV_9 σ p1 p2 p3 p4 p5)) ∧ RA ca h2 r (M_vote_s σ p1 p2 p3 p4 p5)) noX := by
  refine FM.ofH [some (.ref r), some (.int (9 : Int32)), some (.int p1), some (.int p2), some (.int p3), some (.int p4), some (.int p5), none] (by decide) (Nat.le_of_ble_eq_true rfl) rfl ?_
  rintro K X rfl rfl rfl
  obtain ⟨vs, hroot⟩ := RA.root hX
  refine J_iload_1 X dL_does_0 ?_
  refine J_if_ne (tgt := 13) X dL_does_1 (by decide) (fun _ => ?_) (fun c => absurd c (by decide))
  refine J_iload_1 X dL_does_13 ?_
  refine J_iconst (v := 1) X dL_does_14 rfl ?_
  refine J_icmp_ne (tgt := 31) X dL_does_15 (by decide) (fun _ => ?_) (fun c => absurd c (by decide))
  refine J_iload_1 X dL_does_31 ?_
  refine J_iconst (v := 2) X dL_does_32 rfl ?_
  refine J_icmp_ne (tgt := 45) X dL_does_33 (by decide) (fun _ => ?_) (fun c => absurd c (by decide))
  refine J_iload_1 X dL_does_45 ?_
  refine J_iconst (v := 3) X dL_does_46 rfl ?_
  refine J_icmp_ne (tgt := 58) X dL_does_47 (by decide) (fun _ => ?_) (fun c => absurd c (by decide))
  refine J_iload_1 X dL_does_58 ?_
  refine J_iconst (v := 4) X dL_does_59 rfl ?_
  refine J_icmp_ne (tgt := 71) X dL_does_60 (by decide) (fun _ => ?_) (fun c => absurd c (by decide))
  refine J_iload_1 X dL_does_71 ?_
  refine J_iconst (v := 5) X dL_does_72 rfl ?_
  refine J_icmp_ne (tgt := 85) X dL_does_73 (by decide) (fun _ => ?_) (fun c => absurd c (by decide))
  refine J_iload_1 X dL_does_85 ?_
  refine J_bipush (v := (6 : Int32)) X dL_does_86 (by decide) ?_
  refine J_icmp_ne (tgt := 106) X dL_does_88 (by decide) (fun _ => ?_) (fun c => absurd c (by decide))
  refine J_iload_1 X dL_does_106 ?_
  refine J_bipush (v := (7 : Int32)) X dL_does_107 (by decide) ?_
  refine J_icmp_ne (tgt := 123) X dL_does_109 (by decide) (fun _ => ?_) (fun c => absurd c (by decide))
  refine J_iload_1 X dL_does_123 ?_
  refine J_bipush (v := (8 : Int32)) X dL_does_124 (by decide) ?_
  refine J_icmp_ne (tgt := 138) X dL_does_126 (by decide) (fun _ => ?_) (fun c => absurd c (by decide))
  refine J_iload_1 X dL_does_138 ?_
  refine J_bipush (v := (9 : Int32)) X dL_does_139 (by decide) ?_
  refine J_icmp_ne (tgt := 159) X dL_does_141 (by decide) (fun c => absurd (by decide) c) (fun _ => ?_)
  refine J_aload_0 X dL_does_144 ?_
  refine J_iload_2 X dL_does_145 ?_
  refine J_iload_3 X dL_does_146 ?_
  refine J_iload_4 X dL_does_147 ?_
  refine J_iload_5 X dL_does_149 ?_
  refine J_iload_6 X dL_does_151 ?_
  refine J_callV X (c_R_vote hX hI hO p1 p2 p3 p4 p5) (And.intro gw_3_121 cw_X10_vote) hroot rfl rfl rfl (Nat.le_of_ble_eq_true rfl) dL_does_153 rfl (fun v h2 e => ?_) (fun E h2 e => ?_)
  · obtain ⟨e1, e2, e3⟩ := e
    subst e1
    show J K h2 [some (.ref r), some (.int (9 : Int32)), some (.int p1), some (.int p2), some (.int p3), some (.int p4), some (.int p5), none] [.int (M_vote σ p1 p2 p3 p4 p5)] 156 8 48
    refine J_goto (tgt := 291) X dL_does_156 (by decide) ?_
    exact J_iret X rfl rfl ⟨by unfold DV_9; rw [if_pos e2], e3⟩ dL_does_291
  · obtain ⟨e3, e⟩ := e
    rcases e with e | e | e
    · obtain ⟨eE, et⟩ := e
      subst eE
      refine J_catch X [] ⟨0, 291, 292, 75⟩ [⟨0, 291, 297, 78⟩, ⟨0, 291, 302, 81⟩] rfl (fun w hw => absurd hw List.not_mem_nil) (by decide) (by decide) gw_2_180 (cst_in (i := 3) rfl) (fun q => ?_)
      refine J_astore_7 X dL_does_292 rfl (by decide) ?_
      refine J_ldc (v := (-3000000 : Int32)) X dL_does_294 gw_4_72 ?_
      exact J_iret X rfl rfl ⟨by unfold DV_9; rw [et]; rfl, e3⟩ dL_does_296
    · obtain ⟨eE, et⟩ := e
      subst eE
      refine J_catch X [⟨0, 291, 292, 75⟩] ⟨0, 291, 297, 78⟩ [⟨0, 291, 302, 81⟩] rfl (List.forall_mem_cons.mpr ⟨⟨by decide, _, gw_2_180, by decide⟩, (fun w hw => absurd hw List.not_mem_nil)⟩) (by decide) (by decide) gw_2_181 (cst_in (i := 10) rfl) (fun q => ?_)
      refine J_astore_7 X dL_does_297 rfl (by decide) ?_
      refine J_ldc (v := (-2000000 : Int32)) X dL_does_299 gw_4_73 ?_
      exact J_iret X rfl rfl ⟨by unfold DV_9; rw [et]; rfl, e3⟩ dL_does_301
    · obtain ⟨eE, et⟩ := e
      subst eE
      refine J_catch X [⟨0, 291, 292, 75⟩, ⟨0, 291, 297, 78⟩] ⟨0, 291, 302, 81⟩ [] rfl (List.forall_mem_cons.mpr ⟨⟨by decide, _, gw_2_180, by decide⟩, (List.forall_mem_cons.mpr ⟨⟨by decide, _, gw_2_181, by decide⟩, (fun w hw => absurd hw List.not_mem_nil)⟩)⟩) (by decide) (by decide) gw_2_182 (cst_in (i := 11) rfl) (fun q => ?_)
      refine J_astore_7 X dL_does_302 rfl (by decide) ?_
      refine J_ldc (v := (-1000000 : Int32)) X dL_does_304 gw_4_74 ?_
      exact J_iret X rfl rfl ⟨by unfold DV_9; rw [et]; rfl, e3⟩ dL_does_306
/-- what the law sees of inspect -/
def DV_10 (σ : St) (p1 : Int32) : Int32 := if M_inspect_s σ p1 41 0 = 0 then M_inspect σ p1 else -3000000
set_option maxHeartbeats 1000000 in
theorem c_D_10 {l : Launch} {D : va_G} {ca : Nat → Nat} {h : fH} {r : Nat} {σ : St} (hX : RA ca h r σ) (hI : InvX σ) (hO : InvO σ) (p1 q2 q3 q4 q5 : Int32) : FM l D ca yL_does (.codeWith yL_does cL_does 8 (some .int) [(0, 291, 292, 75), (0, 291, 297, 78), (0, 291, 302, 81)]) { frames := 9, cells := 1, slots := 6, locals := 172 } [.ref r, .int (10 : Int32), .int p1, .int q2, .int q3, .int q4, .int q5] h (fun v h2 => v = some (.int (DV_10 σ p1)) ∧ RA ca h2 r (M_inspect_s σ p1)) noX := by
  refine FM.ofH [some (.ref r), some (.int (10 : Int32)), some (.int p1), some (.int q2), some (.int q3), some (.int q4), some (.int q5), none] (by decide) (Nat.le_of_ble_eq_true rfl) rfl ?_
  rintro K X rfl rfl rfl
  obtain ⟨vs, hroot⟩ := RA.root hX
  refine J_iload_1 X dL_does_0 ?_
  refine J_if_ne (tgt := 13) X dL_does_1 (by decide) (fun _ => ?_) (fun c => absurd c (by decide))
  refine J_iload_1 X dL_does_13 ?_
  refine J_iconst (v := 1) X dL_does_14 rfl ?_
  refine J_icmp_ne (tgt := 31) X dL_does_15 (by decide) (fun _ => ?_) (fun c => absurd c (by decide))
  refine J_iload_1 X dL_does_31 ?_
  refine J_iconst (v := 2) X dL_does_32 rfl ?_
  refine J_icmp_ne (tgt := 45) X dL_does_33 (by decide) (fun _ => ?_) (fun c => absurd c (by decide))
  refine J_iload_1 X dL_does_45 ?_
  refine J_iconst (v := 3) X dL_does_46 rfl ?_
  refine J_icmp_ne (tgt := 58) X dL_does_47 (by decide) (fun _ => ?_) (fun c => absurd c (by decide))
  refine J_iload_1 X dL_does_58 ?_
  refine J_iconst (v := 4) X dL_does_59 rfl ?_
  refine J_icmp_ne (tgt := 71) X dL_does_60 (by decide) (fun _ => ?_) (fun c => absurd c (by decide))
  refine J_iload_1 X dL_does_71 ?_
  refine J_iconst (v := 5) X dL_does_72 rfl ?_
  refine J_icmp_ne (tgt := 85) X dL_does_73 (by decide) (fun _ => ?_) (fun c => absurd c (by decide))
  refine J_iload_1 X dL_does_85 ?_
  refine J_bipush (v := (6 : Int32)) X dL_does_86 (by decide) ?_
  refine J_icmp_ne (tgt := 106) X dL_does_88 (by decide) (fun _ => ?_) (fun c => absurd c (by decide))
  refine J_iload_1 X dL_does_106 ?_
  refine J_bipush (v := (7 : Int32)) X dL_does_107 (by decide) ?_
  refine J_icmp_ne (tgt := 123) X dL_does_109 (by decide) (fun _ => ?_) (fun c => absurd c (by decide))
  refine J_iload_1 X dL_does_123 ?_
  refine J_bipush (v := (8 : Int32)) X dL_does_124 (by decide) ?_
  refine J_icmp_ne (tgt := 138) X dL_does_126 (by decide) (fun _ => ?_) (fun c => absurd c (by decide))
  refine J_iload_1 X dL_does_138 ?_
  refine J_bipush (v := (9 : Int32)) X dL_does_139 (by decide) ?_
  refine J_icmp_ne (tgt := 159) X dL_does_141 (by decide) (fun _ => ?_) (fun c => absurd c (by decide))
  refine J_iload_1 X dL_does_159 ?_
  refine J_bipush (v := (10 : Int32)) X dL_does_160 (by decide) ?_
  refine J_icmp_ne (tgt := 173) X dL_does_162 (by decide) (fun c => absurd (by decide) c) (fun _ => ?_)
  refine J_aload_0 X dL_does_165 ?_
  refine J_iload_2 X dL_does_166 ?_
  refine J_callV X (c_R_inspect hX hI hO p1) (And.intro gw_3_137 cw_X10_inspect) hroot rfl rfl rfl (Nat.le_of_ble_eq_true rfl) dL_does_167 rfl (fun v h2 e => ?_) (fun E h2 e => ?_)
  · obtain ⟨e1, e2, e3⟩ := e
    subst e1
    show J K h2 [some (.ref r), some (.int (10 : Int32)), some (.int p1), some (.int q2), some (.int q3), some (.int q4), some (.int q5), none] [.int (M_inspect σ p1)] 170 1 6
    refine J_goto (tgt := 291) X dL_does_170 (by decide) ?_
    exact J_iret X rfl rfl ⟨by unfold DV_10; rw [if_pos e2], e3⟩ dL_does_291
  · obtain ⟨e3, e⟩ := e
    obtain ⟨eE, et⟩ := e
    subst eE
    refine J_catch X [] ⟨0, 291, 292, 75⟩ [⟨0, 291, 297, 78⟩, ⟨0, 291, 302, 81⟩] rfl (fun w hw => absurd hw List.not_mem_nil) (by decide) (by decide) gw_2_180 (cst_in (i := 3) rfl) (fun q => ?_)
    refine J_astore_7 X dL_does_292 rfl (by decide) ?_
    refine J_ldc (v := (-3000000 : Int32)) X dL_does_294 gw_4_72 ?_
    exact J_iret X rfl rfl ⟨by unfold DV_10; rw [et]; rfl, e3⟩ dL_does_296
/-- what the law sees of meter -/
def DV_11 (σ : St) (p1 : Int32) (p2 : Int32) (p3 : Int32) : Int32 := if M_meter_s σ p1 p2 p3 41 0 = 0 then M_meter σ p1 p2 p3 else if M_meter_s σ p1 p2 p3 41 0 = 1 then -3000000 else if M_meter_s σ p1 p2 p3 41 0 = 2 then -2000000 else -1000000
set_option maxHeartbeats 1000000 in
theorem c_D_11 {l : Launch} {D : va_G} {ca : Nat → Nat} {h : fH} {r : Nat} {σ : St} (hX : RA ca h r σ) (hI : InvX σ) (hO : InvO σ) (p1 p2 p3 q4 q5 : Int32) : FM l D ca yL_does (.codeWith yL_does cL_does 8 (some .int) [(0, 291, 292, 75), (0, 291, 297, 78), (0, 291, 302, 81)]) { frames := 9, cells := 7, slots := 132, locals := 315 } [.ref r, .int (11 : Int32), .int p1, .int p2, .int p3, .int q4, .int q5] h (fun v h2 => v = some (.int (DV_11 σ p1 p2 p3)) ∧ RA ca h2 r (M_meter_s σ p1 p2 p3)) noX := by
  refine FM.ofH [some (.ref r), some (.int (11 : Int32)), some (.int p1), some (.int p2), some (.int p3), some (.int q4), some (.int q5), none] (by decide) (Nat.le_of_ble_eq_true rfl) rfl ?_
  rintro K X rfl rfl rfl
  obtain ⟨vs, hroot⟩ := RA.root hX
  refine J_iload_1 X dL_does_0 ?_
  refine J_if_ne (tgt := 13) X dL_does_1 (by decide) (fun _ => ?_) (fun c => absurd c (by decide))
  refine J_iload_1 X dL_does_13 ?_
  refine J_iconst (v := 1) X dL_does_14 rfl ?_
  refine J_icmp_ne (tgt := 31) X dL_does_15 (by decide) (fun _ => ?_) (fun c => absurd c (by decide))
  refine J_iload_1 X dL_does_31 ?_
  refine J_iconst (v := 2) X dL_does_32 rfl ?_
  refine J_icmp_ne (tgt := 45) X dL_does_33 (by decide) (fun _ => ?_) (fun c => absurd c (by decide))
  refine J_iload_1 X dL_does_45 ?_
  refine J_iconst (v := 3) X dL_does_46 rfl ?_
  refine J_icmp_ne (tgt := 58) X dL_does_47 (by decide) (fun _ => ?_) (fun c => absurd c (by decide))
  refine J_iload_1 X dL_does_58 ?_
  refine J_iconst (v := 4) X dL_does_59 rfl ?_
  refine J_icmp_ne (tgt := 71) X dL_does_60 (by decide) (fun _ => ?_) (fun c => absurd c (by decide))
  refine J_iload_1 X dL_does_71 ?_
  refine J_iconst (v := 5) X dL_does_72 rfl ?_
  refine J_icmp_ne (tgt := 85) X dL_does_73 (by decide) (fun _ => ?_) (fun c => absurd c (by decide))
  refine J_iload_1 X dL_does_85 ?_
  refine J_bipush (v := (6 : Int32)) X dL_does_86 (by decide) ?_
  refine J_icmp_ne (tgt := 106) X dL_does_88 (by decide) (fun _ => ?_) (fun c => absurd c (by decide))
  refine J_iload_1 X dL_does_106 ?_
  refine J_bipush (v := (7 : Int32)) X dL_does_107 (by decide) ?_
  refine J_icmp_ne (tgt := 123) X dL_does_109 (by decide) (fun _ => ?_) (fun c => absurd c (by decide))
  refine J_iload_1 X dL_does_123 ?_
  refine J_bipush (v := (8 : Int32)) X dL_does_124 (by decide) ?_
  refine J_icmp_ne (tgt := 138) X dL_does_126 (by decide) (fun _ => ?_) (fun c => absurd c (by decide))
  refine J_iload_1 X dL_does_138 ?_
  refine J_bipush (v := (9 : Int32)) X dL_does_139 (by decide) ?_
  refine J_icmp_ne (tgt := 159) X dL_does_141 (by decide) (fun _ => ?_) (fun c => absurd c (by decide))
  refine J_iload_1 X dL_does_159 ?_
  refine J_bipush (v := (10 : Int32)) X dL_does_160 (by decide) ?_
  refine J_icmp_ne (tgt := 173) X dL_does_162 (by decide) (fun _ => ?_) (fun c => absurd c (by decide))
  refine J_iload_1 X dL_does_173 ?_
  refine J_bipush (v := (11 : Int32)) X dL_does_174 (by decide) ?_
  refine J_icmp_ne (tgt := 190) X dL_does_176 (by decide) (fun c => absurd (by decide) c) (fun _ => ?_)
  refine J_aload_0 X dL_does_179 ?_
  refine J_iload_2 X dL_does_180 ?_
  refine J_iload_3 X dL_does_181 ?_
  refine J_iload_4 X dL_does_182 ?_
  refine J_callV X (c_R_meter hX hI hO p1 p2 p3) (And.intro gw_3_149 cw_X10_meter) hroot rfl rfl rfl (Nat.le_of_ble_eq_true rfl) dL_does_184 rfl (fun v h2 e => ?_) (fun E h2 e => ?_)
  · obtain ⟨e1, e2, e3⟩ := e
    subst e1
    show J K h2 [some (.ref r), some (.int (11 : Int32)), some (.int p1), some (.int p2), some (.int p3), some (.int q4), some (.int q5), none] [.int (M_meter σ p1 p2 p3)] 187 7 132
    refine J_goto (tgt := 291) X dL_does_187 (by decide) ?_
    exact J_iret X rfl rfl ⟨by unfold DV_11; rw [if_pos e2], e3⟩ dL_does_291
  · obtain ⟨e3, e⟩ := e
    rcases e with e | e | e
    · obtain ⟨eE, et⟩ := e
      subst eE
      refine J_catch X [] ⟨0, 291, 292, 75⟩ [⟨0, 291, 297, 78⟩, ⟨0, 291, 302, 81⟩] rfl (fun w hw => absurd hw List.not_mem_nil) (by decide) (by decide) gw_2_180 (cst_in (i := 3) rfl) (fun q => ?_)
      refine J_astore_7 X dL_does_292 rfl (by decide) ?_
      refine J_ldc (v := (-3000000 : Int32)) X dL_does_294 gw_4_72 ?_
      exact J_iret X rfl rfl ⟨by unfold DV_11; rw [et]; rfl, e3⟩ dL_does_296
    · obtain ⟨eE, et⟩ := e
      subst eE
      refine J_catch X [⟨0, 291, 292, 75⟩] ⟨0, 291, 297, 78⟩ [⟨0, 291, 302, 81⟩] rfl (List.forall_mem_cons.mpr ⟨⟨by decide, _, gw_2_180, by decide⟩, (fun w hw => absurd hw List.not_mem_nil)⟩) (by decide) (by decide) gw_2_181 (cst_in (i := 10) rfl) (fun q => ?_)
      refine J_astore_7 X dL_does_297 rfl (by decide) ?_
      refine J_ldc (v := (-2000000 : Int32)) X dL_does_299 gw_4_73 ?_
      exact J_iret X rfl rfl ⟨by unfold DV_11; rw [et]; rfl, e3⟩ dL_does_301
    · obtain ⟨eE, et⟩ := e
      subst eE
      refine J_catch X [⟨0, 291, 292, 75⟩, ⟨0, 291, 297, 78⟩] ⟨0, 291, 302, 81⟩ [] rfl (List.forall_mem_cons.mpr ⟨⟨by decide, _, gw_2_180, by decide⟩, (List.forall_mem_cons.mpr ⟨⟨by decide, _, gw_2_181, by decide⟩, (fun w hw => absurd hw List.not_mem_nil)⟩)⟩) (by decide) (by decide) gw_2_182 (cst_in (i := 11) rfl) (fun q => ?_)
      refine J_astore_7 X dL_does_302 rfl (by decide) ?_
      refine J_ldc (v := (-1000000 : Int32)) X dL_does_304 gw_4_74 ?_
      exact J_iret X rfl rfl ⟨by unfold DV_11; rw [et]; rfl, e3⟩ dL_does_306
/-- what the law sees of read -/
def DV_12 (σ : St) (p1 : Int32) : Int32 := if M_read_s σ p1 41 0 = 0 then M_read σ p1 else -3000000
set_option maxHeartbeats 1000000 in
theorem c_D_12 {l : Launch} {D : va_G} {ca : Nat → Nat} {h : fH} {r : Nat} {σ : St} (hX : RA ca h r σ) (hI : InvX σ) (hO : InvO σ) (p1 q2 q3 q4 q5 : Int32) : FM l D ca yL_does (.codeWith yL_does cL_does 8 (some .int) [(0, 291, 292, 75), (0, 291, 297, 78), (0, 291, 302, 81)]) { frames := 9, cells := 3, slots := 108, locals := 365 } [.ref r, .int (12 : Int32), .int p1, .int q2, .int q3, .int q4, .int q5] h (fun v h2 => v = some (.int (DV_12 σ p1)) ∧ RA ca h2 r (M_read_s σ p1)) noX := by
  refine FM.ofH [some (.ref r), some (.int (12 : Int32)), some (.int p1), some (.int q2), some (.int q3), some (.int q4), some (.int q5), none] (by decide) (Nat.le_of_ble_eq_true rfl) rfl ?_
  rintro K X rfl rfl rfl
  obtain ⟨vs, hroot⟩ := RA.root hX
  refine J_iload_1 X dL_does_0 ?_
  refine J_if_ne (tgt := 13) X dL_does_1 (by decide) (fun _ => ?_) (fun c => absurd c (by decide))
  refine J_iload_1 X dL_does_13 ?_
  refine J_iconst (v := 1) X dL_does_14 rfl ?_
  refine J_icmp_ne (tgt := 31) X dL_does_15 (by decide) (fun _ => ?_) (fun c => absurd c (by decide))
  refine J_iload_1 X dL_does_31 ?_
  refine J_iconst (v := 2) X dL_does_32 rfl ?_
  refine J_icmp_ne (tgt := 45) X dL_does_33 (by decide) (fun _ => ?_) (fun c => absurd c (by decide))
  refine J_iload_1 X dL_does_45 ?_
  refine J_iconst (v := 3) X dL_does_46 rfl ?_
  refine J_icmp_ne (tgt := 58) X dL_does_47 (by decide) (fun _ => ?_) (fun c => absurd c (by decide))
  refine J_iload_1 X dL_does_58 ?_
  refine J_iconst (v := 4) X dL_does_59 rfl ?_
  refine J_icmp_ne (tgt := 71) X dL_does_60 (by decide) (fun _ => ?_) (fun c => absurd c (by decide))
  refine J_iload_1 X dL_does_71 ?_
  refine J_iconst (v := 5) X dL_does_72 rfl ?_
  refine J_icmp_ne (tgt := 85) X dL_does_73 (by decide) (fun _ => ?_) (fun c => absurd c (by decide))
  refine J_iload_1 X dL_does_85 ?_
  refine J_bipush (v := (6 : Int32)) X dL_does_86 (by decide) ?_
  refine J_icmp_ne (tgt := 106) X dL_does_88 (by decide) (fun _ => ?_) (fun c => absurd c (by decide))
  refine J_iload_1 X dL_does_106 ?_
  refine J_bipush (v := (7 : Int32)) X dL_does_107 (by decide) ?_
  refine J_icmp_ne (tgt := 123) X dL_does_109 (by decide) (fun _ => ?_) (fun c => absurd c (by decide))
  refine J_iload_1 X dL_does_123 ?_
  refine J_bipush (v := (8 : Int32)) X dL_does_124 (by decide) ?_
  refine J_icmp_ne (tgt := 138) X dL_does_126 (by decide) (fun _ => ?_) (fun c => absurd c (by decide))
  refine J_iload_1 X dL_does_138 ?_
  refine J_bipush (v := (9 : Int32)) X dL_does_139 (by decide) ?_
  refine J_icmp_ne (tgt := 159) X dL_does_141 (by decide) (fun _ => ?_) (fun c => absurd c (by decide))
  refine J_iload_1 X dL_does_159 ?_
  refine J_bipush (v := (10 : Int32)) X dL_does_160 (by decide) ?_
  refine J_icmp_ne (tgt := 173) X dL_does_162 (by decide) (fun _ => ?_) (fun c => absurd c (by decide))
  refine J_iload_1 X dL_does_173 ?_
  refine J_bipush (v := (11 : Int32)) X dL_does_174 (by decide) ?_
  refine J_icmp_ne (tgt := 190) X dL_does_176 (by decide) (fun _ => ?_) (fun c => absurd c (by decide))
  refine J_iload_1 X dL_does_190 ?_
  refine J_bipush (v := (12 : Int32)) X dL_does_191 (by decide) ?_
  refine J_icmp_ne (tgt := 204) X dL_does_193 (by decide) (fun c => absurd (by decide) c) (fun _ => ?_)
  refine J_aload_0 X dL_does_196 ?_
  refine J_iload_2 X dL_does_197 ?_
  refine J_callV X (c_R_read hX hI hO p1) (And.intro gw_3_182 cw_X10_read) hroot rfl rfl rfl (Nat.le_of_ble_eq_true rfl) dL_does_198 rfl (fun v h2 e => ?_) (fun E h2 e => ?_)
  · obtain ⟨e1, e2, e3⟩ := e
    subst e1
    show J K h2 [some (.ref r), some (.int (12 : Int32)), some (.int p1), some (.int q2), some (.int q3), some (.int q4), some (.int q5), none] [.int (M_read σ p1)] 201 3 108
    refine J_goto (tgt := 291) X dL_does_201 (by decide) ?_
    exact J_iret X rfl rfl ⟨by unfold DV_12; rw [if_pos e2], e3⟩ dL_does_291
  · obtain ⟨e3, e⟩ := e
    obtain ⟨eE, et⟩ := e
    subst eE
    refine J_catch X [] ⟨0, 291, 292, 75⟩ [⟨0, 291, 297, 78⟩, ⟨0, 291, 302, 81⟩] rfl (fun w hw => absurd hw List.not_mem_nil) (by decide) (by decide) gw_2_180 (cst_in (i := 3) rfl) (fun q => ?_)
    refine J_astore_7 X dL_does_292 rfl (by decide) ?_
    refine J_ldc (v := (-3000000 : Int32)) X dL_does_294 gw_4_72 ?_
    exact J_iret X rfl rfl ⟨by unfold DV_12; rw [et]; rfl, e3⟩ dL_does_296
/-- what the law sees of tell -/
def DV_13 (σ : St) (p1 : Int32) (p2 : Int32) : Int32 := if M_tell_s σ p1 p2 41 0 = 0 then M_tell σ p1 p2 else if M_tell_s σ p1 p2 41 0 = 1 then -3000000 else -2000000
set_option maxHeartbeats 1000000 in
theorem c_D_13 {l : Launch} {D : va_G} {ca : Nat → Nat} {h : fH} {r : Nat} {σ : St} (hX : RA ca h r σ) (hI : InvX σ) (hO : InvO σ) (p1 p2 q3 q4 q5 : Int32) : FM l D ca yL_does (.codeWith yL_does cL_does 8 (some .int) [(0, 291, 292, 75), (0, 291, 297, 78), (0, 291, 302, 81)]) { frames := 9, cells := 2, slots := 12, locals := 170 } [.ref r, .int (13 : Int32), .int p1, .int p2, .int q3, .int q4, .int q5] h (fun v h2 => v = some (.int (DV_13 σ p1 p2)) ∧ RA ca h2 r (M_tell_s σ p1 p2)) noX := by
  refine FM.ofH [some (.ref r), some (.int (13 : Int32)), some (.int p1), some (.int p2), some (.int q3), some (.int q4), some (.int q5), none] (by decide) (Nat.le_of_ble_eq_true rfl) rfl ?_
  rintro K X rfl rfl rfl
  obtain ⟨vs, hroot⟩ := RA.root hX
  refine J_iload_1 X dL_does_0 ?_
  refine J_if_ne (tgt := 13) X dL_does_1 (by decide) (fun _ => ?_) (fun c => absurd c (by decide))
  refine J_iload_1 X dL_does_13 ?_
  refine J_iconst (v := 1) X dL_does_14 rfl ?_
  refine J_icmp_ne (tgt := 31) X dL_does_15 (by decide) (fun _ => ?_) (fun c => absurd c (by decide))
  refine J_iload_1 X dL_does_31 ?_
  refine J_iconst (v := 2) X dL_does_32 rfl ?_
  refine J_icmp_ne (tgt := 45) X dL_does_33 (by decide) (fun _ => ?_) (fun c => absurd c (by decide))
  refine J_iload_1 X dL_does_45 ?_
  refine J_iconst (v := 3) X dL_does_46 rfl ?_
  refine J_icmp_ne (tgt := 58) X dL_does_47 (by decide) (fun _ => ?_) (fun c => absurd c (by decide))
  refine J_iload_1 X dL_does_58 ?_
  refine J_iconst (v := 4) X dL_does_59 rfl ?_
  refine J_icmp_ne (tgt := 71) X dL_does_60 (by decide) (fun _ => ?_) (fun c => absurd c (by decide))
  refine J_iload_1 X dL_does_71 ?_
  refine J_iconst (v := 5) X dL_does_72 rfl ?_
  refine J_icmp_ne (tgt := 85) X dL_does_73 (by decide) (fun _ => ?_) (fun c => absurd c (by decide))
  refine J_iload_1 X dL_does_85 ?_
  refine J_bipush (v := (6 : Int32)) X dL_does_86 (by decide) ?_
  refine J_icmp_ne (tgt := 106) X dL_does_88 (by decide) (fun _ => ?_) (fun c => absurd c (by decide))
  refine J_iload_1 X dL_does_106 ?_
  refine J_bipush (v := (7 : Int32)) X dL_does_107 (by decide) ?_
  refine J_icmp_ne (tgt := 123) X dL_does_109 (by decide) (fun _ => ?_) (fun c => absurd c (by decide))
  refine J_iload_1 X dL_does_123 ?_
  refine J_bipush (v := (8 : Int32)) X dL_does_124 (by decide) ?_
  refine J_icmp_ne (tgt := 138) X dL_does_126 (by decide) (fun _ => ?_) (fun c => absurd c (by decide))
  refine J_iload_1 X dL_does_138 ?_
  refine J_bipush (v := (9 : Int32)) X dL_does_139 (by decide) ?_
  refine J_icmp_ne (tgt := 159) X dL_does_141 (by decide) (fun _ => ?_) (fun c => absurd c (by decide))
  refine J_iload_1 X dL_does_159 ?_
  refine J_bipush (v := (10 : Int32)) X dL_does_160 (by decide) ?_
  refine J_icmp_ne (tgt := 173) X dL_does_162 (by decide) (fun _ => ?_) (fun c => absurd c (by decide))
  refine J_iload_1 X dL_does_173 ?_
  refine J_bipush (v := (11 : Int32)) X dL_does_174 (by decide) ?_
  refine J_icmp_ne (tgt := 190) X dL_does_176 (by decide) (fun _ => ?_) (fun c => absurd c (by decide))
  refine J_iload_1 X dL_does_190 ?_
  refine J_bipush (v := (12 : Int32)) X dL_does_191 (by decide) ?_
  refine J_icmp_ne (tgt := 204) X dL_does_193 (by decide) (fun _ => ?_) (fun c => absurd c (by decide))
  refine J_iload_1 X dL_does_204 ?_
  refine J_bipush (v := (13 : Int32)) X dL_does_205 (by decide) ?_
  refine J_icmp_ne (tgt := 219) X dL_does_207 (by decide) (fun c => absurd (by decide) c) (fun _ => ?_)
  refine J_aload_0 X dL_does_210 ?_
  refine J_iload_2 X dL_does_211 ?_
  refine J_iload_3 X dL_does_212 ?_
  refine J_callV X (c_R_tell hX hI hO p1 p2) (And.intro gw_3_233 cw_X10_tell) hroot rfl rfl rfl (Nat.le_of_ble_eq_true rfl) dL_does_213 rfl (fun v h2 e => ?_) (fun E h2 e => ?_)
  · obtain ⟨e1, e2, e3⟩ := e
    subst e1
    show J K h2 [some (.ref r), some (.int (13 : Int32)), some (.int p1), some (.int p2), some (.int q3), some (.int q4), some (.int q5), none] [.int (M_tell σ p1 p2)] 216 2 12
    refine J_goto (tgt := 291) X dL_does_216 (by decide) ?_
    exact J_iret X rfl rfl ⟨by unfold DV_13; rw [if_pos e2], e3⟩ dL_does_291
  · obtain ⟨e3, e⟩ := e
    rcases e with e | e
    · obtain ⟨eE, et⟩ := e
      subst eE
      refine J_catch X [] ⟨0, 291, 292, 75⟩ [⟨0, 291, 297, 78⟩, ⟨0, 291, 302, 81⟩] rfl (fun w hw => absurd hw List.not_mem_nil) (by decide) (by decide) gw_2_180 (cst_in (i := 3) rfl) (fun q => ?_)
      refine J_astore_7 X dL_does_292 rfl (by decide) ?_
      refine J_ldc (v := (-3000000 : Int32)) X dL_does_294 gw_4_72 ?_
      exact J_iret X rfl rfl ⟨by unfold DV_13; rw [et]; rfl, e3⟩ dL_does_296
    · obtain ⟨eE, et⟩ := e
      subst eE
      refine J_catch X [⟨0, 291, 292, 75⟩] ⟨0, 291, 297, 78⟩ [⟨0, 291, 302, 81⟩] rfl (List.forall_mem_cons.mpr ⟨⟨by decide, _, gw_2_180, by decide⟩, (fun w hw => absurd hw List.not_mem_nil)⟩) (by decide) (by decide) gw_2_181 (cst_in (i := 10) rfl) (fun q => ?_)
      refine J_astore_7 X dL_does_297 rfl (by decide) ?_
      refine J_ldc (v := (-2000000 : Int32)) X dL_does_299 gw_4_73 ?_
      exact J_iret X rfl rfl ⟨by unfold DV_13; rw [et]; rfl, e3⟩ dL_does_301
/-- what the law sees of ofLamp -/
def DV_14 (σ : St) (p1 : Int32) (p2 : Int32) : Int32 := if M_ofLamp_s σ p1 p2 41 0 = 0 then M_ofLamp σ p1 p2 else if M_ofLamp_s σ p1 p2 41 0 = 1 then -3000000 else -2000000
set_option maxHeartbeats 1000000 in
theorem c_D_14 {l : Launch} {D : va_G} {ca : Nat → Nat} {h : fH} {r : Nat} {σ : St} (hX : RA ca h r σ) (hI : InvX σ) (hO : InvO σ) (p1 p2 q3 q4 q5 : Int32) : FM l D ca yL_does (.codeWith yL_does cL_does 8 (some .int) [(0, 291, 292, 75), (0, 291, 297, 78), (0, 291, 302, 81)]) { frames := 9, cells := 2, slots := 12, locals := 168 } [.ref r, .int (14 : Int32), .int p1, .int p2, .int q3, .int q4, .int q5] h (fun v h2 => v = some (.int (DV_14 σ p1 p2)) ∧ RA ca h2 r (σ)) noX := by
  refine FM.ofH [some (.ref r), some (.int (14 : Int32)), some (.int p1), some (.int p2), some (.int q3), some (.int q4), some (.int q5), none] (by decide) (Nat.le_of_ble_eq_true rfl) rfl ?_
  rintro K X rfl rfl rfl
  obtain ⟨vs, hroot⟩ := RA.root hX
  refine J_iload_1 X dL_does_0 ?_
  refine J_if_ne (tgt := 13) X dL_does_1 (by decide) (fun _ => ?_) (fun c => absurd c (by decide))
  refine J_iload_1 X dL_does_13 ?_
  refine J_iconst (v := 1) X dL_does_14 rfl ?_
  refine J_icmp_ne (tgt := 31) X dL_does_15 (by decide) (fun _ => ?_) (fun c => absurd c (by decide))
  refine J_iload_1 X dL_does_31 ?_
  refine J_iconst (v := 2) X dL_does_32 rfl ?_
  refine J_icmp_ne (tgt := 45) X dL_does_33 (by decide) (fun _ => ?_) (fun c => absurd c (by decide))
  refine J_iload_1 X dL_does_45 ?_
  refine J_iconst (v := 3) X dL_does_46 rfl ?_
  refine J_icmp_ne (tgt := 58) X dL_does_47 (by decide) (fun _ => ?_) (fun c => absurd c (by decide))
  refine J_iload_1 X dL_does_58 ?_
  refine J_iconst (v := 4) X dL_does_59 rfl ?_
  refine J_icmp_ne (tgt := 71) X dL_does_60 (by decide) (fun _ => ?_) (fun c => absurd c (by decide))
  refine J_iload_1 X dL_does_71 ?_
  refine J_iconst (v := 5) X dL_does_72 rfl ?_
  refine J_icmp_ne (tgt := 85) X dL_does_73 (by decide) (fun _ => ?_) (fun c => absurd c (by decide))
  refine J_iload_1 X dL_does_85 ?_
  refine J_bipush (v := (6 : Int32)) X dL_does_86 (by decide) ?_
  refine J_icmp_ne (tgt := 106) X dL_does_88 (by decide) (fun _ => ?_) (fun c => absurd c (by decide))
  refine J_iload_1 X dL_does_106 ?_
  refine J_bipush (v := (7 : Int32)) X dL_does_107 (by decide) ?_
  refine J_icmp_ne (tgt := 123) X dL_does_109 (by decide) (fun _ => ?_) (fun c => absurd c (by decide))
  refine J_iload_1 X dL_does_123 ?_
  refine J_bipush (v := (8 : Int32)) X dL_does_124 (by decide) ?_
  refine J_icmp_ne (tgt := 138) X dL_does_126 (by decide) (fun _ => ?_) (fun c => absurd c (by decide))
  refine J_iload_1 X dL_does_138 ?_
  refine J_bipush (v := (9 : Int32)) X dL_does_139 (by decide) ?_
  refine J_icmp_ne (tgt := 159) X dL_does_141 (by decide) (fun _ => ?_) (fun c => absurd c (by decide))
  refine J_iload_1 X dL_does_159 ?_
  refine J_bipush (v := (10 : Int32)) X dL_does_160 (by decide) ?_
  refine J_icmp_ne (tgt := 173) X dL_does_162 (by decide) (fun _ => ?_) (fun c => absurd c (by decide))
  refine J_iload_1 X dL_does_173 ?_
  refine J_bipush (v := (11 : Int32)) X dL_does_174 (by decide) ?_
  refine J_icmp_ne (tgt := 190) X dL_does_176 (by decide) (fun _ => ?_) (fun c => absurd c (by decide))
  refine J_iload_1 X dL_does_190 ?_
  refine J_bipush (v := (12 : Int32)) X dL_does_191 (by decide) ?_
  refine J_icmp_ne (tgt := 204) X dL_does_193 (by decide) (fun _ => ?_) (fun c => absurd c (by decide))
  refine J_iload_1 X dL_does_204 ?_
  refine J_bipush (v := (13 : Int32)) X dL_does_205 (by decide) ?_
  refine J_icmp_ne (tgt := 219) X dL_does_207 (by decide) (fun _ => ?_) (fun c => absurd c (by decide))
  refine J_iload_1 X dL_does_219 ?_
  refine J_bipush (v := (14 : Int32)) X dL_does_220 (by decide) ?_
  refine J_icmp_ne (tgt := 234) X dL_does_222 (by decide) (fun c => absurd (by decide) c) (fun _ => ?_)
  refine J_aload_0 X dL_does_225 ?_
  refine J_iload_2 X dL_does_226 ?_
  refine J_iload_3 X dL_does_227 ?_
  refine J_callV X (c_R_ofLamp hX hI hO p1 p2) (And.intro gw_3_237 cw_X10_ofLamp) hroot rfl rfl rfl (Nat.le_of_ble_eq_true rfl) dL_does_228 rfl (fun v h2 e => ?_) (fun E h2 e => ?_)
  · obtain ⟨e1, e2, e3⟩ := e
    subst e1
    show J K h2 [some (.ref r), some (.int (14 : Int32)), some (.int p1), some (.int p2), some (.int q3), some (.int q4), some (.int q5), none] [.int (M_ofLamp σ p1 p2)] 231 2 12
    refine J_goto (tgt := 291) X dL_does_231 (by decide) ?_
    exact J_iret X rfl rfl ⟨by unfold DV_14; rw [if_pos e2], (RA.ext e3 (S_ofLamp hI hO p1 p2))⟩ dL_does_291
  · obtain ⟨e3, e⟩ := e
    rcases e with e | e
    · obtain ⟨eE, et⟩ := e
      subst eE
      refine J_catch X [] ⟨0, 291, 292, 75⟩ [⟨0, 291, 297, 78⟩, ⟨0, 291, 302, 81⟩] rfl (fun w hw => absurd hw List.not_mem_nil) (by decide) (by decide) gw_2_180 (cst_in (i := 3) rfl) (fun q => ?_)
      refine J_astore_7 X dL_does_292 rfl (by decide) ?_
      refine J_ldc (v := (-3000000 : Int32)) X dL_does_294 gw_4_72 ?_
      exact J_iret X rfl rfl ⟨by unfold DV_14; rw [et]; rfl, (RA.ext e3 (S_ofLamp hI hO p1 p2))⟩ dL_does_296
    · obtain ⟨eE, et⟩ := e
      subst eE
      refine J_catch X [⟨0, 291, 292, 75⟩] ⟨0, 291, 297, 78⟩ [⟨0, 291, 302, 81⟩] rfl (List.forall_mem_cons.mpr ⟨⟨by decide, _, gw_2_180, by decide⟩, (fun w hw => absurd hw List.not_mem_nil)⟩) (by decide) (by decide) gw_2_181 (cst_in (i := 10) rfl) (fun q => ?_)
      refine J_astore_7 X dL_does_297 rfl (by decide) ?_
      refine J_ldc (v := (-2000000 : Int32)) X dL_does_299 gw_4_73 ?_
      exact J_iret X rfl rfl ⟨by unfold DV_14; rw [et]; rfl, (RA.ext e3 (S_ofLamp hI hO p1 p2))⟩ dL_does_301
/-- what the law sees of ofVillage -/
def DV_15 (σ : St) (p1 : Int32) (p2 : Int32) : Int32 := if M_ofVillage_s σ p1 p2 41 0 = 0 then M_ofVillage σ p1 p2 else if M_ofVillage_s σ p1 p2 41 0 = 1 then -3000000 else -2000000
set_option maxHeartbeats 1000000 in
theorem c_D_15 {l : Launch} {D : va_G} {ca : Nat → Nat} {h : fH} {r : Nat} {σ : St} (hX : RA ca h r σ) (hI : InvX σ) (hO : InvO σ) (p1 p2 q3 q4 q5 : Int32) : FM l D ca yL_does (.codeWith yL_does cL_does 8 (some .int) [(0, 291, 292, 75), (0, 291, 297, 78), (0, 291, 302, 81)]) { frames := 9, cells := 2, slots := 12, locals := 168 } [.ref r, .int (15 : Int32), .int p1, .int p2, .int q3, .int q4, .int q5] h (fun v h2 => v = some (.int (DV_15 σ p1 p2)) ∧ RA ca h2 r (σ)) noX := by
  refine FM.ofH [some (.ref r), some (.int (15 : Int32)), some (.int p1), some (.int p2), some (.int q3), some (.int q4), some (.int q5), none] (by decide) (Nat.le_of_ble_eq_true rfl) rfl ?_
  rintro K X rfl rfl rfl
  obtain ⟨vs, hroot⟩ := RA.root hX
  refine J_iload_1 X dL_does_0 ?_
  refine J_if_ne (tgt := 13) X dL_does_1 (by decide) (fun _ => ?_) (fun c => absurd c (by decide))
  refine J_iload_1 X dL_does_13 ?_
  refine J_iconst (v := 1) X dL_does_14 rfl ?_
  refine J_icmp_ne (tgt := 31) X dL_does_15 (by decide) (fun _ => ?_) (fun c => absurd c (by decide))
  refine J_iload_1 X dL_does_31 ?_
  refine J_iconst (v := 2) X dL_does_32 rfl ?_
  refine J_icmp_ne (tgt := 45) X dL_does_33 (by decide) (fun _ => ?_) (fun c => absurd c (by decide))
  refine J_iload_1 X dL_does_45 ?_
  refine J_iconst (v := 3) X dL_does_46 rfl ?_
  refine J_icmp_ne (tgt := 58) X dL_does_47 (by decide) (fun _ => ?_) (fun c => absurd c (by decide))
  refine J_iload_1 X dL_does_58 ?_
  refine J_iconst (v := 4) X dL_does_59 rfl ?_
  refine J_icmp_ne (tgt := 71) X dL_does_60 (by decide) (fun _ => ?_) (fun c => absurd c (by decide))
  refine J_iload_1 X dL_does_71 ?_
  refine J_iconst (v := 5) X dL_does_72 rfl ?_
  refine J_icmp_ne (tgt := 85) X dL_does_73 (by decide) (fun _ => ?_) (fun c => absurd c (by decide))
  refine J_iload_1 X dL_does_85 ?_
  refine J_bipush (v := (6 : Int32)) X dL_does_86 (by decide) ?_
  refine J_icmp_ne (tgt := 106) X dL_does_88 (by decide) (fun _ => ?_) (fun c => absurd c (by decide))
  refine J_iload_1 X dL_does_106 ?_
  refine J_bipush (v := (7 : Int32)) X dL_does_107 (by decide) ?_
  refine J_icmp_ne (tgt := 123) X dL_does_109 (by decide) (fun _ => ?_) (fun c => absurd c (by decide))
  refine J_iload_1 X dL_does_123 ?_
  refine J_bipush (v := (8 : Int32)) X dL_does_124 (by decide) ?_
  refine J_icmp_ne (tgt := 138) X dL_does_126 (by decide) (fun _ => ?_) (fun c => absurd c (by decide))
  refine J_iload_1 X dL_does_138 ?_
  refine J_bipush (v := (9 : Int32)) X dL_does_139 (by decide) ?_
  refine J_icmp_ne (tgt := 159) X dL_does_141 (by decide) (fun _ => ?_) (fun c => absurd c (by decide))
  refine J_iload_1 X dL_does_159 ?_
  refine J_bipush (v := (10 : Int32)) X dL_does_160 (by decide) ?_
  refine J_icmp_ne (tgt := 173) X dL_does_162 (by decide) (fun _ => ?_) (fun c => absurd c (by decide))
  refine J_iload_1 X dL_does_173 ?_
  refine J_bipush (v := (11 : Int32)) X dL_does_174 (by decide) ?_
  refine J_icmp_ne (tgt := 190) X dL_does_176 (by decide) (fun _ => ?_) (fun c => absurd c (by decide))
  refine J_iload_1 X dL_does_190 ?_
  refine J_bipush (v := (12 : Int32)) X dL_does_191 (by decide) ?_
  refine J_icmp_ne (tgt := 204) X dL_does_193 (by decide) (fun _ => ?_) (fun c => absurd c (by decide))
  refine J_iload_1 X dL_does_204 ?_
  refine J_bipush (v := (13 : Int32)) X dL_does_205 (by decide) ?_
  refine J_icmp_ne (tgt := 219) X dL_does_207 (by decide) (fun _ => ?_) (fun c => absurd c (by decide))
  refine J_iload_1 X dL_does_219 ?_
  refine J_bipush (v := (14 : Int32)) X dL_does_220 (by decide) ?_
  refine J_icmp_ne (tgt := 234) X dL_does_222 (by decide) (fun _ => ?_) (fun c => absurd c (by decide))
  refine J_iload_1 X dL_does_234 ?_
  refine J_bipush (v := (15 : Int32)) X dL_does_235 (by decide) ?_
  refine J_icmp_ne (tgt := 249) X dL_does_237 (by decide) (fun c => absurd (by decide) c) (fun _ => ?_)
  refine J_aload_0 X dL_does_240 ?_
  refine J_iload_2 X dL_does_241 ?_
  refine J_iload_3 X dL_does_242 ?_
  refine J_callV X (c_R_ofVillage hX hI hO p1 p2) (And.intro gw_4_2 cw_X10_ofVillage) hroot rfl rfl rfl (Nat.le_of_ble_eq_true rfl) dL_does_243 rfl (fun v h2 e => ?_) (fun E h2 e => ?_)
  · obtain ⟨e1, e2, e3⟩ := e
    subst e1
    show J K h2 [some (.ref r), some (.int (15 : Int32)), some (.int p1), some (.int p2), some (.int q3), some (.int q4), some (.int q5), none] [.int (M_ofVillage σ p1 p2)] 246 2 12
    refine J_goto (tgt := 291) X dL_does_246 (by decide) ?_
    exact J_iret X rfl rfl ⟨by unfold DV_15; rw [if_pos e2], (RA.ext e3 (S_ofVillage hI hO p1 p2))⟩ dL_does_291
  · obtain ⟨e3, e⟩ := e
    rcases e with e | e
    · obtain ⟨eE, et⟩ := e
      subst eE
      refine J_catch X [] ⟨0, 291, 292, 75⟩ [⟨0, 291, 297, 78⟩, ⟨0, 291, 302, 81⟩] rfl (fun w hw => absurd hw List.not_mem_nil) (by decide) (by decide) gw_2_180 (cst_in (i := 3) rfl) (fun q => ?_)
      refine J_astore_7 X dL_does_292 rfl (by decide) ?_
      refine J_ldc (v := (-3000000 : Int32)) X dL_does_294 gw_4_72 ?_
      exact J_iret X rfl rfl ⟨by unfold DV_15; rw [et]; rfl, (RA.ext e3 (S_ofVillage hI hO p1 p2))⟩ dL_does_296
    · obtain ⟨eE, et⟩ := e
      subst eE
      refine J_catch X [⟨0, 291, 292, 75⟩] ⟨0, 291, 297, 78⟩ [⟨0, 291, 302, 81⟩] rfl (List.forall_mem_cons.mpr ⟨⟨by decide, _, gw_2_180, by decide⟩, (fun w hw => absurd hw List.not_mem_nil)⟩) (by decide) (by decide) gw_2_181 (cst_in (i := 10) rfl) (fun q => ?_)
      refine J_astore_7 X dL_does_297 rfl (by decide) ?_
      refine J_ldc (v := (-2000000 : Int32)) X dL_does_299 gw_4_73 ?_
      exact J_iret X rfl rfl ⟨by unfold DV_15; rw [et]; rfl, (RA.ext e3 (S_ofVillage hI hO p1 p2))⟩ dL_does_301
/-- what the law sees of way -/
def DV_16 (σ : St) (p1 : Int32) (p2 : Int32) (p3 : Int32) : Int32 := if M_way_s σ p1 p2 p3 41 0 = 0 then M_way σ p1 p2 p3 else if M_way_s σ p1 p2 p3 41 0 = 1 then -3000000 else -2000000
set_option maxHeartbeats 1000000 in
theorem c_D_16 {l : Launch} {D : va_G} {ca : Nat → Nat} {h : fH} {r : Nat} {σ : St} (hX : RA ca h r σ) (hI : InvX σ) (hO : InvO σ) (p1 p2 p3 q4 q5 : Int32) : FM l D ca yL_does (.codeWith yL_does cL_does 8 (some .int) [(0, 291, 292, 75), (0, 291, 297, 78), (0, 291, 302, 81)]) { frames := 8, cells := 3, slots := 18, locals := 151 } [.ref r, .int (16 : Int32), .int p1, .int p2, .int p3, .int q4, .int q5] h (fun v h2 => v = some (.int (DV_16 σ p1 p2 p3)) ∧ RA ca h2 r (σ)) noX := by
  refine FM.ofH [some (.ref r), some (.int (16 : Int32)), some (.int p1), some (.int p2), some (.int p3), some (.int q4), some (.int q5), none] (by decide) (Nat.le_of_ble_eq_true rfl) rfl ?_
  rintro K X rfl rfl rfl
  obtain ⟨vs, hroot⟩ := RA.root hX
  refine J_iload_1 X dL_does_0 ?_
  refine J_if_ne (tgt := 13) X dL_does_1 (by decide) (fun _ => ?_) (fun c => absurd c (by decide))
  refine J_iload_1 X dL_does_13 ?_
  refine J_iconst (v := 1) X dL_does_14 rfl ?_
  refine J_icmp_ne (tgt := 31) X dL_does_15 (by decide) (fun _ => ?_) (fun c => absurd c (by decide))
  refine J_iload_1 X dL_does_31 ?_
  refine J_iconst (v := 2) X dL_does_32 rfl ?_
  refine J_icmp_ne (tgt := 45) X dL_does_33 (by decide) (fun _ => ?_) (fun c => absurd c (by decide))
  refine J_iload_1 X dL_does_45 ?_
  refine J_iconst (v := 3) X dL_does_46 rfl ?_
  refine J_icmp_ne (tgt := 58) X dL_does_47 (by decide) (fun _ => ?_) (fun c => absurd c (by decide))
  refine J_iload_1 X dL_does_58 ?_
  refine J_iconst (v := 4) X dL_does_59 rfl ?_
  refine J_icmp_ne (tgt := 71) X dL_does_60 (by decide) (fun _ => ?_) (fun c => absurd c (by decide))
  refine J_iload_1 X dL_does_71 ?_
  refine J_iconst (v := 5) X dL_does_72 rfl ?_
  refine J_icmp_ne (tgt := 85) X dL_does_73 (by decide) (fun _ => ?_) (fun c => absurd c (by decide))
  refine J_iload_1 X dL_does_85 ?_
  refine J_bipush (v := (6 : Int32)) X dL_does_86 (by decide) ?_
  refine J_icmp_ne (tgt := 106) X dL_does_88 (by decide) (fun _ => ?_) (fun c => absurd c (by decide))
  refine J_iload_1 X dL_does_106 ?_
  refine J_bipush (v := (7 : Int32)) X dL_does_107 (by decide) ?_
  refine J_icmp_ne (tgt := 123) X dL_does_109 (by decide) (fun _ => ?_) (fun c => absurd c (by decide))
  refine J_iload_1 X dL_does_123 ?_
  refine J_bipush (v := (8 : Int32)) X dL_does_124 (by decide) ?_
  refine J_icmp_ne (tgt := 138) X dL_does_126 (by decide) (fun _ => ?_) (fun c => absurd c (by decide))
  refine J_iload_1 X dL_does_138 ?_
  refine J_bipush (v := (9 : Int32)) X dL_does_139 (by decide) ?_
  refine J_icmp_ne (tgt := 159) X dL_does_141 (by decide) (fun _ => ?_) (fun c => absurd c (by decide))
  refine J_iload_1 X dL_does_159 ?_
  refine J_bipush (v := (10 : Int32)) X dL_does_160 (by decide) ?_
  refine J_icmp_ne (tgt := 173) X dL_does_162 (by decide) (fun _ => ?_) (fun c => absurd c (by decide))
  refine J_iload_1 X dL_does_173 ?_
  refine J_bipush (v := (11 : Int32)) X dL_does_174 (by decide) ?_
  refine J_icmp_ne (tgt := 190) X dL_does_176 (by decide) (fun _ => ?_) (fun c => absurd c (by decide))
  refine J_iload_1 X dL_does_190 ?_
  refine J_bipush (v := (12 : Int32)) X dL_does_191 (by decide) ?_
  refine J_icmp_ne (tgt := 204) X dL_does_193 (by decide) (fun _ => ?_) (fun c => absurd c (by decide))
  refine J_iload_1 X dL_does_204 ?_
  refine J_bipush (v := (13 : Int32)) X dL_does_205 (by decide) ?_
  refine J_icmp_ne (tgt := 219) X dL_does_207 (by decide) (fun _ => ?_) (fun c => absurd c (by decide))
  refine J_iload_1 X dL_does_219 ?_
  refine J_bipush (v := (14 : Int32)) X dL_does_220 (by decide) ?_
  refine J_icmp_ne (tgt := 234) X dL_does_222 (by decide) (fun _ => ?_) (fun c => absurd c (by decide))
  refine J_iload_1 X dL_does_234 ?_
  refine J_bipush (v := (15 : Int32)) X dL_does_235 (by decide) ?_
  refine J_icmp_ne (tgt := 249) X dL_does_237 (by decide) (fun _ => ?_) (fun c => absurd c (by decide))
  refine J_iload_1 X dL_does_249 ?_
  refine J_bipush (v := (16 : Int32)) X dL_does_250 (by decide) ?_
  refine J_icmp_ne (tgt := 266) X dL_does_252 (by decide) (fun c => absurd (by decide) c) (fun _ => ?_)
  refine J_aload_0 X dL_does_255 ?_
  refine J_iload_2 X dL_does_256 ?_
  refine J_iload_3 X dL_does_257 ?_
  refine J_iload_4 X dL_does_258 ?_
  refine J_callV X (c_R_way hX hI hO p1 p2 p3) (And.intro gw_4_10 cw_X10_way) hroot rfl rfl rfl (Nat.le_of_ble_eq_true rfl) dL_does_260 rfl (fun v h2 e => ?_) (fun E h2 e => ?_)
  · obtain ⟨e1, e2, e3⟩ := e
    subst e1
    show J K h2 [some (.ref r), some (.int (16 : Int32)), some (.int p1), some (.int p2), some (.int p3), some (.int q4), some (.int q5), none] [.int (M_way σ p1 p2 p3)] 263 3 18
    refine J_goto (tgt := 291) X dL_does_263 (by decide) ?_
    exact J_iret X rfl rfl ⟨by unfold DV_16; rw [if_pos e2], (RA.ext e3 (S_way hI hO p1 p2 p3))⟩ dL_does_291
  · obtain ⟨e3, e⟩ := e
    rcases e with e | e
    · obtain ⟨eE, et⟩ := e
      subst eE
      refine J_catch X [] ⟨0, 291, 292, 75⟩ [⟨0, 291, 297, 78⟩, ⟨0, 291, 302, 81⟩] rfl (fun w hw => absurd hw List.not_mem_nil) (by decide) (by decide) gw_2_180 (cst_in (i := 3) rfl) (fun q => ?_)
      refine J_astore_7 X dL_does_292 rfl (by decide) ?_
      refine J_ldc (v := (-3000000 : Int32)) X dL_does_294 gw_4_72 ?_
      exact J_iret X rfl rfl ⟨by unfold DV_16; rw [et]; rfl, (RA.ext e3 (S_way hI hO p1 p2 p3))⟩ dL_does_296
    · obtain ⟨eE, et⟩ := e
      subst eE
      refine J_catch X [⟨0, 291, 292, 75⟩] ⟨0, 291, 297, 78⟩ [⟨0, 291, 302, 81⟩] rfl (List.forall_mem_cons.mpr ⟨⟨by decide, _, gw_2_180, by decide⟩, (fun w hw => absurd hw List.not_mem_nil)⟩) (by decide) (by decide) gw_2_181 (cst_in (i := 10) rfl) (fun q => ?_)
      refine J_astore_7 X dL_does_297 rfl (by decide) ?_
      refine J_ldc (v := (-2000000 : Int32)) X dL_does_299 gw_4_73 ?_
      exact J_iret X rfl rfl ⟨by unfold DV_16; rw [et]; rfl, (RA.ext e3 (S_way hI hO p1 p2 p3))⟩ dL_does_301
/-- what the law sees of ofReading -/
def DV_17 (σ : St) (p1 : Int32) (p2 : Int32) (p3 : Int32) : Int32 := if M_ofReading_s σ p1 p2 p3 41 0 = 0 then M_ofReading σ p1 p2 p3 else if M_ofReading_s σ p1 p2 p3 41 0 = 1 then -3000000 else -2000000
set_option maxHeartbeats 1000000 in
theorem c_D_17 {l : Launch} {D : va_G} {ca : Nat → Nat} {h : fH} {r : Nat} {σ : St} (hX : RA ca h r σ) (hI : InvX σ) (hO : InvO σ) (p1 p2 p3 q4 q5 : Int32) : FM l D ca yL_does (.codeWith yL_does cL_does 8 (some .int) [(0, 291, 292, 75), (0, 291, 297, 78), (0, 291, 302, 81)]) { frames := 9, cells := 3, slots := 18, locals := 172 } [.ref r, .int (17 : Int32), .int p1, .int p2, .int p3, .int q4, .int q5] h (fun v h2 => v = some (.int (DV_17 σ p1 p2 p3)) ∧ RA ca h2 r (σ)) noX := by
  refine FM.ofH [some (.ref r), some (.int (17 : Int32)), some (.int p1), some (.int p2), some (.int p3), some (.int q4), some (.int q5), none] (by decide) (Nat.le_of_ble_eq_true rfl) rfl ?_
  rintro K X rfl rfl rfl
  obtain ⟨vs, hroot⟩ := RA.root hX
  refine J_iload_1 X dL_does_0 ?_
  refine J_if_ne (tgt := 13) X dL_does_1 (by decide) (fun _ => ?_) (fun c => absurd c (by decide))
  refine J_iload_1 X dL_does_13 ?_
  refine J_iconst (v := 1) X dL_does_14 rfl ?_
  refine J_icmp_ne (tgt := 31) X dL_does_15 (by decide) (fun _ => ?_) (fun c => absurd c (by decide))
  refine J_iload_1 X dL_does_31 ?_
  refine J_iconst (v := 2) X dL_does_32 rfl ?_
  refine J_icmp_ne (tgt := 45) X dL_does_33 (by decide) (fun _ => ?_) (fun c => absurd c (by decide))
  refine J_iload_1 X dL_does_45 ?_
  refine J_iconst (v := 3) X dL_does_46 rfl ?_
  refine J_icmp_ne (tgt := 58) X dL_does_47 (by decide) (fun _ => ?_) (fun c => absurd c (by decide))
  refine J_iload_1 X dL_does_58 ?_
  refine J_iconst (v := 4) X dL_does_59 rfl ?_
  refine J_icmp_ne (tgt := 71) X dL_does_60 (by decide) (fun _ => ?_) (fun c => absurd c (by decide))
  refine J_iload_1 X dL_does_71 ?_
  refine J_iconst (v := 5) X dL_does_72 rfl ?_
  refine J_icmp_ne (tgt := 85) X dL_does_73 (by decide) (fun _ => ?_) (fun c => absurd c (by decide))
  refine J_iload_1 X dL_does_85 ?_
  refine J_bipush (v := (6 : Int32)) X dL_does_86 (by decide) ?_
  refine J_icmp_ne (tgt := 106) X dL_does_88 (by decide) (fun _ => ?_) (fun c => absurd c (by decide))
  refine J_iload_1 X dL_does_106 ?_
  refine J_bipush (v := (7 : Int32)) X dL_does_107 (by decide) ?_
  refine J_icmp_ne (tgt := 123) X dL_does_109 (by decide) (fun _ => ?_) (fun c => absurd c (by decide))
  refine J_iload_1 X dL_does_123 ?_
  refine J_bipush (v := (8 : Int32)) X dL_does_124 (by decide) ?_
  refine J_icmp_ne (tgt := 138) X dL_does_126 (by decide) (fun _ => ?_) (fun c => absurd c (by decide))
  refine J_iload_1 X dL_does_138 ?_
  refine J_bipush (v := (9 : Int32)) X dL_does_139 (by decide) ?_
  refine J_icmp_ne (tgt := 159) X dL_does_141 (by decide) (fun _ => ?_) (fun c => absurd c (by decide))
  refine J_iload_1 X dL_does_159 ?_
  refine J_bipush (v := (10 : Int32)) X dL_does_160 (by decide) ?_
  refine J_icmp_ne (tgt := 173) X dL_does_162 (by decide) (fun _ => ?_) (fun c => absurd c (by decide))
  refine J_iload_1 X dL_does_173 ?_
  refine J_bipush (v := (11 : Int32)) X dL_does_174 (by decide) ?_
  refine J_icmp_ne (tgt := 190) X dL_does_176 (by decide) (fun _ => ?_) (fun c => absurd c (by decide))
  refine J_iload_1 X dL_does_190 ?_
  refine J_bipush (v := (12 : Int32)) X dL_does_191 (by decide) ?_
  refine J_icmp_ne (tgt := 204) X dL_does_193 (by decide) (fun _ => ?_) (fun c => absurd c (by decide))
  refine J_iload_1 X dL_does_204 ?_
  refine J_bipush (v := (13 : Int32)) X dL_does_205 (by decide) ?_
  refine J_icmp_ne (tgt := 219) X dL_does_207 (by decide) (fun _ => ?_) (fun c => absurd c (by decide))
  refine J_iload_1 X dL_does_219 ?_
  refine J_bipush (v := (14 : Int32)) X dL_does_220 (by decide) ?_
  refine J_icmp_ne (tgt := 234) X dL_does_222 (by decide) (fun _ => ?_) (fun c => absurd c (by decide))
  refine J_iload_1 X dL_does_234 ?_
  refine J_bipush (v := (15 : Int32)) X dL_does_235 (by decide) ?_
  refine J_icmp_ne (tgt := 249) X dL_does_237 (by decide) (fun _ => ?_) (fun c => absurd c (by decide))
  refine J_iload_1 X dL_does_249 ?_
  refine J_bipush (v := (16 : Int32)) X dL_does_250 (by decide) ?_
  refine J_icmp_ne (tgt := 266) X dL_does_252 (by decide) (fun _ => ?_) (fun c => absurd c (by decide))
  refine J_iload_1 X dL_does_266 ?_
  refine J_bipush (v := (17 : Int32)) X dL_does_267 (by decide) ?_
  refine J_icmp_ne (tgt := 283) X dL_does_269 (by decide) (fun c => absurd (by decide) c) (fun _ => ?_)
  refine J_aload_0 X dL_does_272 ?_
  refine J_iload_2 X dL_does_273 ?_
  refine J_iload_3 X dL_does_274 ?_
  refine J_iload_4 X dL_does_275 ?_
  refine J_callV X (c_R_ofReading hX hI hO p1 p2 p3) (And.intro gw_4_39 cw_X10_ofReading) hroot rfl rfl rfl (Nat.le_of_ble_eq_true rfl) dL_does_277 rfl (fun v h2 e => ?_) (fun E h2 e => ?_)
  · obtain ⟨e1, e2, e3⟩ := e
    subst e1
    show J K h2 [some (.ref r), some (.int (17 : Int32)), some (.int p1), some (.int p2), some (.int p3), some (.int q4), some (.int q5), none] [.int (M_ofReading σ p1 p2 p3)] 280 3 18
    refine J_goto (tgt := 291) X dL_does_280 (by decide) ?_
    exact J_iret X rfl rfl ⟨by unfold DV_17; rw [if_pos e2], (RA.ext e3 (S_ofReading hI hO p1 p2 p3))⟩ dL_does_291
  · obtain ⟨e3, e⟩ := e
    rcases e with e | e
    · obtain ⟨eE, et⟩ := e
      subst eE
      refine J_catch X [] ⟨0, 291, 292, 75⟩ [⟨0, 291, 297, 78⟩, ⟨0, 291, 302, 81⟩] rfl (fun w hw => absurd hw List.not_mem_nil) (by decide) (by decide) gw_2_180 (cst_in (i := 3) rfl) (fun q => ?_)
      refine J_astore_7 X dL_does_292 rfl (by decide) ?_
      refine J_ldc (v := (-3000000 : Int32)) X dL_does_294 gw_4_72 ?_
      exact J_iret X rfl rfl ⟨by unfold DV_17; rw [et]; rfl, (RA.ext e3 (S_ofReading hI hO p1 p2 p3))⟩ dL_does_296
    · obtain ⟨eE, et⟩ := e
      subst eE
      refine J_catch X [⟨0, 291, 292, 75⟩] ⟨0, 291, 297, 78⟩ [⟨0, 291, 302, 81⟩] rfl (List.forall_mem_cons.mpr ⟨⟨by decide, _, gw_2_180, by decide⟩, (fun w hw => absurd hw List.not_mem_nil)⟩) (by decide) (by decide) gw_2_181 (cst_in (i := 10) rfl) (fun q => ?_)
      refine J_astore_7 X dL_does_297 rfl (by decide) ?_
      refine J_ldc (v := (-2000000 : Int32)) X dL_does_299 gw_4_73 ?_
      exact J_iret X rfl rfl ⟨by unfold DV_17; rw [et]; rfl, (RA.ext e3 (S_ofReading hI hO p1 p2 p3))⟩ dL_does_301
/-- what the law sees of plan -/
def DV_18 (σ : St) (p1 : Int32) (p2 : Int32) (p3 : Int32) : Int32 := if M_plan_s σ p1 p2 p3 41 0 = 0 then M_plan σ p1 p2 p3 else if M_plan_s σ p1 p2 p3 41 0 = 1 then -3000000 else -2000000
set_option maxHeartbeats 1000000 in
theorem c_D_18 {l : Launch} {D : va_G} {ca : Nat → Nat} {h : fH} {r : Nat} {σ : St} (hX : RA ca h r σ) (hI : InvX σ) (hO : InvO σ) (p1 p2 p3 q4 q5 : Int32) : FM l D ca yL_does (.codeWith yL_does cL_does 8 (some .int) [(0, 291, 292, 75), (0, 291, 297, 78), (0, 291, 302, 81)]) { frames := 9, cells := 3, slots := 18, locals := 176 } [.ref r, .int (18 : Int32), .int p1, .int p2, .int p3, .int q4, .int q5] h (fun v h2 => v = some (.int (DV_18 σ p1 p2 p3)) ∧ RA ca h2 r (σ)) noX := by
  refine FM.ofH [some (.ref r), some (.int (18 : Int32)), some (.int p1), some (.int p2), some (.int p3), some (.int q4), some (.int q5), none] (by decide) (Nat.le_of_ble_eq_true rfl) rfl ?_
  rintro K X rfl rfl rfl
  obtain ⟨vs, hroot⟩ := RA.root hX
  refine J_iload_1 X dL_does_0 ?_
  refine J_if_ne (tgt := 13) X dL_does_1 (by decide) (fun _ => ?_) (fun c => absurd c (by decide))
  refine J_iload_1 X dL_does_13 ?_
  refine J_iconst (v := 1) X dL_does_14 rfl ?_
  refine J_icmp_ne (tgt := 31) X dL_does_15 (by decide) (fun _ => ?_) (fun c => absurd c (by decide))
  refine J_iload_1 X dL_does_31 ?_
  refine J_iconst (v := 2) X dL_does_32 rfl ?_
  refine J_icmp_ne (tgt := 45) X dL_does_33 (by decide) (fun _ => ?_) (fun c => absurd c (by decide))
  refine J_iload_1 X dL_does_45 ?_
  refine J_iconst (v := 3) X dL_does_46 rfl ?_
  refine J_icmp_ne (tgt := 58) X dL_does_47 (by decide) (fun _ => ?_) (fun c => absurd c (by decide))
  refine J_iload_1 X dL_does_58 ?_
  refine J_iconst (v := 4) X dL_does_59 rfl ?_
  refine J_icmp_ne (tgt := 71) X dL_does_60 (by decide) (fun _ => ?_) (fun c => absurd c (by decide))
  refine J_iload_1 X dL_does_71 ?_
  refine J_iconst (v := 5) X dL_does_72 rfl ?_
  refine J_icmp_ne (tgt := 85) X dL_does_73 (by decide) (fun _ => ?_) (fun c => absurd c (by decide))
  refine J_iload_1 X dL_does_85 ?_
  refine J_bipush (v := (6 : Int32)) X dL_does_86 (by decide) ?_
  refine J_icmp_ne (tgt := 106) X dL_does_88 (by decide) (fun _ => ?_) (fun c => absurd c (by decide))
  refine J_iload_1 X dL_does_106 ?_
  refine J_bipush (v := (7 : Int32)) X dL_does_107 (by decide) ?_
  refine J_icmp_ne (tgt := 123) X dL_does_109 (by decide) (fun _ => ?_) (fun c => absurd c (by decide))
  refine J_iload_1 X dL_does_123 ?_
  refine J_bipush (v := (8 : Int32)) X dL_does_124 (by decide) ?_
  refine J_icmp_ne (tgt := 138) X dL_does_126 (by decide) (fun _ => ?_) (fun c => absurd c (by decide))
  refine J_iload_1 X dL_does_138 ?_
  refine J_bipush (v := (9 : Int32)) X dL_does_139 (by decide) ?_
  refine J_icmp_ne (tgt := 159) X dL_does_141 (by decide) (fun _ => ?_) (fun c => absurd c (by decide))
  refine J_iload_1 X dL_does_159 ?_
  refine J_bipush (v := (10 : Int32)) X dL_does_160 (by decide) ?_
  refine J_icmp_ne (tgt := 173) X dL_does_162 (by decide) (fun _ => ?_) (fun c => absurd c (by decide))
  refine J_iload_1 X dL_does_173 ?_
  refine J_bipush (v := (11 : Int32)) X dL_does_174 (by decide) ?_
  refine J_icmp_ne (tgt := 190) X dL_does_176 (by decide) (fun _ => ?_) (fun c => absurd c (by decide))
  refine J_iload_1 X dL_does_190 ?_
  refine J_bipush (v := (12 : Int32)) X dL_does_191 (by decide) ?_
  refine J_icmp_ne (tgt := 204) X dL_does_193 (by decide) (fun _ => ?_) (fun c => absurd c (by decide))
  refine J_iload_1 X dL_does_204 ?_
  refine J_bipush (v := (13 : Int32)) X dL_does_205 (by decide) ?_
  refine J_icmp_ne (tgt := 219) X dL_does_207 (by decide) (fun _ => ?_) (fun c => absurd c (by decide))
  refine J_iload_1 X dL_does_219 ?_
  refine J_bipush (v := (14 : Int32)) X dL_does_220 (by decide) ?_
  refine J_icmp_ne (tgt := 234) X dL_does_222 (by decide) (fun _ => ?_) (fun c => absurd c (by decide))
  refine J_iload_1 X dL_does_234 ?_
  refine J_bipush (v := (15 : Int32)) X dL_does_235 (by decide) ?_
  refine J_icmp_ne (tgt := 249) X dL_does_237 (by decide) (fun _ => ?_) (fun c => absurd c (by decide))
  refine J_iload_1 X dL_does_249 ?_
  refine J_bipush (v := (16 : Int32)) X dL_does_250 (by decide) ?_
  refine J_icmp_ne (tgt := 266) X dL_does_252 (by decide) (fun _ => ?_) (fun c => absurd c (by decide))
  refine J_iload_1 X dL_does_266 ?_
  refine J_bipush (v := (17 : Int32)) X dL_does_267 (by decide) ?_
  refine J_icmp_ne (tgt := 283) X dL_does_269 (by decide) (fun _ => ?_) (fun c => absurd c (by decide))
  refine J_aload_0 X dL_does_283 ?_
  refine J_iload_2 X dL_does_284 ?_
  refine J_iload_3 X dL_does_285 ?_
  refine J_iload_4 X dL_does_286 ?_
  refine J_callV X (c_R_plan hX hI hO p1 p2 p3) (And.intro gw_4_48 cw_X10_plan) hroot rfl rfl rfl (Nat.le_of_ble_eq_true rfl) dL_does_288 rfl (fun v h2 e => ?_) (fun E h2 e => ?_)
  · obtain ⟨e1, e2, e3⟩ := e
    subst e1
    show J K h2 [some (.ref r), some (.int (18 : Int32)), some (.int p1), some (.int p2), some (.int p3), some (.int q4), some (.int q5), none] [.int (M_plan σ p1 p2 p3)] 291 3 18
    exact J_iret X rfl rfl ⟨by unfold DV_18; rw [if_pos e2], (RA.ext e3 (S_plan hI hO p1 p2 p3))⟩ dL_does_291
  · obtain ⟨e3, e⟩ := e
    rcases e with e | e
    · obtain ⟨eE, et⟩ := e
      subst eE
      refine J_catch X [] ⟨0, 291, 292, 75⟩ [⟨0, 291, 297, 78⟩, ⟨0, 291, 302, 81⟩] rfl (fun w hw => absurd hw List.not_mem_nil) (by decide) (by decide) gw_2_180 (cst_in (i := 3) rfl) (fun q => ?_)
      refine J_astore_7 X dL_does_292 rfl (by decide) ?_
      refine J_ldc (v := (-3000000 : Int32)) X dL_does_294 gw_4_72 ?_
      exact J_iret X rfl rfl ⟨by unfold DV_18; rw [et]; rfl, (RA.ext e3 (S_plan hI hO p1 p2 p3))⟩ dL_does_296
    · obtain ⟨eE, et⟩ := e
      subst eE
      refine J_catch X [⟨0, 291, 292, 75⟩] ⟨0, 291, 297, 78⟩ [⟨0, 291, 302, 81⟩] rfl (List.forall_mem_cons.mpr ⟨⟨by decide, _, gw_2_180, by decide⟩, (fun w hw => absurd hw List.not_mem_nil)⟩) (by decide) (by decide) gw_2_181 (cst_in (i := 10) rfl) (fun q => ?_)
      refine J_astore_7 X dL_does_297 rfl (by decide) ?_
      refine J_ldc (v := (-2000000 : Int32)) X dL_does_299 gw_4_73 ?_
      exact J_iret X rfl rfl ⟨by unfold DV_18; rw [et]; rfl, (RA.ext e3 (S_plan hI hO p1 p2 p3))⟩ dL_does_301
end
