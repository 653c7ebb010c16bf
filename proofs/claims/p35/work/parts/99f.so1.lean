noncomputable section
theorem c_Q_time {l : Launch} {D : va_G} {ca : Nat → Nat} {h : fH} {r : Nat} {ξ : St} (hX : RA ca h r ξ) (hI : InvX ξ) (hO : InvO ξ) : FM l D ca yX10_time (.code yX10_time cX10_time 1 (some .int)) { frames := 1, cells := 0, slots := 0, locals := 20 } [.ref r] h (fun v h2 => v = some (.int (M_time ξ)) ∧ RA ca h2 r ξ) noX := (c_R_time hX hI hO).conseq (fun v h2 e => ⟨e.1, RA.ext e.2.2 (S_time hI hO)⟩) (fun E h2 e => e)
theorem c_Q_isHeld {l : Launch} {D : va_G} {ca : Nat → Nat} {h : fH} {r : Nat} {ξ : St} (hX : RA ca h r ξ) (hI : InvX ξ) (hO : InvO ξ) : FM l D ca yX10_isHeld (.code yX10_isHeld cX10_isHeld 1 (some .boolean)) { frames := 1, cells := 0, slots := 0, locals := 20 } [.ref r] h (fun v h2 => v = some (.int (M_isHeld ξ)) ∧ RA ca h2 r ξ) noX := (c_R_isHeld hX hI hO).conseq (fun v h2 e => ⟨e.1, RA.ext e.2.2 (S_isHeld hI hO)⟩) (fun E h2 e => e)
theorem c_Q_ofLamp {l : Launch} {D : va_G} {ca : Nat → Nat} {h : fH} {r : Nat} {ξ : St} (hX : RA ca h r ξ) (hI : InvX ξ) (hO : InvO ξ) (p1 : Int32) (p2 : Int32) (e : M_ofLamp_s ξ p1 p2 41 0 = 0) : FM l D ca yX10_ofLamp (.code yX10_ofLamp cX10_ofLamp 4 (some .int)) { frames := 8, cells := 2, slots := 12, locals := 145 } [.ref r, .int p1, .int p2] h (fun v h2 => v = some (.int (M_ofLamp ξ p1 p2)) ∧ RA ca h2 r ξ) noX := (c_R_ofLamp hX hI hO p1 p2).conseq (fun v h2 e => ⟨e.1, RA.ext e.2.2 (S_ofLamp hI hO p1 p2)⟩) (fun E h2 e1 => by
  have q := e1.2
  rw [e] at q
  rcases q with q | q <;> exact absurd q.2 (by decide))
theorem c_Q_gives {l : Launch} {D : va_G} {ca : Nat → Nat} {h : fH} {r : Nat} {ξ : St} (hX : RA ca h r ξ) (hI : InvX ξ) (hO : InvO ξ) (p1 : Int32) (p2 : Int32) (e : M_gives_s ξ p1 p2 41 0 = 0) : FM l D ca yX10_gives (.code yX10_gives cX10_gives 4 (some .int)) { frames := 8, cells := 2, slots := 12, locals := 145 } [.ref r, .int p1, .int p2] h (fun v h2 => v = some (.int (M_gives ξ p1 p2)) ∧ RA ca h2 r ξ) noX := (c_R_gives hX hI hO p1 p2).conseq (fun v h2 e => ⟨e.1, RA.ext e.2.2 (S_gives hI hO p1 p2)⟩) (fun E h2 e1 => by
  have q := e1.2
  rw [e] at q
  exact absurd q.2 (by decide))
theorem c_Q_culprit {l : Launch} {D : va_G} {ca : Nat → Nat} {h : fH} {r : Nat} {ξ : St} (hX : RA ca h r ξ) (hI : InvX ξ) (hO : InvO ξ) (p1 : Int32) (e : M_culprit_s ξ p1 41 0 = 0) : FM l D ca yX10_culprit (.code yX10_culprit cX10_culprit 7 (some .int)) { frames := 8, cells := 1, slots := 6, locals := 148 } [.ref r, .int p1] h (fun v h2 => v = some (.int (M_culprit ξ p1)) ∧ RA ca h2 r ξ) noX := (c_R_culprit hX hI hO p1).conseq (fun v h2 e => ⟨e.1, RA.ext e.2.2 (S_culprit hI hO p1)⟩) (fun E h2 e1 => by
  have q := e1.2
  rw [e] at q
  exact absurd q.2 (by decide))
theorem c_Q_glow {l : Launch} {D : va_G} {ca : Nat → Nat} {h : fH} {r : Nat} {ξ : St} (hX : RA ca h r ξ) (hI : InvX ξ) (hO : InvO ξ) (p1 : Int32) (e : M_glow_s ξ p1 41 0 = 0) : FM l D ca yX10_glow (.code yX10_glow cX10_glow 2 (some .int)) { frames := 8, cells := 1, slots := 6, locals := 161 } [.ref r, .int p1] h (fun v h2 => v = some (.int (M_glow ξ p1)) ∧ RA ca h2 r ξ) noX := (c_R_glow hX hI hO p1).conseq (fun v h2 e => ⟨e.1, RA.ext e.2.2 (S_glow hI hO p1)⟩) (fun E h2 e1 => by
  have q := e1.2
  rw [e] at q
  exact absurd q.2 (by decide))
theorem c_Q_glowFrom {l : Launch} {D : va_G} {ca : Nat → Nat} {h : fH} {r : Nat} {ξ : St} (hX : RA ca h r ξ) (hI : InvX ξ) (hO : InvO ξ) (p1 : Int32) (p2 : Int32) (e : M_glowFrom_s ξ p1 p2 41 0 = 0) : FM l D ca yX10_glowFrom (.code yX10_glowFrom cX10_glowFrom 7 (some .int)) { frames := 8, cells := 2, slots := 12, locals := 148 } [.ref r, .int p1, .int p2] h (fun v h2 => v = some (.int (M_glowFrom ξ p1 p2)) ∧ RA ca h2 r ξ) noX := (c_R_glowFrom hX hI hO p1 p2).conseq (fun v h2 e => ⟨e.1, RA.ext e.2.2 (S_glowFrom hI hO p1 p2)⟩) (fun E h2 e1 => by
  have q := e1.2
  rw [e] at q
  rcases q with q | q <;> exact absurd q.2 (by decide))
theorem c_Q_ground {l : Launch} {D : va_G} {ca : Nat → Nat} {h : fH} {r : Nat} {ξ : St} (hX : RA ca h r ξ) (hI : InvX ξ) (hO : InvO ξ) (p1 : Int32) (e : M_ground_s ξ p1 41 0 = 0) : FM l D ca yX10_ground (.code yX10_ground cX10_ground 6 (some .int)) { frames := 8, cells := 1, slots := 6, locals := 147 } [.ref r, .int p1] h (fun v h2 => v = some (.int (M_ground ξ p1)) ∧ RA ca h2 r ξ) noX := (c_R_ground hX hI hO p1).conseq (fun v h2 e => ⟨e.1, RA.ext e.2.2 (S_ground hI hO p1)⟩) (fun E h2 e1 => by
  have q := e1.2
  rw [e] at q
  exact absurd q.2 (by decide))
theorem c_Q_ofVillage {l : Launch} {D : va_G} {ca : Nat → Nat} {h : fH} {r : Nat} {ξ : St} (hX : RA ca h r ξ) (hI : InvX ξ) (hO : InvO ξ) (p1 : Int32) (p2 : Int32) (e : M_ofVillage_s ξ p1 p2 41 0 = 0) : FM l D ca yX10_ofVillage (.code yX10_ofVillage cX10_ofVillage 4 (some .int)) { frames := 8, cells := 2, slots := 12, locals := 145 } [.ref r, .int p1, .int p2] h (fun v h2 => v = some (.int (M_ofVillage ξ p1 p2)) ∧ RA ca h2 r ξ) noX := (c_R_ofVillage hX hI hO p1 p2).conseq (fun v h2 e => ⟨e.1, RA.ext e.2.2 (S_ofVillage hI hO p1 p2)⟩) (fun E h2 e1 => by
  have q := e1.2
  rw [e] at q
  rcases q with q | q <;> exact absurd q.2 (by decide))
theorem c_Q_plan {l : Launch} {D : va_G} {ca : Nat → Nat} {h : fH} {r : Nat} {ξ : St} (hX : RA ca h r ξ) (hI : InvX ξ) (hO : InvO ξ) (p1 : Int32) (p2 : Int32) (p3 : Int32) (e : M_plan_s ξ p1 p2 p3 41 0 = 0) : FM l D ca yX10_plan (.code yX10_plan cX10_plan 8 (some .int)) { frames := 8, cells := 3, slots := 18, locals := 149 } [.ref r, .int p1, .int p2, .int p3] h (fun v h2 => v = some (.int (M_plan ξ p1 p2 p3)) ∧ RA ca h2 r ξ) noX := (c_R_plan hX hI hO p1 p2 p3).conseq (fun v h2 e => ⟨e.1, RA.ext e.2.2 (S_plan hI hO p1 p2 p3)⟩) (fun E h2 e1 => by
  have q := e1.2
  rw [e] at q
  rcases q with q | q <;> exact absurd q.2 (by decide))
theorem c_Q_ofReading {l : Launch} {D : va_G} {ca : Nat → Nat} {h : fH} {r : Nat} {ξ : St} (hX : RA ca h r ξ) (hI : InvX ξ) (hO : InvO ξ) (p1 : Int32) (p2 : Int32) (p3 : Int32) (e : M_ofReading_s ξ p1 p2 p3 41 0 = 0) : FM l D ca yX10_ofReading (.code yX10_ofReading cX10_ofReading 6 (some .int)) { frames := 8, cells := 3, slots := 18, locals := 147 } [.ref r, .int p1, .int p2, .int p3] h (fun v h2 => v = some (.int (M_ofReading ξ p1 p2 p3)) ∧ RA ca h2 r ξ) noX := (c_R_ofReading hX hI hO p1 p2 p3).conseq (fun v h2 e => ⟨e.1, RA.ext e.2.2 (S_ofReading hI hO p1 p2 p3)⟩) (fun E h2 e1 => by
  have q := e1.2
  rw [e] at q
  rcases q with q | q <;> exact absurd q.2 (by decide))
theorem c_Q_trend {l : Launch} {D : va_G} {ca : Nat → Nat} {h : fH} {r : Nat} {ξ : St} (hX : RA ca h r ξ) (hI : InvX ξ) (hO : InvO ξ) (p1 : Int32) (e : M_trend_s ξ p1 41 0 = 0) : FM l D ca yX10_trend (.code yX10_trend cX10_trend 2 (some .long)) { frames := 8, cells := 2, slots := 12, locals := 197 } [.ref r, .int p1] h (fun v h2 => v = some (.long (M_trend ξ p1)) ∧ RA ca h2 r ξ) noX := (c_R_trend hX hI hO p1).conseq (fun v h2 e => ⟨e.1, RA.ext e.2.2 (S_trend hI hO p1)⟩) (fun E h2 e1 => by
  have q := e1.2
  rw [e] at q
  rcases q with q | q <;> exact absurd q.2 (by decide))
theorem c_Q_way {l : Launch} {D : va_G} {ca : Nat → Nat} {h : fH} {r : Nat} {ξ : St} (hX : RA ca h r ξ) (hI : InvX ξ) (hO : InvO ξ) (p1 : Int32) (p2 : Int32) (p3 : Int32) (e : M_way_s ξ p1 p2 p3 41 0 = 0) : FM l D ca yX10_way (.code yX10_way cX10_way 6 (some .int)) { frames := 7, cells := 3, slots := 18, locals := 126 } [.ref r, .int p1, .int p2, .int p3] h (fun v h2 => v = some (.int (M_way ξ p1 p2 p3)) ∧ RA ca h2 r ξ) noX := (c_R_way hX hI hO p1 p2 p3).conseq (fun v h2 e => ⟨e.1, RA.ext e.2.2 (S_way hI hO p1 p2 p3)⟩) (fun E h2 e1 => by
  have q := e1.2
  rw [e] at q
  rcases q with q | q <;> exact absurd q.2 (by decide))
theorem cw_L_trended : Cond.static yL_trended ∈ GW ∧ Cond.initialized yL_trended.cls ∈ GW ∧ Cond.codeWith yL_trended cL_trended 3 (some .long) [(0, 5, 6, 81)] ∈ GW ∧ (yL_trended.cls ≠ "java/lang/invoke/MethodHandle" ∧ yL_trended.cls ≠ "java/lang/invoke/VarHandle") ∧ (parseMethodDescriptor yL_trended.desc).map (fun d => d.parameters.length) = some 2 := ⟨gw_4_138, gw_1_0, gw_4_139, ⟨by decide, by decide⟩, by decide +kernel⟩
theorem c_trended {l : Launch} {D : va_G} {ca : Nat → Nat} {h : fH} {r : Nat} {ξ : St} (hX : RA ca h r ξ) (hI : InvX ξ) (hO : InvO ξ) (p1 : Int32) (e0 : ¬ M_trend_s ξ p1 41 0 = 1) : FM l D ca yL_trended (.codeWith yL_trended cL_trended 3 (some .long) [(0, 5, 6, 81)]) { frames := 9, cells := 2, slots := 12, locals := 218 } [.ref r, .int p1] h (fun v h2 => v = some (.long (if M_trend_s ξ p1 41 0 = 0 then M_trend ξ p1 else -99)) ∧ RA ca h2 r ξ) noX := by
  refine FM.ofH [some (.ref r), some (.int p1), none] (by decide) (Nat.le_of_ble_eq_true rfl) rfl ?_
  rintro K X rfl rfl rfl
  obtain ⟨vs, hroot⟩ := RA.root hX
  refine J_aload_0 X dL_trended_0 ?_
  refine J_iload_1 X dL_trended_1 ?_
  refine J_callV X (c_R_trend hX hI hO p1) (And.intro gw_4_140 cw_X10_trend) hroot rfl rfl rfl (Nat.le_of_ble_eq_true rfl) dL_trended_2 rfl (fun v h2 e => ?_) (fun E h2 e => ?_)
  · obtain ⟨e1, e2, e3⟩ := e
    subst e1
    exact J_lret X rfl rfl ⟨by rw [if_pos e2], RA.ext e3 (S_trend hI hO p1)⟩ dL_trended_5
  · obtain ⟨e3, e⟩ := e
    rcases e with e | e
    · exact absurd e.2 e0
    · obtain ⟨eE, et⟩ := e
      subst eE
      refine J_catch X [] ⟨0, 5, 6, 81⟩ [] rfl (fun w hw => absurd hw List.not_mem_nil) (by decide) (by decide) gw_2_182 (cst_in (i := 11) rfl) (fun q => ?_)
      refine J_astore_2 X dL_trended_6 rfl (by decide) ?_
      refine J_ldc2 (v := -99) X dL_trended_7 gw_4_154 ?_
      exact J_lret X rfl rfl ⟨by rw [et]; rfl, RA.ext e3 (S_trend hI hO p1)⟩ dL_trended_10
section SOF
variable {ξ τ : St} {p q : Int32}
theorem oL_j (hI : InvX ξ) (h : vp_in p (ix (ξ 13 0))) (hq : vp_in q 7) : M_ofLamp_j6 ξ p q = 0 := by
  unfold M_ofLamp_j6
  rw [if_neg (fun z => (lamp_iff hI).mp z h), if_neg (fun z => (isIn_n (a := 0) (b := 6) (A := 0) (B := 6) hq (by decide) rfl rfl (by decide) (by decide)).mp z ⟨Nat.zero_le _, by have := vp_lt hq; omega⟩)]
theorem oL_s (hI : InvX ξ) (h : vp_in p (ix (ξ 13 0))) (hq : vp_in q 7) : M_ofLamp_s ξ p q 41 0 = 0 := by
  unfold M_ofLamp_s
  rw [oL_j hI h hq, if_pos (fails_0 ξ)]
  (repeat' split) <;> exact f41 ξ 0
theorem oL_0 (hQ : LQ ξ τ) (hI : InvX ξ) (h : vp_in p (ix (ξ 13 0))) : M_ofLamp ξ p 0 = L_burns τ p := by
  unfold M_ofLamp M_ofLamp_j81
  rw [oL_j hI h (q := 0) (vp_in_nI (n := 0) (by decide) (by decide)), if_pos (fails_0 ξ), if_pos rfl, burns41, LM_burns hQ hI h]
  rcases M_burns_b ξ p with z | z <;> rw [z] <;> rfl
theorem oL_1 (hQ : LQ ξ τ) (hI : InvX ξ) (h : vp_in p (ix (ξ 13 0))) : M_ofLamp ξ p 1 = L_light τ p := by
  unfold M_ofLamp
  rw [oL_j hI h (q := 1) (vp_in_nI (n := 1) (by decide) (by decide)), if_pos (fails_0 ξ), if_neg (by decide), if_pos rfl, LM_light hQ hI (hQ.lam h)]
  rfl
theorem oL_2 (hQ : LQ ξ τ) (hI : InvX ξ) (h : vp_in p (ix (ξ 13 0))) : M_ofLamp ξ p 2 = τ 3 (ix (((6 : Int32) * p) + (4 : Int32))) := by
  unfold M_ofLamp
  rw [oL_j hI h (q := 2) (vp_in_nI (n := 2) (by decide) (by decide)), if_pos (fails_0 ξ), if_neg (by decide), if_neg (by decide), if_pos rfl, dl_4 hQ (hQ.lam h)]
  rfl
theorem oL_3 (hQ : LQ ξ τ) (hI : InvX ξ) (h : vp_in p (ix (ξ 13 0))) : M_ofLamp ξ p 3 = τ 3 (ix (((6 : Int32) * p) + (2 : Int32))) / (4 : Int32) - τ 3 (ix (((6 : Int32) * p) + (2 : Int32))) / (4 : Int32) / (16 : Int32) * (16 : Int32) := by
  unfold M_ofLamp
  rw [oL_j hI h (q := 3) (vp_in_nI (n := 3) (by decide) (by decide)), if_pos (fails_0 ξ), if_neg (by decide), if_neg (by decide), if_neg (by decide), if_pos rfl, dl_shd hQ hI (hQ.lam h)]
  rfl
theorem oL_4 (hQ : LQ ξ τ) (hI : InvX ξ) (h : vp_in p (ix (ξ 13 0))) : M_ofLamp ξ p 4 = τ 3 (ix (((6 : Int32) * p) + (2 : Int32))) / (64 : Int32) := by
  unfold M_ofLamp
  rw [oL_j hI h (q := 4) (vp_in_nI (n := 4) (by decide) (by decide)), if_pos (fails_0 ξ), if_neg (by decide), if_neg (by decide), if_neg (by decide), if_neg (by decide), if_pos rfl, dl_dim hQ hI (hQ.lam h)]
  rfl
theorem oL_5 (hQ : LQ ξ τ) (hI : InvX ξ) (h : vp_in p (ix (ξ 13 0))) : M_ofLamp ξ p 5 = if τ 3 (ix (((6 : Int32) * p) + (5 : Int32))) ≤ τ 7 (ix (0 : Int32)) then 0 else τ 3 (ix (((6 : Int32) * p) + (5 : Int32))) - τ 7 (ix (0 : Int32)) := by
  have g0 : τ 7 (ix (0 : Int32)) = ξ 0 0 := hQ.g.1
  unfold M_ofLamp M_ofLamp_j122
  rw [oL_j hI h (q := 5) (vp_in_nI (n := 5) (by decide) (by decide)), if_pos (fails_0 ξ), if_neg (by decide), if_neg (by decide), if_neg (by decide), if_neg (by decide), if_neg (by decide), if_pos rfl, dl_5 hQ (hQ.lam h), g0, sEq.f ξ 0 24 (by decide), sEq.f ξ 0 0 (by decide)]
  unfold M_isBound M_isBound_j10
  rw [sEq.f ξ 0 24 (by decide), sEq.f ξ 0 0 (by decide)]
  by_cases c : ξ 24 (ix p) ≤ ξ 0 0
  · rw [if_pos c, if_pos rfl, if_pos c]
  · rw [if_neg c, if_neg (by decide), if_neg c]
theorem oL_6 (hQ : LQ ξ τ) (hI : InvX ξ) (h : vp_in p (ix (ξ 13 0))) : M_ofLamp ξ p 6 = L_isUnlawful τ p := by
  unfold M_ofLamp M_ofLamp_j146
  rw [oL_j hI h (q := 6) (vp_in_nI (n := 6) (by decide) (by decide)), if_pos (fails_0 ξ), if_neg (by decide), if_neg (by decide), if_neg (by decide), if_neg (by decide), if_neg (by decide), if_neg (by decide), LM_unlawful hQ hI h]
  rw [show M_isUnlawful (M_fails_s ξ 0) p = M_isUnlawful ξ p from rfl]
  rcases M_isUnlawful_b ξ p with z | z <;> rw [z] <;> rfl
theorem gv_j (hI : InvX ξ) (h : vp_in p (ix (ξ 13 0))) (hq : vp_in q 64) : M_gives_j6 ξ p q = 0 := by
  unfold M_gives_j6
  rw [if_neg (fun z => (lamp_iff hI).mp z h), if_neg (fun z => place_iff.mp z hq)]
theorem gv_s (hI : InvX ξ) (h : vp_in p (ix (ξ 13 0))) (hq : vp_in q 64) : M_gives_s ξ p q 41 0 = 0 := by
  unfold M_gives_s
  rw [gv_j hI h hq, f41]
theorem gv_v (hQ : LQ ξ τ) (hI : InvX ξ) (h : vp_in p (ix (ξ 13 0))) (hq : vp_in q 64) : M_gives ξ p q = L_gives τ p q := by
  unfold M_gives M_gives_j24
  rw [gv_j hI h hq, if_pos (fails_0 ξ), given41, LM_given hQ hI h hq]
theorem cu_j (hq : vp_in q 64) : M_culprit_j5 ξ q = 0 := by
  unfold M_culprit_j5
  rw [if_neg (fun z => place_iff.mp z hq)]
theorem cu_v (hq : vp_in q 64) : M_culprit ξ q = M_culprit_L28 ξ q (fun a _ => a) (ix (ξ 13 0)) 0 (-1) 0 := by
  unfold M_culprit
  rw [cu_j hq, if_pos (fails_0 ξ)]
theorem cu_sK (q : Int32) (K : Int32 → Int32 → St) (hK : ∀ a b, K a b 41 0 = 0) : ∀ n k a b, M_culprit_L28_s ξ q K n k a b 41 0 = 0 := by
  intro n
  induction n with
  | zero => intro k a b; rw [M_culprit_L28_s]; exact hK a b
  | succ n ih => intro k a b; rw [M_culprit_L28_s]; exact ih _ _ _
theorem cu_s (hq : vp_in q 64) : M_culprit_s ξ q 41 0 = 0 := by
  unfold M_culprit_s
  rw [cu_j hq, if_pos (fails_0 ξ)]
  exact cu_sK q _ (fun _ _ => f41 ξ 0) _ _ _ _
/-- one lamp more in the search of the culprit -/
theorem cu_step (hQ : LQ ξ τ) (hI : InvX ξ) (hq : vp_in q 64) {n k : Nat} (hk : k < ix (ξ 13 0)) (a b : Int32) : M_culprit_L28 ξ q (fun a _ => a) (n + 1) k a b = M_culprit_L28 ξ q (fun a _ => a) n (k + 1) (if L_gives τ (nI k) q ≤ b then a else nI k) (if L_gives τ (nI k) q ≤ b then b else L_gives τ (nI k) q) := by
  have hl := hQ.lim.2.1
  rw [M_culprit_L28]
  unfold M_culprit_j49 M_culprit_j62
  rw [given41, LM_given hQ hI (vp_in_nI hk (by omega)) hq]
theorem gl_s (hq : vp_in q 64) : M_glow_s ξ q 41 0 = 0 := by
  unfold M_glow_s M_glow_j5
  rw [if_neg (fun z => place_iff.mp z hq), f41]
theorem gl_v (hQ : LQ ξ τ) (hI : InvX ξ) (hq : vp_in q 64) : M_glow ξ q = L_glow τ q 5 := by
  unfold M_glow M_glow_j16 M_glow_j5
  rw [if_neg (fun z => place_iff.mp z hq), if_pos (fails_0 ξ), LM_glow5 hQ hI hq]
  exact glow_c (fun k hk => sEq.f ξ 0 k (by omega)) q
theorem gf_s (hq : vp_in q 64) {w : Int32} (hw : vp_in w 5) : M_glowFrom_s ξ q w 41 0 = 0 := by
  have hj : M_glowFrom_j5 ξ q w = 0 := by
    unfold M_glowFrom_j5
    rw [if_neg (fun z => place_iff.mp z hq), if_neg (fun z => (isIn_n (a := 0) (b := 4) (A := 0) (B := 4) hw (by decide) rfl rfl (by decide) (by decide)).mp z ⟨Nat.zero_le _, by have := vp_lt hw; omega⟩)]
  have hK : ∀ n k a, M_glowFrom_L39_s ξ q w (fun _ => M_fails_s ξ 0) n k a 41 0 = 0 := by
    intro n
    induction n with
    | zero => intro k a; rw [M_glowFrom_L39_s]; exact f41 ξ 0
    | succ n ih => intro k a; rw [M_glowFrom_L39_s]; exact ih _ _
  unfold M_glowFrom_s
  rw [hj, if_pos (fails_0 ξ)]
  exact hK _ _ _
theorem gr_s (hq : vp_in q 64) : M_ground_s ξ q 41 0 = 0 := by
  unfold M_ground_s M_ground_j5
  rw [if_neg (fun z => place_iff.mp z hq), f41]
theorem gr_v (hQ : LQ ξ τ) (hI : InvX ξ) (hq : vp_in q 64) : M_ground ξ q = L_ground τ q := by
  unfold M_ground M_ground_j16 M_ground_j5
  rw [if_neg (fun z => place_iff.mp z hq), if_pos (fails_0 ξ), ground41, LM_ground hQ hI hq]
theorem tm_v (hQ : LQ ξ τ) : M_time ξ = τ 7 (ix (0 : Int32)) := by
  rw [show τ 7 (ix (0 : Int32)) = ξ 0 0 from hQ.g.1]
  unfold M_time
  rw [sC_col (by decide)]
theorem hd_v (hQ : LQ ξ τ) : M_isHeld ξ = if τ 7 (ix (7 : Int32)) = 0 then 1 else 0 := by
  rw [show τ 7 (ix (7 : Int32)) = ξ 34 0 from hQ.g.2.2.2.2.2.2.2]
  unfold M_isHeld M_isHeld_j9
  rw [sC_col (by decide)]
end SOF
end
