noncomputable section
theorem K_tell {σ : St} (hI : InvX σ) (hO : InvO σ) (p1 : Int32) (p2 : Int32) : M_tell_s σ p1 p2 41 0 = lawK (X_tell_c σ p1 p2) 1 2 0 ∧ (X_tell_c σ p1 p2 = 0 → M_tell σ p1 p2 = X_tell σ p1 p2) ∧ (X_tell_c σ p1 p2 = 0 → sEq (M_tell_s σ p1 p2) (X_tell_s σ p1 p2)) ∧ (¬ X_tell_c σ p1 p2 = 0 → sEq (M_tell_s σ p1 p2) σ) := by
  have q := (Q_tell hI p1 p2).law (by rcases C_tell (σ := σ) (p1 := p1) (p2 := p2) with z | z | z <;> rw [z] <;> decide)
  exact ⟨q.1, q.2.1, q.2.2.1, q.2.2.2⟩
theorem IO_tell {σ : St} (hI : InvX σ) (hO : InvO σ) (p1 : Int32) (p2 : Int32) : InvX (M_tell_s σ p1 p2) ∧ InvO (M_tell_s σ p1 p2) := by
  have q := K_tell hI hO p1 p2
  exact fin2 hI hO q.2.2.1 q.2.2.2 (I_tell hI p1 p2) (O_tell hO p1 p2)
theorem c_R_tell {l : Launch} {D : va_G} {ca : Nat → Nat} {h : fH} {r : Nat} {σ : St} (hX : RA ca h r σ) (hI : InvX σ) (hO : InvO σ) (p1 : Int32) (p2 : Int32) : FM l D ca yX10_tell (.code yX10_tell cX10_tell 5 (some .int)) { frames := 8, cells := 2, slots := 12, locals := 146 } [.ref r, .int p1, .int p2] h (pPub (some (.int (M_tell σ p1 p2))) (M_tell_s σ p1 p2 41 0) (fun h2 => RA ca h2 r (M_tell_s σ p1 p2))) (fun E h2 => RA ca h2 r (M_tell_s σ p1 p2) ∧ ((E = xIO ∧ M_tell_s σ p1 p2 41 0 = 1) ∨ (E = xIA ∧ M_tell_s σ p1 p2 41 0 = 2))) := by
  obtain ⟨ρ, μ, cap, hR, hr, hcap⟩ := hX
  subst hr
  have q := K_tell hI hO p1 p2
  refine (c_X_tell hR hI p1 p2).conseq (fun v h2 e => ?_) (fun E h2 e => ?_)
  · obtain ⟨e1, e2, hRA0⟩ := e
    have hRA : RA ca h2 (ρ 0 0) (X_tell_s σ p1 p2) := ⟨ρ, _, cap, hRA0, rfl, hcap⟩
    exact ⟨by rw [e1, q.2.1 e2], by rw [q.1, e2]; rfl, finR hRA hRA (N_tell σ p1 p2) q.2.2.1 q.2.2.2⟩
  · obtain ⟨eE, ec, hRA0⟩ := e
    have hRA : RA ca h2 (ρ 0 0) (X_tell_s σ p1 p2) := ⟨ρ, _, cap, hRA0, rfl, hcap⟩
    refine ⟨finR hRA hRA (N_tell σ p1 p2) q.2.2.1 q.2.2.2, ?_⟩
    rcases C_tell (σ := σ) (p1 := p1) (p2 := p2) with z | z | z
    · exact absurd z ec
    · exact Or.inl ⟨by rw [eE, z]; exact xN_1, by rw [q.1, z]; rfl⟩
    · exact Or.inr (⟨by rw [eE, z]; exact xN_2, by rw [q.1, z]; rfl⟩)
theorem K_audit {σ : St} (hI : InvX σ) (hO : InvO σ) (p1 : Int32) : M_audit_s σ p1 41 0 = lawK (X_audit_c σ p1) 0 1 0 ∧ (X_audit_c σ p1 = 0 → M_audit σ p1 = X_audit σ p1) ∧ (X_audit_c σ p1 = 0 → sEq (M_audit_s σ p1) (sC (X_audit_s σ p1) 34 (X_audit_s σ p1 34 0))) ∧ (¬ X_audit_c σ p1 = 0 → sEq (M_audit_s σ p1) σ) := by
  have q := (Q_audit hI p1).law (by rcases C_audit (σ := σ) (p1 := p1) with z | z <;> rw [z] <;> decide)
  exact ⟨q.1, q.2.1, q.2.2.1, q.2.2.2⟩
theorem IO_audit {σ : St} (hI : InvX σ) (hO : InvO σ) (p1 : Int32) : InvX (M_audit_s σ p1) ∧ InvO (M_audit_s σ p1) := by
  have q := K_audit hI hO p1
  exact fin2 hI hO q.2.2.1 q.2.2.2 (I_audit hI p1) (O_audit hO p1)
theorem c_R_audit {l : Launch} {D : va_G} {ca : Nat → Nat} {h : fH} {r : Nat} {σ : St} (hX : RA ca h r σ) (hI : InvX σ) (hO : InvO σ) (p1 : Int32) : FM l D ca yX10_audit (.code yX10_audit cX10_audit 4 (some .boolean)) { frames := 7, cells := 1, slots := 6, locals := 124 } [.ref r, .int p1] h (pPub (some (.int (M_audit σ p1))) (M_audit_s σ p1 41 0) (fun h2 => RA ca h2 r (M_audit_s σ p1))) (fun E h2 => RA ca h2 r (M_audit_s σ p1) ∧ ((E = xIA ∧ M_audit_s σ p1 41 0 = 1))) := by
  obtain ⟨ρ, μ, cap, hR, hr, hcap⟩ := hX
  subst hr
  have q := K_audit hI hO p1
  refine (c_X_audit hR hI p1).conseq (fun v h2 e => ?_) (fun E h2 e => ?_)
  · obtain ⟨e1, e2, hRA0⟩ := e
    have hRA : RA ca h2 (ρ 0 0) (X_audit_s σ p1) := ⟨ρ, _, cap, hRA0, rfl, hcap⟩
    exact ⟨by rw [e1, q.2.1 e2], by rw [q.1, e2]; rfl, finR hRA hRA.c34 (N_audit σ p1) q.2.2.1 q.2.2.2⟩
  · obtain ⟨eE, ec, hRA0⟩ := e
    have hRA : RA ca h2 (ρ 0 0) (X_audit_s σ p1) := ⟨ρ, _, cap, hRA0, rfl, hcap⟩
    refine ⟨finR hRA hRA.c34 (N_audit σ p1) q.2.2.1 q.2.2.2, ?_⟩
    rcases C_audit (σ := σ) (p1 := p1) with z | z
    · exact absurd z ec
    · exact ⟨by rw [eE, z]; exact xN_2, by rw [q.1, z]; rfl⟩
theorem K_time {σ : St} (hI : InvX σ) (hO : InvO σ) : M_time_s σ 41 0 = lawK ((0 : Int32)) 0 0 0 ∧ ((0 : Int32) = 0 → M_time σ = X_time σ) ∧ ((0 : Int32) = 0 → sEq (M_time_s σ) (X_time_s σ)) ∧ (¬ (0 : Int32) = 0 → sEq (M_time_s σ) σ) := by
  have q := (Q_time σ).law (Or.inl rfl)
  exact ⟨q.1, q.2.1, q.2.2.1, q.2.2.2⟩
theorem IO_time {σ : St} (hI : InvX σ) (hO : InvO σ) : InvX (M_time_s σ) ∧ InvO (M_time_s σ) := by
  have q := K_time hI hO
  exact fin2 hI hO q.2.2.1 q.2.2.2 hI hO
theorem c_R_time {l : Launch} {D : va_G} {ca : Nat → Nat} {h : fH} {r : Nat} {σ : St} (hX : RA ca h r σ) (hI : InvX σ) (hO : InvO σ) : FM l D ca yX10_time (.code yX10_time cX10_time 1 (some .int)) { frames := 1, cells := 0, slots := 0, locals := 20 } [.ref r] h (pPub (some (.int (M_time σ))) (M_time_s σ 41 0) (fun h2 => RA ca h2 r (M_time_s σ))) noX := by
  obtain ⟨ρ, μ, cap, hR, hr, hcap⟩ := hX
  subst hr
  have q := K_time hI hO
  refine (c_X_time hR hI).conseq (fun v h2 e => ?_) (fun E h2 e => ?_)
  · obtain ⟨e1, e2, hRA0⟩ := e
    have hRA : RA ca h2 (ρ 0 0) (σ) := ⟨ρ, _, cap, hRA0, rfl, hcap⟩
    exact ⟨by rw [e1, q.2.1 rfl], by rw [q.1]; rfl, finR hRA hRA (Or.inr rfl) q.2.2.1 q.2.2.2⟩
  · obtain ⟨_, ec, _⟩ := e
    exact absurd rfl ec
theorem K_ofLamp {σ : St} (hI : InvX σ) (hO : InvO σ) (p1 : Int32) (p2 : Int32) : M_ofLamp_s σ p1 p2 41 0 = lawK (X_ofLamp_c σ p1 p2) 1 2 0 ∧ (X_ofLamp_c σ p1 p2 = 0 → M_ofLamp σ p1 p2 = X_ofLamp σ p1 p2) ∧ (X_ofLamp_c σ p1 p2 = 0 → sEq (M_ofLamp_s σ p1 p2) (X_ofLamp_s σ p1 p2)) ∧ (¬ X_ofLamp_c σ p1 p2 = 0 → sEq (M_ofLamp_s σ p1 p2) σ) := by
  have q := (Q_ofLamp hI p1 p2).law (by rcases C_ofLamp (σ := σ) (p1 := p1) (p2 := p2) with z | z | z <;> rw [z] <;> decide)
  exact ⟨q.1, q.2.1, q.2.2.1, q.2.2.2⟩
theorem IO_ofLamp {σ : St} (hI : InvX σ) (hO : InvO σ) (p1 : Int32) (p2 : Int32) : InvX (M_ofLamp_s σ p1 p2) ∧ InvO (M_ofLamp_s σ p1 p2) := by
  have q := K_ofLamp hI hO p1 p2
  exact fin2 hI hO q.2.2.1 q.2.2.2 (by rw [R_ofLamp]; exact hI) (by rw [R_ofLamp]; exact hO)
theorem c_R_ofLamp {l : Launch} {D : va_G} {ca : Nat → Nat} {h : fH} {r : Nat} {σ : St} (hX : RA ca h r σ) (hI : InvX σ) (hO : InvO σ) (p1 : Int32) (p2 : Int32) : FM l D ca yX10_ofLamp (.code yX10_ofLamp cX10_ofLamp 4 (some .int)) { frames := 8, cells := 2, slots := 12, locals := 145 } [.ref r, .int p1, .int p2] h (pPub (some (.int (M_ofLamp σ p1 p2))) (M_ofLamp_s σ p1 p2 41 0) (fun h2 => RA ca h2 r (M_ofLamp_s σ p1 p2))) (fun E h2 => RA ca h2 r (M_ofLamp_s σ p1 p2) ∧ ((E = xIO ∧ M_ofLamp_s σ p1 p2 41 0 = 1) ∨ (E = xIA ∧ M_ofLamp_s σ p1 p2 41 0 = 2))) := by
  obtain ⟨ρ, μ, cap, hR, hr, hcap⟩ := hX
  subst hr
  have q := K_ofLamp hI hO p1 p2
  refine (c_X_ofLamp hR hI p1 p2).conseq (fun v h2 e => ?_) (fun E h2 e => ?_)
  · obtain ⟨e1, e2, hRA0⟩ := e
    have hRA : RA ca h2 (ρ 0 0) (X_ofLamp_s σ p1 p2) := ⟨ρ, _, cap, hRA0, rfl, hcap⟩
    exact ⟨by rw [e1, q.2.1 e2], by rw [q.1, e2]; rfl, finR hRA hRA (Or.inr (R_ofLamp σ p1 p2)) q.2.2.1 q.2.2.2⟩
  · obtain ⟨eE, ec, hRA0⟩ := e
    have hRA : RA ca h2 (ρ 0 0) (X_ofLamp_s σ p1 p2) := ⟨ρ, _, cap, hRA0, rfl, hcap⟩
    refine ⟨finR hRA hRA (Or.inr (R_ofLamp σ p1 p2)) q.2.2.1 q.2.2.2, ?_⟩
    rcases C_ofLamp (σ := σ) (p1 := p1) (p2 := p2) with z | z | z
    · exact absurd z ec
    · exact Or.inl ⟨by rw [eE, z]; exact xN_1, by rw [q.1, z]; rfl⟩
    · exact Or.inr (⟨by rw [eE, z]; exact xN_2, by rw [q.1, z]; rfl⟩)
theorem K_ofVillage {σ : St} (hI : InvX σ) (hO : InvO σ) (p1 : Int32) (p2 : Int32) : M_ofVillage_s σ p1 p2 41 0 = lawK (X_ofVillage_c σ p1 p2) 1 2 0 ∧ (X_ofVillage_c σ p1 p2 = 0 → M_ofVillage σ p1 p2 = X_ofVillage σ p1 p2) ∧ (X_ofVillage_c σ p1 p2 = 0 → sEq (M_ofVillage_s σ p1 p2) (X_ofVillage_s σ p1 p2)) ∧ (¬ X_ofVillage_c σ p1 p2 = 0 → sEq (M_ofVillage_s σ p1 p2) σ) := by
  have q := (Q_ofVillage hI p1 p2).law (by rcases C_ofVillage (σ := σ) (p1 := p1) (p2 := p2) with z | z | z <;> rw [z] <;> decide)
  exact ⟨q.1, q.2.1, q.2.2.1, q.2.2.2⟩
theorem IO_ofVillage {σ : St} (hI : InvX σ) (hO : InvO σ) (p1 : Int32) (p2 : Int32) : InvX (M_ofVillage_s σ p1 p2) ∧ InvO (M_ofVillage_s σ p1 p2) := by
  have q := K_ofVillage hI hO p1 p2
  exact fin2 hI hO q.2.2.1 q.2.2.2 (by rw [R_ofVillage]; exact hI) (by rw [R_ofVillage]; exact hO)
theorem c_R_ofVillage {l : Launch} {D : va_G} {ca : Nat → Nat} {h : fH} {r : Nat} {σ : St} (hX : RA ca h r σ) (hI : InvX σ) (hO : InvO σ) (p1 : Int32) (p2 : Int32) : FM l D ca yX10_ofVillage (.code yX10_ofVillage cX10_ofVillage 4 (some .int)) { frames := 8, cells := 2, slots := 12, locals := 145 } [.ref r, .int p1, .int p2] h (pPub (some (.int (M_ofVillage σ p1 p2))) (M_ofVillage_s σ p1 p2 41 0) (fun h2 => RA ca h2 r (M_ofVillage_s σ p1 p2))) (fun E h2 => RA ca h2 r (M_ofVillage_s σ p1 p2) ∧ ((E = xIO ∧ M_ofVillage_s σ p1 p2 41 0 = 1) ∨ (E = xIA ∧ M_ofVillage_s σ p1 p2 41 0 = 2))) := by
  obtain ⟨ρ, μ, cap, hR, hr, hcap⟩ := hX
  subst hr
  have q := K_ofVillage hI hO p1 p2
  refine (c_X_ofVillage hR hI p1 p2).conseq (fun v h2 e => ?_) (fun E h2 e => ?_)
  · obtain ⟨e1, e2, hRA0⟩ := e
    have hRA : RA ca h2 (ρ 0 0) (X_ofVillage_s σ p1 p2) := ⟨ρ, _, cap, hRA0, rfl, hcap⟩
    exact ⟨by rw [e1, q.2.1 e2], by rw [q.1, e2]; rfl, finR hRA hRA (Or.inr (R_ofVillage σ p1 p2)) q.2.2.1 q.2.2.2⟩
  · obtain ⟨eE, ec, hRA0⟩ := e
    have hRA : RA ca h2 (ρ 0 0) (X_ofVillage_s σ p1 p2) := ⟨ρ, _, cap, hRA0, rfl, hcap⟩
    refine ⟨finR hRA hRA (Or.inr (R_ofVillage σ p1 p2)) q.2.2.1 q.2.2.2, ?_⟩
    rcases C_ofVillage (σ := σ) (p1 := p1) (p2 := p2) with z | z | z
    · exact absurd z ec
    · exact Or.inl ⟨by rw [eE, z]; exact xN_1, by rw [q.1, z]; rfl⟩
    · exact Or.inr (⟨by rw [eE, z]; exact xN_2, by rw [q.1, z]; rfl⟩)
theorem K_gives {σ : St} (hI : InvX σ) (hO : InvO σ) (p1 : Int32) (p2 : Int32) : M_gives_s σ p1 p2 41 0 = lawK (X_gives_c σ p1 p2) 1 0 0 ∧ (X_gives_c σ p1 p2 = 0 → M_gives σ p1 p2 = X_gives σ p1 p2) ∧ (X_gives_c σ p1 p2 = 0 → sEq (M_gives_s σ p1 p2) (X_gives_s σ p1 p2)) ∧ (¬ X_gives_c σ p1 p2 = 0 → sEq (M_gives_s σ p1 p2) σ) := by
  have q := (Q_gives hI p1 p2).law (by rcases C_gives (σ := σ) (p1 := p1) (p2 := p2) with z | z <;> rw [z] <;> decide)
  exact ⟨q.1, q.2.1, q.2.2.1, q.2.2.2⟩
theorem IO_gives {σ : St} (hI : InvX σ) (hO : InvO σ) (p1 : Int32) (p2 : Int32) : InvX (M_gives_s σ p1 p2) ∧ InvO (M_gives_s σ p1 p2) := by
  have q := K_gives hI hO p1 p2
  exact fin2 hI hO q.2.2.1 q.2.2.2 (by rw [R_gives]; exact hI) (by rw [R_gives]; exact hO)
theorem c_R_gives {l : Launch} {D : va_G} {ca : Nat → Nat} {h : fH} {r : Nat} {σ : St} (hX : RA ca h r σ) (hI : InvX σ) (hO : InvO σ) (p1 : Int32) (p2 : Int32) : FM l D ca yX10_gives (.code yX10_gives cX10_gives 4 (some .int)) { frames := 8, cells := 2, slots := 12, locals := 145 } [.ref r, .int p1, .int p2] h (pPub (some (.int (M_gives σ p1 p2))) (M_gives_s σ p1 p2 41 0) (fun h2 => RA ca h2 r (M_gives_s σ p1 p2))) (fun E h2 => RA ca h2 r (M_gives_s σ p1 p2) ∧ ((E = xIO ∧ M_gives_s σ p1 p2 41 0 = 1))) := by
  obtain ⟨ρ, μ, cap, hR, hr, hcap⟩ := hX
  subst hr
  have q := K_gives hI hO p1 p2
  refine (c_X_gives hR hI p1 p2).conseq (fun v h2 e => ?_) (fun E h2 e => ?_)
  · obtain ⟨e1, e2, hRA0⟩ := e
    have hRA : RA ca h2 (ρ 0 0) (X_gives_s σ p1 p2) := ⟨ρ, _, cap, hRA0, rfl, hcap⟩
    exact ⟨by rw [e1, q.2.1 e2], by rw [q.1, e2]; rfl, finR hRA hRA (Or.inr (R_gives σ p1 p2)) q.2.2.1 q.2.2.2⟩
  · obtain ⟨eE, ec, hRA0⟩ := e
    have hRA : RA ca h2 (ρ 0 0) (X_gives_s σ p1 p2) := ⟨ρ, _, cap, hRA0, rfl, hcap⟩
    refine ⟨finR hRA hRA (Or.inr (R_gives σ p1 p2)) q.2.2.1 q.2.2.2, ?_⟩
    rcases C_gives (σ := σ) (p1 := p1) (p2 := p2) with z | z
    · exact absurd z ec
    · exact ⟨by rw [eE, z]; exact xN_1, by rw [q.1, z]; rfl⟩
theorem K_glow {σ : St} (hI : InvX σ) (hO : InvO σ) (p1 : Int32) : M_glow_s σ p1 41 0 = lawK (X_glow_c σ p1) 1 0 0 ∧ (X_glow_c σ p1 = 0 → M_glow σ p1 = X_glow σ p1) ∧ (X_glow_c σ p1 = 0 → sEq (M_glow_s σ p1) (X_glow_s σ p1)) ∧ (¬ X_glow_c σ p1 = 0 → sEq (M_glow_s σ p1) σ) := by
  have q := (Q_glow hI p1).law (by rcases C_glow (σ := σ) (p1 := p1) with z | z <;> rw [z] <;> decide)
  exact ⟨q.1, q.2.1, q.2.2.1, q.2.2.2⟩
theorem IO_glow {σ : St} (hI : InvX σ) (hO : InvO σ) (p1 : Int32) : InvX (M_glow_s σ p1) ∧ InvO (M_glow_s σ p1) := by
  have q := K_glow hI hO p1
  exact fin2 hI hO q.2.2.1 q.2.2.2 (by rw [R_glow]; exact hI) (by rw [R_glow]; exact hO)
theorem c_R_glow {l : Launch} {D : va_G} {ca : Nat → Nat} {h : fH} {r : Nat} {σ : St} (hX : RA ca h r σ) (hI : InvX σ) (hO : InvO σ) (p1 : Int32) : FM l D ca yX10_glow (.code yX10_glow cX10_glow 2 (some .int)) { frames := 8, cells := 1, slots := 6, locals := 161 } [.ref r, .int p1] h (pPub (some (.int (M_glow σ p1))) (M_glow_s σ p1 41 0) (fun h2 => RA ca h2 r (M_glow_s σ p1))) (fun E h2 => RA ca h2 r (M_glow_s σ p1) ∧ ((E = xIO ∧ M_glow_s σ p1 41 0 = 1))) := by
  obtain ⟨ρ, μ, cap, hR, hr, hcap⟩ := hX
  subst hr
  have q := K_glow hI hO p1
  refine (c_X_glow hR hI p1).conseq (fun v h2 e => ?_) (fun E h2 e => ?_)
  · obtain ⟨e1, e2, hRA0⟩ := e
    have hRA : RA ca h2 (ρ 0 0) (X_glow_s σ p1) := ⟨ρ, _, cap, hRA0, rfl, hcap⟩
    exact ⟨by rw [e1, q.2.1 e2], by rw [q.1, e2]; rfl, finR hRA hRA (Or.inr (R_glow σ p1)) q.2.2.1 q.2.2.2⟩
  · obtain ⟨eE, ec, hRA0⟩ := e
    have hRA : RA ca h2 (ρ 0 0) (X_glow_s σ p1) := ⟨ρ, _, cap, hRA0, rfl, hcap⟩
    refine ⟨finR hRA hRA (Or.inr (R_glow σ p1)) q.2.2.1 q.2.2.2, ?_⟩
    rcases C_glow (σ := σ) (p1 := p1) with z | z
    · exact absurd z ec
    · exact ⟨by rw [eE, z]; exact xN_1, by rw [q.1, z]; rfl⟩
theorem K_glowFrom {σ : St} (hI : InvX σ) (hO : InvO σ) (p1 : Int32) (p2 : Int32) : M_glowFrom_s σ p1 p2 41 0 = lawK (X_glowFrom_c σ p1 p2) 1 2 0 ∧ (X_glowFrom_c σ p1 p2 = 0 → M_glowFrom σ p1 p2 = X_glowFrom σ p1 p2) ∧ (X_glowFrom_c σ p1 p2 = 0 → sEq (M_glowFrom_s σ p1 p2) (X_glowFrom_s σ p1 p2)) ∧ (¬ X_glowFrom_c σ p1 p2 = 0 → sEq (M_glowFrom_s σ p1 p2) σ) := by
  have q := (Q_glowFrom hI p1 p2).law (by rcases C_glowFrom (σ := σ) (p1 := p1) (p2 := p2) with z | z | z <;> rw [z] <;> decide)
  exact ⟨q.1, q.2.1, q.2.2.1, q.2.2.2⟩
theorem IO_glowFrom {σ : St} (hI : InvX σ) (hO : InvO σ) (p1 : Int32) (p2 : Int32) : InvX (M_glowFrom_s σ p1 p2) ∧ InvO (M_glowFrom_s σ p1 p2) := by
  have q := K_glowFrom hI hO p1 p2
  exact fin2 hI hO q.2.2.1 q.2.2.2 (by rw [R_glowFrom]; exact hI) (by rw [R_glowFrom]; exact hO)
theorem c_R_glowFrom {l : Launch} {D : va_G} {ca : Nat → Nat} {h : fH} {r : Nat} {σ : St} (hX : RA ca h r σ) (hI : InvX σ) (hO : InvO σ) (p1 : Int32) (p2 : Int32) : FM l D ca yX10_glowFrom (.code yX10_glowFrom cX10_glowFrom 7 (some .int)) { frames := 8, cells := 2, slots := 12, locals := 148 } [.ref r, .int p1, .int p2] h (pPub (some (.int (M_glowFrom σ p1 p2))) (M_glowFrom_s σ p1 p2 41 0) (fun h2 => RA ca h2 r (M_glowFrom_s σ p1 p2))) (fun E h2 => RA ca h2 r (M_glowFrom_s σ p1 p2) ∧ ((E = xIO ∧ M_glowFrom_s σ p1 p2 41 0 = 1) ∨ (E = xIA ∧ M_glowFrom_s σ p1 p2 41 0 = 2))) := by
  obtain ⟨ρ, μ, cap, hR, hr, hcap⟩ := hX
  subst hr
  have q := K_glowFrom hI hO p1 p2
  refine (c_X_glowFrom hR hI p1 p2).conseq (fun v h2 e => ?_) (fun E h2 e => ?_)
  · obtain ⟨e1, e2, hRA0⟩ := e
    have hRA : RA ca h2 (ρ 0 0) (X_glowFrom_s σ p1 p2) := ⟨ρ, _, cap, hRA0, rfl, hcap⟩
    exact ⟨by rw [e1, q.2.1 e2], by rw [q.1, e2]; rfl, finR hRA hRA (Or.inr (R_glowFrom σ p1 p2)) q.2.2.1 q.2.2.2⟩
  · obtain ⟨eE, ec, hRA0⟩ := e
    have hRA : RA ca h2 (ρ 0 0) (X_glowFrom_s σ p1 p2) := ⟨ρ, _, cap, hRA0, rfl, hcap⟩
    refine ⟨finR hRA hRA (Or.inr (R_glowFrom σ p1 p2)) q.2.2.1 q.2.2.2, ?_⟩
    rcases C_glowFrom (σ := σ) (p1 := p1) (p2 := p2) with z | z | z
    · exact absurd z ec
    · exact Or.inl ⟨by rw [eE, z]; exact xN_1, by rw [q.1, z]; rfl⟩
    · exact Or.inr (⟨by rw [eE, z]; exact xN_2, by rw [q.1, z]; rfl⟩)
theorem K_ground {σ : St} (hI : InvX σ) (hO : InvO σ) (p1 : Int32) : M_ground_s σ p1 41 0 = lawK (X_ground_c σ p1) 1 0 0 ∧ (X_ground_c σ p1 = 0 → M_ground σ p1 = X_ground σ p1) ∧ (X_ground_c σ p1 = 0 → sEq (M_ground_s σ p1) (X_ground_s σ p1)) ∧ (¬ X_ground_c σ p1 = 0 → sEq (M_ground_s σ p1) σ) := by
  have q := (Q_ground hI p1).law (by rcases C_ground (σ := σ) (p1 := p1) with z | z <;> rw [z] <;> decide)
  exact ⟨q.1, q.2.1, q.2.2.1, q.2.2.2⟩
theorem IO_ground {σ : St} (hI : InvX σ) (hO : InvO σ) (p1 : Int32) : InvX (M_ground_s σ p1) ∧ InvO (M_ground_s σ p1) := by
  have q := K_ground hI hO p1
  exact fin2 hI hO q.2.2.1 q.2.2.2 (by rw [R_ground]; exact hI) (by rw [R_ground]; exact hO)
theorem c_R_ground {l : Launch} {D : va_G} {ca : Nat → Nat} {h : fH} {r : Nat} {σ : St} (hX : RA ca h r σ) (hI : InvX σ) (hO : InvO σ) (p1 : Int32) : FM l D ca yX10_ground (.code yX10_ground cX10_ground 6 (some .int)) { frames := 8, cells := 1, slots := 6, locals := 147 } [.ref r, .int p1] h (pPub (some (.int (M_ground σ p1))) (M_ground_s σ p1 41 0) (fun h2 => RA ca h2 r (M_ground_s σ p1))) (fun E h2 => RA ca h2 r (M_ground_s σ p1) ∧ ((E = xIO ∧ M_ground_s σ p1 41 0 = 1))) := by
  obtain ⟨ρ, μ, cap, hR, hr, hcap⟩ := hX
  subst hr
  have q := K_ground hI hO p1
  refine (c_X_ground hR hI p1).conseq (fun v h2 e => ?_) (fun E h2 e => ?_)
  · obtain ⟨e1, e2, hRA0⟩ := e
    have hRA : RA ca h2 (ρ 0 0) (X_ground_s σ p1) := ⟨ρ, _, cap, hRA0, rfl, hcap⟩
    exact ⟨by rw [e1, q.2.1 e2], by rw [q.1, e2]; rfl, finR hRA hRA (Or.inr (R_ground σ p1)) q.2.2.1 q.2.2.2⟩
  · obtain ⟨eE, ec, hRA0⟩ := e
    have hRA : RA ca h2 (ρ 0 0) (X_ground_s σ p1) := ⟨ρ, _, cap, hRA0, rfl, hcap⟩
    refine ⟨finR hRA hRA (Or.inr (R_ground σ p1)) q.2.2.1 q.2.2.2, ?_⟩
    rcases C_ground (σ := σ) (p1 := p1) with z | z
    · exact absurd z ec
    · exact ⟨by rw [eE, z]; exact xN_1, by rw [q.1, z]; rfl⟩
theorem K_way {σ : St} (hI : InvX σ) (hO : InvO σ) (μ : St) (p1 : Int32) (p2 : Int32) (p3 : Int32) : M_way_s σ p1 p2 p3 41 0 = lawK (X_way_c σ μ p1 p2 p3) 1 2 0 ∧ (X_way_c σ μ p1 p2 p3 = 0 → M_way σ p1 p2 p3 = X_way σ μ p1 p2 p3) ∧ (X_way_c σ μ p1 p2 p3 = 0 → sEq (M_way_s σ p1 p2 p3) (σ)) ∧ (¬ X_way_c σ μ p1 p2 p3 = 0 → sEq (M_way_s σ p1 p2 p3) σ) := by
  have q := (Q_way hI μ p1 p2 p3).law (by rcases C_way (σ := σ) (μ := μ) (p1 := p1) (p2 := p2) (p3 := p3) with z | z | z <;> rw [z] <;> decide)
  exact ⟨q.1, q.2.1, q.2.2.1, q.2.2.2⟩
theorem IO_way {σ : St} (hI : InvX σ) (hO : InvO σ) (p1 : Int32) (p2 : Int32) (p3 : Int32) : InvX (M_way_s σ p1 p2 p3) ∧ InvO (M_way_s σ p1 p2 p3) := by
  have q := K_way hI hO (fun _ _ => 0) p1 p2 p3
  exact fin2 hI hO q.2.2.1 q.2.2.2 hI hO
theorem c_R_way {l : Launch} {D : va_G} {ca : Nat → Nat} {h : fH} {r : Nat} {σ : St} (hX : RA ca h r σ) (hI : InvX σ) (hO : InvO σ) (p1 : Int32) (p2 : Int32) (p3 : Int32) : FM l D ca yX10_way (.code yX10_way cX10_way 6 (some .int)) { frames := 7, cells := 3, slots := 18, locals := 126 } [.ref r, .int p1, .int p2, .int p3] h (pPub (some (.int (M_way σ p1 p2 p3))) (M_way_s σ p1 p2 p3 41 0) (fun h2 => RA ca h2 r (M_way_s σ p1 p2 p3))) (fun E h2 => RA ca h2 r (M_way_s σ p1 p2 p3) ∧ ((E = xIO ∧ M_way_s σ p1 p2 p3 41 0 = 1) ∨ (E = xIA ∧ M_way_s σ p1 p2 p3 41 0 = 2))) := by
  obtain ⟨ρ, μ, cap, hR, hr, hcap⟩ := hX
  subst hr
  have q := K_way hI hO μ p1 p2 p3
  refine (c_X_way hR hI p1 p2 p3).conseq (fun v h2 e => ?_) (fun E h2 e => ?_)
  · obtain ⟨e1, e2, hRA0⟩ := e
    have hRA : RA ca h2 (ρ 0 0) (σ) := ⟨ρ, _, cap, hRA0, rfl, hcap⟩
    exact ⟨by rw [e1, q.2.1 e2], by rw [q.1, e2]; rfl, finR hRA hRA (Or.inr rfl) q.2.2.1 q.2.2.2⟩
  · obtain ⟨eE, ec, hRA0⟩ := e
    have hRA : RA ca h2 (ρ 0 0) (σ) := ⟨ρ, _, cap, hRA0, rfl, hcap⟩
    refine ⟨finR hRA hRA (Or.inr rfl) q.2.2.1 q.2.2.2, ?_⟩
    rcases C_way (σ := σ) (μ := μ) (p1 := p1) (p2 := p2) (p3 := p3) with z | z | z
    · exact absurd z ec
    · exact Or.inl ⟨by rw [eE, z]; exact xN_1, by rw [q.1, z]; rfl⟩
    · exact Or.inr (⟨by rw [eE, z]; exact xN_2, by rw [q.1, z]; rfl⟩)
theorem K_ofReading {σ : St} (hI : InvX σ) (hO : InvO σ) (p1 : Int32) (p2 : Int32) (p3 : Int32) : M_ofReading_s σ p1 p2 p3 41 0 = lawK (X_ofReading_c σ p1 p2 p3) 1 2 0 ∧ (X_ofReading_c σ p1 p2 p3 = 0 → M_ofReading σ p1 p2 p3 = X_ofReading σ p1 p2 p3) ∧ (X_ofReading_c σ p1 p2 p3 = 0 → sEq (M_ofReading_s σ p1 p2 p3) (X_ofReading_s σ p1 p2 p3)) ∧ (¬ X_ofReading_c σ p1 p2 p3 = 0 → sEq (M_ofReading_s σ p1 p2 p3) σ) := by
  have q := (Q_ofReading hI p1 p2 p3).law (by rcases C_ofReading (σ := σ) (p1 := p1) (p2 := p2) (p3 := p3) with z | z | z <;> rw [z] <;> decide)
  exact ⟨q.1, q.2.1, q.2.2.1, q.2.2.2⟩
theorem IO_ofReading {σ : St} (hI : InvX σ) (hO : InvO σ) (p1 : Int32) (p2 : Int32) (p3 : Int32) : InvX (M_ofReading_s σ p1 p2 p3) ∧ InvO (M_ofReading_s σ p1 p2 p3) := by
  have q := K_ofReading hI hO p1 p2 p3
  exact fin2 hI hO q.2.2.1 q.2.2.2 (by rw [R_ofReading]; exact hI) (by rw [R_ofReading]; exact hO)
theorem c_R_ofReading {l : Launch} {D : va_G} {ca : Nat → Nat} {h : fH} {r : Nat} {σ : St} (hX : RA ca h r σ) (hI : InvX σ) (hO : InvO σ) (p1 : Int32) (p2 : Int32) (p3 : Int32) : FM l D ca yX10_ofReading (.code yX10_ofReading cX10_ofReading 6 (some .int)) { frames := 8, cells := 3, slots := 18, locals := 147 } [.ref r, .int p1, .int p2, .int p3] h (pPub (some (.int (M_ofReading σ p1 p2 p3))) (M_ofReading_s σ p1 p2 p3 41 0) (fun h2 => RA ca h2 r (M_ofReading_s σ p1 p2 p3))) (fun E h2 => RA ca h2 r (M_ofReading_s σ p1 p2 p3) ∧ ((E = xIO ∧ M_ofReading_s σ p1 p2 p3 41 0 = 1) ∨ (E = xIA ∧ M_ofReading_s σ p1 p2 p3 41 0 = 2))) := by
  obtain ⟨ρ, μ, cap, hR, hr, hcap⟩ := hX
  subst hr
  have q := K_ofReading hI hO p1 p2 p3
  refine (c_X_ofReading hR hI p1 p2 p3).conseq (fun v h2 e => ?_) (fun E h2 e => ?_)
  · obtain ⟨e1, e2, hRA0⟩ := e
    have hRA : RA ca h2 (ρ 0 0) (X_ofReading_s σ p1 p2 p3) := ⟨ρ, _, cap, hRA0, rfl, hcap⟩
    exact ⟨by rw [e1, q.2.1 e2], by rw [q.1, e2]; rfl, finR hRA hRA (Or.inr (R_ofReading σ p1 p2 p3)) q.2.2.1 q.2.2.2⟩
  · obtain ⟨eE, ec, hRA0⟩ := e
    have hRA : RA ca h2 (ρ 0 0) (X_ofReading_s σ p1 p2 p3) := ⟨ρ, _, cap, hRA0, rfl, hcap⟩
    refine ⟨finR hRA hRA (Or.inr (R_ofReading σ p1 p2 p3)) q.2.2.1 q.2.2.2, ?_⟩
    rcases C_ofReading (σ := σ) (p1 := p1) (p2 := p2) (p3 := p3) with z | z | z
    · exact absurd z ec
    · exact Or.inl ⟨by rw [eE, z]; exact xN_1, by rw [q.1, z]; rfl⟩
    · exact Or.inr (⟨by rw [eE, z]; exact xN_2, by rw [q.1, z]; rfl⟩)
theorem K_trend {σ : St} (hI : InvX σ) (hO : InvO σ) (p1 : Int32) : M_trend_s σ p1 41 0 = lawK (X_trend_c σ p1) 1 0 2 ∧ (X_trend_c σ p1 = 0 → M_trend σ p1 = X_trend σ p1) ∧ (X_trend_c σ p1 = 0 → sEq (M_trend_s σ p1) (X_trend_s σ p1)) ∧ (¬ X_trend_c σ p1 = 0 → sEq (M_trend_s σ p1) σ) := by
  have q := (Q_trend hI p1).law (by rcases C_trend (σ := σ) (p1 := p1) with z | z | z <;> rw [z] <;> decide)
  exact ⟨q.1, q.2.1, q.2.2.1, q.2.2.2⟩
theorem IO_trend {σ : St} (hI : InvX σ) (hO : InvO σ) (p1 : Int32) : InvX (M_trend_s σ p1) ∧ InvO (M_trend_s σ p1) := by
  have q := K_trend hI hO p1
  exact fin2 hI hO q.2.2.1 q.2.2.2 (by rw [R_trend]; exact hI) (by rw [R_trend]; exact hO)
theorem c_R_trend {l : Launch} {D : va_G} {ca : Nat → Nat} {h : fH} {r : Nat} {σ : St} (hX : RA ca h r σ) (hI : InvX σ) (hO : InvO σ) (p1 : Int32) : FM l D ca yX10_trend (.code yX10_trend cX10_trend 2 (some .long)) { frames := 8, cells := 2, slots := 12, locals := 197 } [.ref r, .int p1] h (pPub (some (.long (M_trend σ p1))) (M_trend_s σ p1 41 0) (fun h2 => RA ca h2 r (M_trend_s σ p1))) (fun E h2 => RA ca h2 r (M_trend_s σ p1) ∧ ((E = xIO ∧ M_trend_s σ p1 41 0 = 1) ∨ (E = xIS ∧ M_trend_s σ p1 41 0 = 2))) := by
  obtain ⟨ρ, μ, cap, hR, hr, hcap⟩ := hX
  subst hr
  have q := K_trend hI hO p1
  refine (c_X_trend hR hI p1).conseq (fun v h2 e => ?_) (fun E h2 e => ?_)
  · obtain ⟨e1, e2, hRA0⟩ := e
    have hRA : RA ca h2 (ρ 0 0) (X_trend_s σ p1) := ⟨ρ, _, cap, hRA0, rfl, hcap⟩
    exact ⟨by rw [e1, q.2.1 e2], by rw [q.1, e2]; rfl, finR hRA hRA (Or.inr (R_trend σ p1)) q.2.2.1 q.2.2.2⟩
  · obtain ⟨eE, ec, hRA0⟩ := e
    have hRA : RA ca h2 (ρ 0 0) (X_trend_s σ p1) := ⟨ρ, _, cap, hRA0, rfl, hcap⟩
    refine ⟨finR hRA hRA (Or.inr (R_trend σ p1)) q.2.2.1 q.2.2.2, ?_⟩
    rcases C_trend (σ := σ) (p1 := p1) with z | z | z
    · exact absurd z ec
    · exact Or.inl ⟨by rw [eE, z]; exact xN_1, by rw [q.1, z]; rfl⟩
    · exact Or.inr (⟨by rw [eE, z]; exact xN_3, by rw [q.1, z]; rfl⟩)
theorem K_isHeld {σ : St} (hI : InvX σ) (hO : InvO σ) : M_isHeld_s σ 41 0 = lawK ((0 : Int32)) 0 0 0 ∧ ((0 : Int32) = 0 → M_isHeld σ = X_isHeld σ) ∧ ((0 : Int32) = 0 → sEq (M_isHeld_s σ) (X_isHeld_s σ)) ∧ (¬ (0 : Int32) = 0 → sEq (M_isHeld_s σ) σ) := by
  have q := (Q_isHeld σ).law (Or.inl rfl)
  exact ⟨q.1, q.2.1, q.2.2.1, q.2.2.2⟩
theorem IO_isHeld {σ : St} (hI : InvX σ) (hO : InvO σ) : InvX (M_isHeld_s σ) ∧ InvO (M_isHeld_s σ) := by
  have q := K_isHeld hI hO
  exact fin2 hI hO q.2.2.1 q.2.2.2 hI hO
theorem c_R_isHeld {l : Launch} {D : va_G} {ca : Nat → Nat} {h : fH} {r : Nat} {σ : St} (hX : RA ca h r σ) (hI : InvX σ) (hO : InvO σ) : FM l D ca yX10_isHeld (.code yX10_isHeld cX10_isHeld 1 (some .boolean)) { frames := 1, cells := 0, slots := 0, locals := 20 } [.ref r] h (pPub (some (.int (M_isHeld σ))) (M_isHeld_s σ 41 0) (fun h2 => RA ca h2 r (M_isHeld_s σ))) noX := by
  obtain ⟨ρ, μ, cap, hR, hr, hcap⟩ := hX
  subst hr
  have q := K_isHeld hI hO
  refine (c_X_isHeld hR hI).conseq (fun v h2 e => ?_) (fun E h2 e => ?_)
  · obtain ⟨e1, e2, hRA0⟩ := e
    have hRA : RA ca h2 (ρ 0 0) (σ) := ⟨ρ, _, cap, hRA0, rfl, hcap⟩
    exact ⟨by rw [e1, q.2.1 rfl], by rw [q.1]; rfl, finR hRA hRA (Or.inr rfl) q.2.2.1 q.2.2.2⟩
  · obtain ⟨_, ec, _⟩ := e
    exact absurd rfl ec
theorem K_culprit {σ : St} (hI : InvX σ) (hO : InvO σ) (p1 : Int32) : M_culprit_s σ p1 41 0 = lawK (X_culprit_c σ p1) 1 0 0 ∧ (X_culprit_c σ p1 = 0 → M_culprit σ p1 = X_culprit σ p1) ∧ (X_culprit_c σ p1 = 0 → sEq (M_culprit_s σ p1) (X_culprit_s σ p1)) ∧ (¬ X_culprit_c σ p1 = 0 → sEq (M_culprit_s σ p1) σ) := by
  have q := (Q_culprit hI p1).law (by rcases C_culprit (σ := σ) (p1 := p1) with z | z <;> rw [z] <;> decide)
  exact ⟨q.1, q.2.1, q.2.2.1, q.2.2.2⟩
theorem IO_culprit {σ : St} (hI : InvX σ) (hO : InvO σ) (p1 : Int32) : InvX (M_culprit_s σ p1) ∧ InvO (M_culprit_s σ p1) := by
  have q := K_culprit hI hO p1
  exact fin2 hI hO q.2.2.1 q.2.2.2 (by rw [R_culprit]; exact hI) (by rw [R_culprit]; exact hO)
theorem c_R_culprit {l : Launch} {D : va_G} {ca : Nat → Nat} {h : fH} {r : Nat} {σ : St} (hX : RA ca h r σ) (hI : InvX σ) (hO : InvO σ) (p1 : Int32) : FM l D ca yX10_culprit (.code yX10_culprit cX10_culprit 7 (some .int)) { frames := 8, cells := 1, slots := 6, locals := 148 } [.ref r, .int p1] h (pPub (some (.int (M_culprit σ p1))) (M_culprit_s σ p1 41 0) (fun h2 => RA ca h2 r (M_culprit_s σ p1))) (fun E h2 => RA ca h2 r (M_culprit_s σ p1) ∧ ((E = xIO ∧ M_culprit_s σ p1 41 0 = 1))) := by
  obtain ⟨ρ, μ, cap, hR, hr, hcap⟩ := hX
  subst hr
  have q := K_culprit hI hO p1
  refine (c_X_culprit hR hI p1).conseq (fun v h2 e => ?_) (fun E h2 e => ?_)
  · obtain ⟨e1, e2, hRA0⟩ := e
    have hRA : RA ca h2 (ρ 0 0) (X_culprit_s σ p1) := ⟨ρ, _, cap, hRA0, rfl, hcap⟩
    exact ⟨by rw [e1, q.2.1 e2], by rw [q.1, e2]; rfl, finR hRA hRA (Or.inr (R_culprit σ p1)) q.2.2.1 q.2.2.2⟩
  · obtain ⟨eE, ec, hRA0⟩ := e
    have hRA : RA ca h2 (ρ 0 0) (X_culprit_s σ p1) := ⟨ρ, _, cap, hRA0, rfl, hcap⟩
    refine ⟨finR hRA hRA (Or.inr (R_culprit σ p1)) q.2.2.1 q.2.2.2, ?_⟩
    rcases C_culprit (σ := σ) (p1 := p1) with z | z
    · exact absurd z ec
    · exact ⟨by rw [eE, z]; exact xN_1, by rw [q.1, z]; rfl⟩
theorem K_plan {σ : St} (hI : InvX σ) (hO : InvO σ) (μ : St) (p1 : Int32) (p2 : Int32) (p3 : Int32) : M_plan_s σ p1 p2 p3 41 0 = lawK (X_plan_c σ μ p1 p2 p3) 1 2 0 ∧ (X_plan_c σ μ p1 p2 p3 = 0 → M_plan σ p1 p2 p3 = X_plan σ μ p1 p2 p3) ∧ (X_plan_c σ μ p1 p2 p3 = 0 → sEq (M_plan_s σ p1 p2 p3) (σ)) ∧ (¬ X_plan_c σ μ p1 p2 p3 = 0 → sEq (M_plan_s σ p1 p2 p3) σ) := by
  have q := (Q_plan hI hO μ p1 p2 p3).law (by rcases C_plan (σ := σ) (μ := μ) (p1 := p1) (p2 := p2) (p3 := p3) with z | z | z <;> rw [z] <;> decide)
  exact ⟨q.1, q.2.1, q.2.2.1, q.2.2.2⟩
theorem IO_plan {σ : St} (hI : InvX σ) (hO : InvO σ) (p1 : Int32) (p2 : Int32) (p3 : Int32) : InvX (M_plan_s σ p1 p2 p3) ∧ InvO (M_plan_s σ p1 p2 p3) := by
  have q := K_plan hI hO (fun _ _ => 0) p1 p2 p3
  exact fin2 hI hO q.2.2.1 q.2.2.2 hI hO
theorem c_R_plan {l : Launch} {D : va_G} {ca : Nat → Nat} {h : fH} {r : Nat} {σ : St} (hX : RA ca h r σ) (hI : InvX σ) (hO : InvO σ) (p1 : Int32) (p2 : Int32) (p3 : Int32) : FM l D ca yX10_plan (.code yX10_plan cX10_plan 8 (some .int)) { frames := 8, cells := 3, slots := 18, locals := 149 } [.ref r, .int p1, .int p2, .int p3] h (pPub (some (.int (M_plan σ p1 p2 p3))) (M_plan_s σ p1 p2 p3 41 0) (fun h2 => RA ca h2 r (M_plan_s σ p1 p2 p3))) (fun E h2 => RA ca h2 r (M_plan_s σ p1 p2 p3) ∧ ((E = xIO ∧ M_plan_s σ p1 p2 p3 41 0 = 1) ∨ (E = xIA ∧ M_plan_s σ p1 p2 p3 41 0 = 2))) := by
  obtain ⟨ρ, μ, cap, hR, hr, hcap⟩ := hX
  subst hr
  have q := K_plan hI hO μ p1 p2 p3
  refine (c_X_plan hR hI p1 p2 p3).conseq (fun v h2 e => ?_) (fun E h2 e => ?_)
  · obtain ⟨e1, e2, hRA0⟩ := e
    have hRA : RA ca h2 (ρ 0 0) (σ) := ⟨ρ, _, cap, hRA0, rfl, hcap⟩
    exact ⟨by rw [e1, q.2.1 e2], by rw [q.1, e2]; rfl, finR hRA hRA (Or.inr rfl) q.2.2.1 q.2.2.2⟩
  · obtain ⟨eE, ec, hRA0⟩ := e
    have hRA : RA ca h2 (ρ 0 0) (σ) := ⟨ρ, _, cap, hRA0, rfl, hcap⟩
    refine ⟨finR hRA hRA (Or.inr rfl) q.2.2.1 q.2.2.2, ?_⟩
    rcases C_plan (σ := σ) (μ := μ) (p1 := p1) (p2 := p2) (p3 := p3) with z | z | z
    · exact absurd z ec
    · exact Or.inl ⟨by rw [eE, z]; exact xN_1, by rw [q.1, z]; rfl⟩
    · exact Or.inr (⟨by rw [eE, z]; exact xN_2, by rw [q.1, z]; rfl⟩)
end
