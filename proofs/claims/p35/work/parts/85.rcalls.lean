noncomputable section
theorem J_sld {K : KT} {mn own : String} {cc : ByteArray} {n : Nat} {ret : Option FieldType} {tb : List ExceptionTableEntry} {w0 : Cond} {rm : Room} {h0 : fH} {post : Option Value → fH → Prop} {px : String → fH → Prop} (X : JX K mn own cc n ret tb w0 rm h0 post px) {b L : Nat} {xs : Nat → Int32} {h : fH} {lv : LV} {st : List Value} {pc cells slots : Nat} (hX : va_X b L xs (ks K) (ks K).heap) (hbl : b < (ks K).heap.size) (hbA : ¬ kA K b) {i v : Int32} (hin : vp_in i L) (he : xs i.toNatClampNeg = v) (d : decode cc pc = .ok (.iaload, 1)) (k : J K h lv (.int v :: st) (pc + 1) cells slots) : J K h lv (.int i :: .ref b :: st) pc cells slots := fun H locs ls hP hD hS hl => by
  subst he
  exact va_sld X.1 X.2.1 hX hbl hbA hS hin d (k H locs ls hP hD hS hl)
theorem J_slen {K : KT} {mn own : String} {cc : ByteArray} {n : Nat} {ret : Option FieldType} {tb : List ExceptionTableEntry} {w0 : Cond} {rm : Room} {h0 : fH} {post : Option Value → fH → Prop} {px : String → fH → Prop} (X : JX K mn own cc n ret tb w0 rm h0 post px) {b L : Nat} {xs : Nat → Int32} {h : fH} {lv : LV} {st : List Value} {pc cells slots : Nat} (hX : va_X b L xs (ks K) (ks K).heap) (hbl : b < (ks K).heap.size) (hbA : ¬ kA K b) (d : decode cc pc = .ok (.arraylength, 1)) (k : J K h lv (.int (nI L) :: st) (pc + 1) cells slots) : J K h lv (.ref b :: st) pc cells slots := fun H locs ls hP hD hS hl =>
  va_slen X.1 X.2.1 hX hbl hbA hS d (k H locs ls hP hD hS hl)
theorem lg_eq {x y : Int64} (h : x = y) : lg_cmp x y = 0 := by
  subst h
  unfold lg_cmp
  rw [if_neg (by rw [gt_iff_lt, Int64.lt_iff_toInt_lt]; omega), if_pos rfl]
theorem EQT.law {σ : St} {cx : Int32} {vx : Int64} {sx : St} {vm : Int64} {sm : St} {c1 c3 : Int32} (h : EQT σ cx vx sx vm sm c1 c3) (hc : cx = 0 ∨ cx = 1 ∨ cx = 2 ∨ cx = 3) : sm 41 0 = lawK cx c1 0 c3 ∧ (cx = 0 → vm = vx) ∧ (cx = 0 → sEq sm sx) ∧ (¬ cx = 0 → sEq sm σ) := by
  rcases hc with z | z | z | z
  · obtain ⟨a, b, c⟩ := h.1 z
    subst z
    exact ⟨a, fun _ => b, fun _ => c, fun w => absurd rfl w⟩
  · obtain ⟨a, b⟩ := h.2.1 z
    subst z
    exact ⟨a, fun w => absurd w (by decide), fun w => absurd w (by decide), fun _ => b⟩
  · exact absurd z h.2.2.2
  · obtain ⟨a, b⟩ := h.2.2.1 z
    subst z
    exact ⟨a, fun w => absurd w (by decide), fun w => absurd w (by decide), fun _ => b⟩
theorem fin2 {σ sx sm : St} {cx : Int32} (hI : InvX σ) (hO : InvO σ) (e1 : cx = 0 → sEq sm sx) (e2 : ¬ cx = 0 → sEq sm σ) (hIx : InvX sx) (hOx : InvO sx) : InvX sm ∧ InvO sm := by
  by_cases c : cx = 0
  · have e := e1 c
    exact ⟨InvX_ext e hIx, InvO_ext hOx (e 14 (by decide)) (e 13 (by decide))⟩
  · have e := e2 c
    exact ⟨InvX_ext e hI, InvO_ext hO (e 14 (by decide)) (e 13 (by decide))⟩
theorem finR {ca : Nat → Nat} {h : fH} {r : Nat} {σ s1 sx sm : St} {cx : Int32} (hRA : RA ca h r s1) (h0 : RA ca h r sx) (hN : cx = 0 ∨ s1 = σ) (e1 : cx = 0 → sEq sm sx) (e2 : ¬ cx = 0 → sEq sm σ) : RA ca h r sm := by
  by_cases c : cx = 0
  · exact h0.ext (e1 c)
  · have hs := hN.resolve_left c
    subst hs
    exact hRA.ext (e2 c)
theorem K_ridge {σ : St} (hI : InvX σ) (hO : InvO σ) (p1 : Int32) (p2 : Int32) (hp2 : p2 = 0 ∨ p2 = 1) : M_ridge_s σ p1 p2 41 0 = lawK (X_ridge_c σ p1 p2) 1 0 0 ∧ (X_ridge_c σ p1 p2 = 0 → M_ridge σ p1 p2 = X_ridge σ p1 p2) ∧ (X_ridge_c σ p1 p2 = 0 → sEq (M_ridge_s σ p1 p2) (X_ridge_s σ p1 p2)) ∧ (¬ X_ridge_c σ p1 p2 = 0 → sEq (M_ridge_s σ p1 p2) σ) := by
  have q := (Q_ridge σ p1 p2).law (by rcases C_ridge (σ := σ) (p1 := p1) (p2 := p2) with z | z <;> rw [z] <;> decide)
  exact ⟨q.1, q.2.1, q.2.2.1, q.2.2.2⟩
theorem IO_ridge {σ : St} (hI : InvX σ) (hO : InvO σ) (p1 : Int32) (p2 : Int32) (hp2 : p2 = 0 ∨ p2 = 1) : InvX (M_ridge_s σ p1 p2) ∧ InvO (M_ridge_s σ p1 p2) := by
  have q := K_ridge hI hO p1 p2 hp2
  exact fin2 hI hO q.2.2.1 q.2.2.2 (I_ridge hI p1 hp2) (O_ridge hO p1 p2)
theorem c_R_ridge {l : Launch} {D : va_G} {ca : Nat → Nat} {h : fH} {r : Nat} {σ : St} (hX : RA ca h r σ) (hI : InvX σ) (hO : InvO σ) (p1 : Int32) (p2 : Int32) (hp2 : p2 = 0 ∨ p2 = 1) : FM l D ca yX10_ridge (.code yX10_ridge cX10_ridge 5 (some .boolean)) { frames := 8, cells := 1, slots := 6, locals := 146 } [.ref r, .int p1, .int p2] h (pPub (some (.int (M_ridge σ p1 p2))) (M_ridge_s σ p1 p2 41 0) (fun h2 => RA ca h2 r (M_ridge_s σ p1 p2))) (fun E h2 => RA ca h2 r (M_ridge_s σ p1 p2) ∧ ((E = xIO ∧ M_ridge_s σ p1 p2 41 0 = 1))) := by
  obtain ⟨ρ, μ, cap, hR, hr, hcap⟩ := hX
  subst hr
  have q := K_ridge hI hO p1 p2 hp2
  refine (c_X_ridge hR hI p1 p2 hp2).conseq (fun v h2 e => ?_) (fun E h2 e => ?_)
  · obtain ⟨e1, e2, hRA0⟩ := e
    have hRA : RA ca h2 (ρ 0 0) (X_ridge_s σ p1 p2) := ⟨ρ, _, cap, hRA0, rfl, hcap⟩
    exact ⟨by rw [e1, q.2.1 e2], by rw [q.1, e2]; rfl, finR hRA hRA (N_ridge σ p1 p2) q.2.2.1 q.2.2.2⟩
  · obtain ⟨eE, ec, hRA0⟩ := e
    have hRA : RA ca h2 (ρ 0 0) (X_ridge_s σ p1 p2) := ⟨ρ, _, cap, hRA0, rfl, hcap⟩
    refine ⟨finR hRA hRA (N_ridge σ p1 p2) q.2.2.1 q.2.2.2, ?_⟩
    rcases C_ridge (σ := σ) (p1 := p1) (p2 := p2) with z | z
    · exact absurd z ec
    · exact ⟨by rw [eE, z]; exact xN_1, by rw [q.1, z]; rfl⟩
theorem K_zone {σ : St} (hI : InvX σ) (hO : InvO σ) (p1 : Int32) (p2 : Int32) : M_zone_s σ p1 p2 41 0 = lawK (X_zone_c σ p1 p2) 1 0 0 ∧ (X_zone_c σ p1 p2 = 0 → M_zone σ p1 p2 = X_zone σ p1 p2) ∧ (X_zone_c σ p1 p2 = 0 → sEq (M_zone_s σ p1 p2) (X_zone_s σ p1 p2)) ∧ (¬ X_zone_c σ p1 p2 = 0 → sEq (M_zone_s σ p1 p2) σ) := by
  have q := (Q_zone hI p1 p2).law (by rcases C_zone (σ := σ) (p1 := p1) (p2 := p2) with z | z <;> rw [z] <;> decide)
  exact ⟨q.1, q.2.1, q.2.2.1, q.2.2.2⟩
theorem IO_zone {σ : St} (hI : InvX σ) (hO : InvO σ) (p1 : Int32) (p2 : Int32) : InvX (M_zone_s σ p1 p2) ∧ InvO (M_zone_s σ p1 p2) := by
  have q := K_zone hI hO p1 p2
  exact fin2 hI hO q.2.2.1 q.2.2.2 (I_zone hI p1 p2) (O_zone hO p1 p2)
theorem c_R_zone {l : Launch} {D : va_G} {ca : Nat → Nat} {h : fH} {r : Nat} {σ : St} (hX : RA ca h r σ) (hI : InvX σ) (hO : InvO σ) (p1 : Int32) (p2 : Int32) : FM l D ca yX10_zone (.code yX10_zone cX10_zone 6 (some .int)) { frames := 8, cells := 2, slots := 12, locals := 147 } [.ref r, .int p1, .int p2] h (pPub (some (.int (M_zone σ p1 p2))) (M_zone_s σ p1 p2 41 0) (fun h2 => RA ca h2 r (M_zone_s σ p1 p2))) (fun E h2 => RA ca h2 r (M_zone_s σ p1 p2) ∧ ((E = xIO ∧ M_zone_s σ p1 p2 41 0 = 1))) := by
  obtain ⟨ρ, μ, cap, hR, hr, hcap⟩ := hX
  subst hr
  have q := K_zone hI hO p1 p2
  refine (c_X_zone hR hI p1 p2).conseq (fun v h2 e => ?_) (fun E h2 e => ?_)
  · obtain ⟨e1, e2, hRA0⟩ := e
    have hRA : RA ca h2 (ρ 0 0) (X_zone_s σ p1 p2) := ⟨ρ, _, cap, hRA0, rfl, hcap⟩
    exact ⟨by rw [e1, q.2.1 e2], by rw [q.1, e2]; rfl, finR hRA hRA (N_zone σ p1 p2) q.2.2.1 q.2.2.2⟩
  · obtain ⟨eE, ec, hRA0⟩ := e
    have hRA : RA ca h2 (ρ 0 0) (X_zone_s σ p1 p2) := ⟨ρ, _, cap, hRA0, rfl, hcap⟩
    refine ⟨finR hRA hRA (N_zone σ p1 p2) q.2.2.1 q.2.2.2, ?_⟩
    rcases C_zone (σ := σ) (p1 := p1) (p2 := p2) with z | z
    · exact absurd z ec
    · exact ⟨by rw [eE, z]; exact xN_1, by rw [q.1, z]; rfl⟩
theorem K_law {σ : St} (hI : InvX σ) (hO : InvO σ) (p1 : Int32) (p2 : Int32) (p3 : Int32) (p4 : Int32) : M_law_s σ p1 p2 p3 p4 41 0 = lawK (X_law_c σ p1 p2 p3 p4) 1 2 0 ∧ (X_law_c σ p1 p2 p3 p4 = 0 → sEq (M_law_s σ p1 p2 p3 p4) (X_law_s σ p1 p2 p3 p4)) ∧ (¬ X_law_c σ p1 p2 p3 p4 = 0 → sEq (M_law_s σ p1 p2 p3 p4) σ) := by
  have q := (Q_law (σ := σ) p1 p2 p3 p4).law (by rcases C_law (σ := σ) (p1 := p1) (p2 := p2) (p3 := p3) (p4 := p4) with z | z | z <;> rw [z] <;> decide)
  exact ⟨q.1, q.2.2.1, q.2.2.2⟩
theorem IO_law {σ : St} (hI : InvX σ) (hO : InvO σ) (p1 : Int32) (p2 : Int32) (p3 : Int32) (p4 : Int32) : InvX (M_law_s σ p1 p2 p3 p4) ∧ InvO (M_law_s σ p1 p2 p3 p4) := by
  have q := K_law hI hO p1 p2 p3 p4
  exact fin2 hI hO q.2.1 q.2.2 (I_law hI p1 p2 p3 p4) (O_law hO p1 p2 p3 p4)
theorem c_R_law {l : Launch} {D : va_G} {ca : Nat → Nat} {h : fH} {r : Nat} {σ : St} (hX : RA ca h r σ) (hI : InvX σ) (hO : InvO σ) (p1 : Int32) (p2 : Int32) (p3 : Int32) (p4 : Int32) : FM l D ca yX10_law (.code yX10_law cX10_law 6 none) { frames := 8, cells := 4, slots := 24, locals := 147 } [.ref r, .int p1, .int p2, .int p3, .int p4] h (pPub none (M_law_s σ p1 p2 p3 p4 41 0) (fun h2 => RA ca h2 r (M_law_s σ p1 p2 p3 p4))) (fun E h2 => RA ca h2 r (M_law_s σ p1 p2 p3 p4) ∧ ((E = xIO ∧ M_law_s σ p1 p2 p3 p4 41 0 = 1) ∨ (E = xIA ∧ M_law_s σ p1 p2 p3 p4 41 0 = 2))) := by
  obtain ⟨ρ, μ, cap, hR, hr, hcap⟩ := hX
  subst hr
  have q := K_law hI hO p1 p2 p3 p4
  refine (c_X_law hR hI p1 p2 p3 p4).conseq (fun v h2 e => ?_) (fun E h2 e => ?_)
  · obtain ⟨e1, e2, hRA0⟩ := e
    have hRA : RA ca h2 (ρ 0 0) (X_law_s σ p1 p2 p3 p4) := ⟨ρ, _, cap, hRA0, rfl, hcap⟩
    exact ⟨e1, by rw [q.1, e2]; rfl, finR hRA hRA (N_law σ p1 p2 p3 p4) q.2.1 q.2.2⟩
  · obtain ⟨eE, ec, hRA0⟩ := e
    have hRA : RA ca h2 (ρ 0 0) (X_law_s σ p1 p2 p3 p4) := ⟨ρ, _, cap, hRA0, rfl, hcap⟩
    refine ⟨finR hRA hRA (N_law σ p1 p2 p3 p4) q.2.1 q.2.2, ?_⟩
    rcases C_law (σ := σ) (p1 := p1) (p2 := p2) (p3 := p3) (p4 := p4) with z | z | z
    · exact absurd z ec
    · exact Or.inl ⟨by rw [eE, z]; exact xN_1, by rw [q.1, z]; rfl⟩
    · exact Or.inr (⟨by rw [eE, z]; exact xN_2, by rw [q.1, z]; rfl⟩)
theorem K_feast {σ : St} (hI : InvX σ) (hO : InvO σ) (p1 : Int32) (p2 : Int32) : M_feast_s σ p1 p2 41 0 = lawK (X_feast_c σ p1 p2) 1 2 0 ∧ (X_feast_c σ p1 p2 = 0 → M_feast σ p1 p2 = X_feast σ p1 p2) ∧ (X_feast_c σ p1 p2 = 0 → sEq (M_feast_s σ p1 p2) (X_feast_s σ p1 p2)) ∧ (¬ X_feast_c σ p1 p2 = 0 → sEq (M_feast_s σ p1 p2) σ) := by
  have q := (Q_feast hI p1 p2).law (by rcases C_feast (σ := σ) (p1 := p1) (p2 := p2) with z | z | z <;> rw [z] <;> decide)
  exact ⟨q.1, q.2.1, q.2.2.1, q.2.2.2⟩
theorem IO_feast {σ : St} (hI : InvX σ) (hO : InvO σ) (p1 : Int32) (p2 : Int32) : InvX (M_feast_s σ p1 p2) ∧ InvO (M_feast_s σ p1 p2) := by
  have q := K_feast hI hO p1 p2
  exact fin2 hI hO q.2.2.1 q.2.2.2 (I_feast hI p1 p2) (O_feast hO p1 p2)
theorem c_R_feast {l : Launch} {D : va_G} {ca : Nat → Nat} {h : fH} {r : Nat} {σ : St} (hX : RA ca h r σ) (hI : InvX σ) (hO : InvO σ) (p1 : Int32) (p2 : Int32) : FM l D ca yX10_feast (.code yX10_feast cX10_feast 4 (some .int)) { frames := 8, cells := 2, slots := 12, locals := 145 } [.ref r, .int p1, .int p2] h (pPub (some (.int (M_feast σ p1 p2))) (M_feast_s σ p1 p2 41 0) (fun h2 => RA ca h2 r (M_feast_s σ p1 p2))) (fun E h2 => RA ca h2 r (M_feast_s σ p1 p2) ∧ ((E = xIO ∧ M_feast_s σ p1 p2 41 0 = 1) ∨ (E = xIA ∧ M_feast_s σ p1 p2 41 0 = 2))) := by
  obtain ⟨ρ, μ, cap, hR, hr, hcap⟩ := hX
  subst hr
  have q := K_feast hI hO p1 p2
  refine (c_X_feast hR hI p1 p2).conseq (fun v h2 e => ?_) (fun E h2 e => ?_)
  · obtain ⟨e1, e2, hRA0⟩ := e
    have hRA : RA ca h2 (ρ 0 0) (X_feast_s σ p1 p2) := ⟨ρ, _, cap, hRA0, rfl, hcap⟩
    exact ⟨by rw [e1, q.2.1 e2], by rw [q.1, e2]; rfl, finR hRA hRA (N_feast σ p1 p2) q.2.2.1 q.2.2.2⟩
  · obtain ⟨eE, ec, hRA0⟩ := e
    have hRA : RA ca h2 (ρ 0 0) (X_feast_s σ p1 p2) := ⟨ρ, _, cap, hRA0, rfl, hcap⟩
    refine ⟨finR hRA hRA (N_feast σ p1 p2) q.2.2.1 q.2.2.2, ?_⟩
    rcases C_feast (σ := σ) (p1 := p1) (p2 := p2) with z | z | z
    · exact absurd z ec
    · exact Or.inl ⟨by rw [eE, z]; exact xN_1, by rw [q.1, z]; rfl⟩
    · exact Or.inr (⟨by rw [eE, z]; exact xN_2, by rw [q.1, z]; rfl⟩)
theorem K_air {σ : St} (hI : InvX σ) (hO : InvO σ) (p1 : Int32) : M_air_s σ p1 41 0 = lawK (X_air_c σ p1) 0 1 0 ∧ (X_air_c σ p1 = 0 → M_air σ p1 = X_air σ p1) ∧ (X_air_c σ p1 = 0 → sEq (M_air_s σ p1) (X_air_s σ p1)) ∧ (¬ X_air_c σ p1 = 0 → sEq (M_air_s σ p1) σ) := by
  have q := (Q_air σ p1).law (by rcases C_air (σ := σ) (p1 := p1) with z | z <;> rw [z] <;> decide)
  exact ⟨q.1, q.2.1, q.2.2.1, q.2.2.2⟩
theorem IO_air {σ : St} (hI : InvX σ) (hO : InvO σ) (p1 : Int32) : InvX (M_air_s σ p1) ∧ InvO (M_air_s σ p1) := by
  have q := K_air hI hO p1
  exact fin2 hI hO q.2.2.1 q.2.2.2 (I_air hI p1) (O_air hO p1)
theorem c_R_air {l : Launch} {D : va_G} {ca : Nat → Nat} {h : fH} {r : Nat} {σ : St} (hX : RA ca h r σ) (hI : InvX σ) (hO : InvO σ) (p1 : Int32) : FM l D ca yX10_air (.code yX10_air cX10_air 3 (some .int)) { frames := 7, cells := 1, slots := 6, locals := 123 } [.ref r, .int p1] h (pPub (some (.int (M_air σ p1))) (M_air_s σ p1 41 0) (fun h2 => RA ca h2 r (M_air_s σ p1))) (fun E h2 => RA ca h2 r (M_air_s σ p1) ∧ ((E = xIA ∧ M_air_s σ p1 41 0 = 1))) := by
  obtain ⟨ρ, μ, cap, hR, hr, hcap⟩ := hX
  subst hr
  have q := K_air hI hO p1
  refine (c_X_air hR hI p1).conseq (fun v h2 e => ?_) (fun E h2 e => ?_)
  · obtain ⟨e1, e2, hRA0⟩ := e
    have hRA : RA ca h2 (ρ 0 0) (X_air_s σ p1) := ⟨ρ, _, cap, hRA0, rfl, hcap⟩
    exact ⟨by rw [e1, q.2.1 e2], by rw [q.1, e2]; rfl, finR hRA hRA (N_air σ p1) q.2.2.1 q.2.2.2⟩
  · obtain ⟨eE, ec, hRA0⟩ := e
    have hRA : RA ca h2 (ρ 0 0) (X_air_s σ p1) := ⟨ρ, _, cap, hRA0, rfl, hcap⟩
    refine ⟨finR hRA hRA (N_air σ p1) q.2.2.1 q.2.2.2, ?_⟩
    rcases C_air (σ := σ) (p1 := p1) with z | z
    · exact absurd z ec
    · exact ⟨by rw [eE, z]; exact xN_2, by rw [q.1, z]; rfl⟩
theorem K_pass {σ : St} (hI : InvX σ) (hO : InvO σ) (p1 : Int32) : M_pass_s σ p1 41 0 = lawK (X_pass_c σ p1) 0 1 2 ∧ (X_pass_c σ p1 = 0 → M_pass σ p1 = X_pass σ p1) ∧ (X_pass_c σ p1 = 0 → sEq (M_pass_s σ p1) (X_pass_s σ p1)) ∧ (¬ X_pass_c σ p1 = 0 → sEq (M_pass_s σ p1) σ) := by
  have q := ((Q_pass hI p1).1).law (by rcases C_pass (σ := σ) (p1 := p1) with z | z | z <;> rw [z] <;> decide)
  exact ⟨q.1, q.2.1, q.2.2.1, q.2.2.2⟩
theorem IO_pass {σ : St} (hI : InvX σ) (hO : InvO σ) (p1 : Int32) : InvX (M_pass_s σ p1) ∧ InvO (M_pass_s σ p1) := by
  have q := K_pass hI hO p1
  exact fin2 hI hO q.2.2.1 q.2.2.2 (Q_pass hI p1).2 (O_pass hI hO p1)
theorem c_R_pass {l : Launch} {D : va_G} {ca : Nat → Nat} {h : fH} {r : Nat} {σ : St} (hX : RA ca h r σ) (hI : InvX σ) (hO : InvO σ) (p1 : Int32) : FM l D ca yX10_pass (.code yX10_pass cX10_pass 3 (some .int)) { frames := 7, cells := 2, slots := 12, locals := 123 } [.ref r, .int p1] h (pPub (some (.int (M_pass σ p1))) (M_pass_s σ p1 41 0) (fun h2 => RA ca h2 r (M_pass_s σ p1))) (fun E h2 => RA ca h2 r (M_pass_s σ p1) ∧ ((E = xIA ∧ M_pass_s σ p1 41 0 = 1) ∨ (E = xIS ∧ M_pass_s σ p1 41 0 = 2))) := by
  obtain ⟨ρ, μ, cap, hR, hr, hcap⟩ := hX
  subst hr
  have q := K_pass hI hO p1
  refine (c_X_pass hR hI p1).conseq (fun v h2 e => ?_) (fun E h2 e => ?_)
  · obtain ⟨e1, e2, hRA0⟩ := e
    have hRA : RA ca h2 (ρ 0 0) (X_pass_s σ p1) := ⟨ρ, _, cap, hRA0, rfl, hcap⟩
    exact ⟨by rw [e1, q.2.1 e2], by rw [q.1, e2]; rfl, finR hRA hRA (N_pass σ p1) q.2.2.1 q.2.2.2⟩
  · obtain ⟨eE, ec, hRA0⟩ := e
    have hRA : RA ca h2 (ρ 0 0) (X_pass_s σ p1) := ⟨ρ, _, cap, hRA0, rfl, hcap⟩
    refine ⟨finR hRA hRA (N_pass σ p1) q.2.2.1 q.2.2.2, ?_⟩
    rcases C_pass (σ := σ) (p1 := p1) with z | z | z
    · exact absurd z ec
    · exact Or.inl ⟨by rw [eE, z]; exact xN_2, by rw [q.1, z]; rfl⟩
    · exact Or.inr (⟨by rw [eE, z]; exact xN_3, by rw [q.1, z]; rfl⟩)
theorem K_village {σ : St} (hI : InvX σ) (hO : InvO σ) (p1 : Int32) (p2 : Int32) : M_village_s σ p1 p2 41 0 = lawK (X_village_c σ p1 p2) 0 1 2 ∧ (X_village_c σ p1 p2 = 0 → M_village σ p1 p2 = X_village σ p1 p2) ∧ (X_village_c σ p1 p2 = 0 → sEq (M_village_s σ p1 p2) (X_village_s σ p1 p2)) ∧ (¬ X_village_c σ p1 p2 = 0 → sEq (M_village_s σ p1 p2) σ) := by
  have q := ((Q_village hI hO p1 p2).1).law (by rcases C_village (σ := σ) (p1 := p1) (p2 := p2) with z | z | z <;> rw [z] <;> decide)
  exact ⟨q.1, q.2.1, q.2.2.1, q.2.2.2⟩
theorem IO_village {σ : St} (hI : InvX σ) (hO : InvO σ) (p1 : Int32) (p2 : Int32) : InvX (M_village_s σ p1 p2) ∧ InvO (M_village_s σ p1 p2) := by
  have q := K_village hI hO p1 p2
  exact fin2 hI hO q.2.2.1 q.2.2.2 (Q_village hI hO p1 p2).2.1 (Q_village hI hO p1 p2).2.2
theorem c_R_village {l : Launch} {D : va_G} {ca : Nat → Nat} {h : fH} {r : Nat} {σ : St} (hX : RA ca h r σ) (hI : InvX σ) (hO : InvO σ) (p1 : Int32) (p2 : Int32) : FM l D ca yX10_village (.code yX10_village cX10_village 3 (some .int)) { frames := 7, cells := 5, slots := 123, locals := 291 } [.ref r, .int p1, .int p2] h (pPub (some (.int (M_village σ p1 p2))) (M_village_s σ p1 p2 41 0) (fun h2 => RA ca h2 r (M_village_s σ p1 p2))) (fun E h2 => RA ca h2 r (M_village_s σ p1 p2) ∧ ((E = xIA ∧ M_village_s σ p1 p2 41 0 = 1) ∨ (E = xIS ∧ M_village_s σ p1 p2 41 0 = 2))) := by
  obtain ⟨ρ, μ, cap, hR, hr, hcap⟩ := hX
  subst hr
  have q := K_village hI hO p1 p2
  refine (c_X_village hR hI p1 p2 hcap).conseq (fun v h2 e => ?_) (fun E h2 e => ?_)
  · obtain ⟨e1, e2, hRA⟩ := e
    exact ⟨by rw [e1, q.2.1 e2], by rw [q.1, e2]; rfl, finR hRA hRA (N_village σ p1 p2) q.2.2.1 q.2.2.2⟩
  · obtain ⟨eE, ec, hRA⟩ := e
    refine ⟨finR hRA hRA (N_village σ p1 p2) q.2.2.1 q.2.2.2, ?_⟩
    rcases C_village (σ := σ) (p1 := p1) (p2 := p2) with z | z | z
    · exact absurd z ec
    · exact Or.inl ⟨by rw [eE, z]; exact xN_2, by rw [q.1, z]; rfl⟩
    · exact Or.inr (⟨by rw [eE, z]; exact xN_3, by rw [q.1, z]; rfl⟩)
theorem K_lamp {σ : St} (hI : InvX σ) (hO : InvO σ) (p1 : Int32) (p2 : Int32) (p3 : Int32) (p4 : Int32) (p5 : Int32) : M_lamp_s σ p1 p2 p3 p4 p5 41 0 = lawK (X_lamp_c σ p1 p2 p3 p4 p5) 1 2 3 ∧ (X_lamp_c σ p1 p2 p3 p4 p5 = 0 → M_lamp σ p1 p2 p3 p4 p5 = X_lamp σ p1 p2 p3 p4 p5) ∧ (X_lamp_c σ p1 p2 p3 p4 p5 = 0 → sEq (M_lamp_s σ p1 p2 p3 p4 p5) (X_lamp_s σ p1 p2 p3 p4 p5)) ∧ (¬ X_lamp_c σ p1 p2 p3 p4 p5 = 0 → sEq (M_lamp_s σ p1 p2 p3 p4 p5) σ) := by
  have q := ((Q_lamp hI hO p1 p2 p3 p4 p5).1).law (by rcases C_lamp (σ := σ) (p1 := p1) (p2 := p2) (p3 := p3) (p4 := p4) (p5 := p5) with z | z | z | z <;> rw [z] <;> decide)
  exact ⟨q.1, q.2.1, q.2.2.1, q.2.2.2⟩
theorem IO_lamp {σ : St} (hI : InvX σ) (hO : InvO σ) (p1 : Int32) (p2 : Int32) (p3 : Int32) (p4 : Int32) (p5 : Int32) : InvX (M_lamp_s σ p1 p2 p3 p4 p5) ∧ InvO (M_lamp_s σ p1 p2 p3 p4 p5) := by
  have q := K_lamp hI hO p1 p2 p3 p4 p5
  exact fin2 hI hO q.2.2.1 q.2.2.2 (Q_lamp hI hO p1 p2 p3 p4 p5).2.1 (Q_lamp hI hO p1 p2 p3 p4 p5).2.2
theorem c_R_lamp {l : Launch} {D : va_G} {ca : Nat → Nat} {h : fH} {r : Nat} {σ : St} (hX : RA ca h r σ) (hI : InvX σ) (hO : InvO σ) (p1 : Int32) (p2 : Int32) (p3 : Int32) (p4 : Int32) (p5 : Int32) : FM l D ca yX10_lamp (.code yX10_lamp cX10_lamp 8 (some .int)) { frames := 8, cells := 8, slots := 148, locals := 291 } [.ref r, .int p1, .int p2, .int p3, .int p4, .int p5] h (pPub (some (.int (M_lamp σ p1 p2 p3 p4 p5))) (M_lamp_s σ p1 p2 p3 p4 p5 41 0) (fun h2 => RA ca h2 r (M_lamp_s σ p1 p2 p3 p4 p5))) (fun E h2 => RA ca h2 r (M_lamp_s σ p1 p2 p3 p4 p5) ∧ ((E = xIO ∧ M_lamp_s σ p1 p2 p3 p4 p5 41 0 = 1) ∨ (E = xIA ∧ M_lamp_s σ p1 p2 p3 p4 p5 41 0 = 2) ∨ (E = xIS ∧ M_lamp_s σ p1 p2 p3 p4 p5 41 0 = 3))) := by
  obtain ⟨ρ, μ, cap, hR, hr, hcap⟩ := hX
  subst hr
  have q := K_lamp hI hO p1 p2 p3 p4 p5
  refine (c_X_lamp hR hI p1 p2 p3 p4 p5 hcap).conseq (fun v h2 e => ?_) (fun E h2 e => ?_)
  · obtain ⟨e1, e2, hRA⟩ := e
    exact ⟨by rw [e1, q.2.1 e2], by rw [q.1, e2]; rfl, finR hRA hRA (N_lamp σ p1 p2 p3 p4 p5) q.2.2.1 q.2.2.2⟩
  · obtain ⟨eE, ec, hRA⟩ := e
    refine ⟨finR hRA hRA (N_lamp σ p1 p2 p3 p4 p5) q.2.2.1 q.2.2.2, ?_⟩
    rcases C_lamp (σ := σ) (p1 := p1) (p2 := p2) (p3 := p3) (p4 := p4) (p5 := p5) with z | z | z | z
    · exact absurd z ec
    · exact Or.inl ⟨by rw [eE, z]; exact xN_1, by rw [q.1, z]; rfl⟩
    · exact Or.inr (Or.inl ⟨by rw [eE, z]; exact xN_2, by rw [q.1, z]; rfl⟩)
    · exact Or.inr (Or.inr (⟨by rw [eE, z]; exact xN_3, by rw [q.1, z]; rfl⟩))
theorem K_hours {σ : St} (hI : InvX σ) (hO : InvO σ) (p1 : Int32) (p2 : Int32) (p3 : Int32) : M_hours_s σ p1 p2 p3 41 0 = lawK (X_hours_c σ p1 p2 p3) 1 2 3 ∧ (X_hours_c σ p1 p2 p3 = 0 → sEq (M_hours_s σ p1 p2 p3) (X_hours_s σ p1 p2 p3)) ∧ (¬ X_hours_c σ p1 p2 p3 = 0 → sEq (M_hours_s σ p1 p2 p3) σ) := by
  have q := (Q_hours hI p1 p2 p3).law (by rcases C_hours (σ := σ) (p1 := p1) (p2 := p2) (p3 := p3) with z | z | z | z <;> rw [z] <;> decide)
  exact ⟨q.1, q.2.2.1, q.2.2.2⟩
theorem IO_hours {σ : St} (hI : InvX σ) (hO : InvO σ) (p1 : Int32) (p2 : Int32) (p3 : Int32) : InvX (M_hours_s σ p1 p2 p3) ∧ InvO (M_hours_s σ p1 p2 p3) := by
  have q := K_hours hI hO p1 p2 p3
  exact fin2 hI hO q.2.1 q.2.2 (I_hours hI p1 p2 p3) (O_hours hO p1 p2 p3)
theorem c_R_hours {l : Launch} {D : va_G} {ca : Nat → Nat} {h : fH} {r : Nat} {σ : St} (hX : RA ca h r σ) (hI : InvX σ) (hO : InvO σ) (p1 : Int32) (p2 : Int32) (p3 : Int32) : FM l D ca yX10_hours (.code yX10_hours cX10_hours 5 none) { frames := 8, cells := 4, slots := 24, locals := 146 } [.ref r, .int p1, .int p2, .int p3] h (pPub none (M_hours_s σ p1 p2 p3 41 0) (fun h2 => RA ca h2 r (M_hours_s σ p1 p2 p3))) (fun E h2 => RA ca h2 r (M_hours_s σ p1 p2 p3) ∧ ((E = xIO ∧ M_hours_s σ p1 p2 p3 41 0 = 1) ∨ (E = xIA ∧ M_hours_s σ p1 p2 p3 41 0 = 2) ∨ (E = xIS ∧ M_hours_s σ p1 p2 p3 41 0 = 3))) := by
  obtain ⟨ρ, μ, cap, hR, hr, hcap⟩ := hX
  subst hr
  have q := K_hours hI hO p1 p2 p3
  refine (c_X_hours hR hI p1 p2 p3).conseq (fun v h2 e => ?_) (fun E h2 e => ?_)
  · obtain ⟨e1, e2, hRA0⟩ := e
    have hRA : RA ca h2 (ρ 0 0) (X_hours_s σ p1 p2 p3) := ⟨ρ, _, cap, hRA0, rfl, hcap⟩
    exact ⟨e1, by rw [q.1, e2]; rfl, finR hRA hRA (N_hours σ p1 p2 p3) q.2.1 q.2.2⟩
  · obtain ⟨eE, ec, hRA0⟩ := e
    have hRA : RA ca h2 (ρ 0 0) (X_hours_s σ p1 p2 p3) := ⟨ρ, _, cap, hRA0, rfl, hcap⟩
    refine ⟨finR hRA hRA (N_hours σ p1 p2 p3) q.2.1 q.2.2, ?_⟩
    rcases C_hours (σ := σ) (p1 := p1) (p2 := p2) (p3 := p3) with z | z | z | z
    · exact absurd z ec
    · exact Or.inl ⟨by rw [eE, z]; exact xN_1, by rw [q.1, z]; rfl⟩
    · exact Or.inr (Or.inl ⟨by rw [eE, z]; exact xN_2, by rw [q.1, z]; rfl⟩)
    · exact Or.inr (Or.inr (⟨by rw [eE, z]; exact xN_3, by rw [q.1, z]; rfl⟩))
theorem K_exempt {σ : St} (hI : InvX σ) (hO : InvO σ) (p1 : Int32) (p2 : Int32) (hp2 : p2 = 0 ∨ p2 = 1) : M_exempt_s σ p1 p2 41 0 = lawK (X_exempt_c σ p1 p2) 1 0 0 ∧ (X_exempt_c σ p1 p2 = 0 → M_exempt σ p1 p2 = X_exempt σ p1 p2) ∧ (X_exempt_c σ p1 p2 = 0 → sEq (M_exempt_s σ p1 p2) (X_exempt_s σ p1 p2)) ∧ (¬ X_exempt_c σ p1 p2 = 0 → sEq (M_exempt_s σ p1 p2) σ) := by
  have q := (Q_exempt hI p1 p2).law (by rcases C_exempt (σ := σ) (p1 := p1) (p2 := p2) with z | z <;> rw [z] <;> decide)
  exact ⟨q.1, q.2.1, q.2.2.1, q.2.2.2⟩
theorem IO_exempt {σ : St} (hI : InvX σ) (hO : InvO σ) (p1 : Int32) (p2 : Int32) (hp2 : p2 = 0 ∨ p2 = 1) : InvX (M_exempt_s σ p1 p2) ∧ InvO (M_exempt_s σ p1 p2) := by
  have q := K_exempt hI hO p1 p2 hp2
  exact fin2 hI hO q.2.2.1 q.2.2.2 (I_exempt hI p1 hp2) (O_exempt hO p1 p2)
theorem c_R_exempt {l : Launch} {D : va_G} {ca : Nat → Nat} {h : fH} {r : Nat} {σ : St} (hX : RA ca h r σ) (hI : InvX σ) (hO : InvO σ) (p1 : Int32) (p2 : Int32) (hp2 : p2 = 0 ∨ p2 = 1) : FM l D ca yX10_exempt (.code yX10_exempt cX10_exempt 5 (some .boolean)) { frames := 8, cells := 1, slots := 6, locals := 146 } [.ref r, .int p1, .int p2] h (pPub (some (.int (M_exempt σ p1 p2))) (M_exempt_s σ p1 p2 41 0) (fun h2 => RA ca h2 r (M_exempt_s σ p1 p2))) (fun E h2 => RA ca h2 r (M_exempt_s σ p1 p2) ∧ ((E = xIO ∧ M_exempt_s σ p1 p2 41 0 = 1))) := by
  obtain ⟨ρ, μ, cap, hR, hr, hcap⟩ := hX
  subst hr
  have q := K_exempt hI hO p1 p2 hp2
  refine (c_X_exempt hR hI p1 p2 hp2).conseq (fun v h2 e => ?_) (fun E h2 e => ?_)
  · obtain ⟨e1, e2, hRA0⟩ := e
    have hRA : RA ca h2 (ρ 0 0) (X_exempt_s σ p1 p2) := ⟨ρ, _, cap, hRA0, rfl, hcap⟩
    exact ⟨by rw [e1, q.2.1 e2], by rw [q.1, e2]; rfl, finR hRA hRA (N_exempt σ p1 p2) q.2.2.1 q.2.2.2⟩
  · obtain ⟨eE, ec, hRA0⟩ := e
    have hRA : RA ca h2 (ρ 0 0) (X_exempt_s σ p1 p2) := ⟨ρ, _, cap, hRA0, rfl, hcap⟩
    refine ⟨finR hRA hRA (N_exempt σ p1 p2) q.2.2.1 q.2.2.2, ?_⟩
    rcases C_exempt (σ := σ) (p1 := p1) (p2 := p2) with z | z
    · exact absurd z ec
    · exact ⟨by rw [eE, z]; exact xN_1, by rw [q.1, z]; rfl⟩
theorem K_outage {σ : St} (hI : InvX σ) (hO : InvO σ) (p1 : Int32) (p2 : Int32) : M_outage_s σ p1 p2 41 0 = lawK (X_outage_c σ p1 p2) 1 2 0 ∧ (X_outage_c σ p1 p2 = 0 → M_outage σ p1 p2 = X_outage σ p1 p2) ∧ (X_outage_c σ p1 p2 = 0 → sEq (M_outage_s σ p1 p2) (X_outage_s σ p1 p2)) ∧ (¬ X_outage_c σ p1 p2 = 0 → sEq (M_outage_s σ p1 p2) σ) := by
  have q := (Q_outage hI p1 p2).law (by rcases C_outage (σ := σ) (p1 := p1) (p2 := p2) with z | z | z <;> rw [z] <;> decide)
  exact ⟨q.1, q.2.1, q.2.2.1, q.2.2.2⟩
theorem IO_outage {σ : St} (hI : InvX σ) (hO : InvO σ) (p1 : Int32) (p2 : Int32) : InvX (M_outage_s σ p1 p2) ∧ InvO (M_outage_s σ p1 p2) := by
  have q := K_outage hI hO p1 p2
  exact fin2 hI hO q.2.2.1 q.2.2.2 (I_outage hI p1 p2) (O_outage hO p1 p2)
theorem c_R_outage {l : Launch} {D : va_G} {ca : Nat → Nat} {h : fH} {r : Nat} {σ : St} (hX : RA ca h r σ) (hI : InvX σ) (hO : InvO σ) (p1 : Int32) (p2 : Int32) : FM l D ca yX10_outage (.code yX10_outage cX10_outage 5 (some .int)) { frames := 8, cells := 2, slots := 12, locals := 146 } [.ref r, .int p1, .int p2] h (pPub (some (.int (M_outage σ p1 p2))) (M_outage_s σ p1 p2 41 0) (fun h2 => RA ca h2 r (M_outage_s σ p1 p2))) (fun E h2 => RA ca h2 r (M_outage_s σ p1 p2) ∧ ((E = xIO ∧ M_outage_s σ p1 p2 41 0 = 1) ∨ (E = xIA ∧ M_outage_s σ p1 p2 41 0 = 2))) := by
  obtain ⟨ρ, μ, cap, hR, hr, hcap⟩ := hX
  subst hr
  have q := K_outage hI hO p1 p2
  refine (c_X_outage hR hI p1 p2).conseq (fun v h2 e => ?_) (fun E h2 e => ?_)
  · obtain ⟨e1, e2, hRA0⟩ := e
    have hRA : RA ca h2 (ρ 0 0) (X_outage_s σ p1 p2) := ⟨ρ, _, cap, hRA0, rfl, hcap⟩
    exact ⟨by rw [e1, q.2.1 e2], by rw [q.1, e2]; rfl, finR hRA hRA (N_outage σ p1 p2) q.2.2.1 q.2.2.2⟩
  · obtain ⟨eE, ec, hRA0⟩ := e
    have hRA : RA ca h2 (ρ 0 0) (X_outage_s σ p1 p2) := ⟨ρ, _, cap, hRA0, rfl, hcap⟩
    refine ⟨finR hRA hRA (N_outage σ p1 p2) q.2.2.1 q.2.2.2, ?_⟩
    rcases C_outage (σ := σ) (p1 := p1) (p2 := p2) with z | z | z
    · exact absurd z ec
    · exact Or.inl ⟨by rw [eE, z]; exact xN_1, by rw [q.1, z]; rfl⟩
    · exact Or.inr (⟨by rw [eE, z]; exact xN_2, by rw [q.1, z]; rfl⟩)
theorem K_vote {σ : St} (hI : InvX σ) (hO : InvO σ) (p1 : Int32) (p2 : Int32) (p3 : Int32) (p4 : Int32) (p5 : Int32) : M_vote_s σ p1 p2 p3 p4 p5 41 0 = lawK (X_vote_c σ p1 p2 p3 p4 p5) 1 2 3 ∧ (X_vote_c σ p1 p2 p3 p4 p5 = 0 → M_vote σ p1 p2 p3 p4 p5 = X_vote σ p1 p2 p3 p4 p5) ∧ (X_vote_c σ p1 p2 p3 p4 p5 = 0 → sEq (M_vote_s σ p1 p2 p3 p4 p5) (X_vote_s σ p1 p2 p3 p4 p5)) ∧ (¬ X_vote_c σ p1 p2 p3 p4 p5 = 0 → sEq (M_vote_s σ p1 p2 p3 p4 p5) σ) := by
  have q := (Q_vote hI p1 p2 p3 p4 p5).law (by rcases C_vote (σ := σ) (p1 := p1) (p2 := p2) (p3 := p3) (p4 := p4) (p5 := p5) with z | z | z | z <;> rw [z] <;> decide)
  exact ⟨q.1, q.2.1, q.2.2.1, q.2.2.2⟩
theorem IO_vote {σ : St} (hI : InvX σ) (hO : InvO σ) (p1 : Int32) (p2 : Int32) (p3 : Int32) (p4 : Int32) (p5 : Int32) : InvX (M_vote_s σ p1 p2 p3 p4 p5) ∧ InvO (M_vote_s σ p1 p2 p3 p4 p5) := by
  have q := K_vote hI hO p1 p2 p3 p4 p5
  exact fin2 hI hO q.2.2.1 q.2.2.2 (I_vote hI p1 p2 p3 p4 p5) (O_vote hO p1 p2 p3 p4 p5)
theorem c_R_vote {l : Launch} {D : va_G} {ca : Nat → Nat} {h : fH} {r : Nat} {σ : St} (hX : RA ca h r σ) (hI : InvX σ) (hO : InvO σ) (p1 : Int32) (p2 : Int32) (p3 : Int32) (p4 : Int32) (p5 : Int32) : FM l D ca yX10_vote (.code yX10_vote cX10_vote 10 (some .int)) { frames := 8, cells := 8, slots := 48, locals := 151 } [.ref r, .int p1, .int p2, .int p3, .int p4, .int p5] h (pPub (some (.int (M_vote σ p1 p2 p3 p4 p5))) (M_vote_s σ p1 p2 p3 p4 p5 41 0) (fun h2 => RA ca h2 r (M_vote_s σ p1 p2 p3 p4 p5))) (fun E h2 => RA ca h2 r (M_vote_s σ p1 p2 p3 p4 p5) ∧ ((E = xIO ∧ M_vote_s σ p1 p2 p3 p4 p5 41 0 = 1) ∨ (E = xIA ∧ M_vote_s σ p1 p2 p3 p4 p5 41 0 = 2) ∨ (E = xIS ∧ M_vote_s σ p1 p2 p3 p4 p5 41 0 = 3))) := by
  obtain ⟨ρ, μ, cap, hR, hr, hcap⟩ := hX
  subst hr
  have q := K_vote hI hO p1 p2 p3 p4 p5
  refine (c_X_vote hR hI p1 p2 p3 p4 p5).conseq (fun v h2 e => ?_) (fun E h2 e => ?_)
  · obtain ⟨e1, e2, hRA0⟩ := e
    have hRA : RA ca h2 (ρ 0 0) (X_vote_s σ p1 p2 p3 p4 p5) := ⟨ρ, _, cap, hRA0, rfl, hcap⟩
    exact ⟨by rw [e1, q.2.1 e2], by rw [q.1, e2]; rfl, finR hRA hRA (N_vote σ p1 p2 p3 p4 p5) q.2.2.1 q.2.2.2⟩
  · obtain ⟨eE, ec, hRA0⟩ := e
    have hRA : RA ca h2 (ρ 0 0) (X_vote_s σ p1 p2 p3 p4 p5) := ⟨ρ, _, cap, hRA0, rfl, hcap⟩
    refine ⟨finR hRA hRA (N_vote σ p1 p2 p3 p4 p5) q.2.2.1 q.2.2.2, ?_⟩
    rcases C_vote (σ := σ) (p1 := p1) (p2 := p2) (p3 := p3) (p4 := p4) (p5 := p5) with z | z | z | z
    · exact absurd z ec
    · exact Or.inl ⟨by rw [eE, z]; exact xN_1, by rw [q.1, z]; rfl⟩
    · exact Or.inr (Or.inl ⟨by rw [eE, z]; exact xN_2, by rw [q.1, z]; rfl⟩)
    · exact Or.inr (Or.inr (⟨by rw [eE, z]; exact xN_3, by rw [q.1, z]; rfl⟩))
theorem K_inspect {σ : St} (hI : InvX σ) (hO : InvO σ) (p1 : Int32) : M_inspect_s σ p1 41 0 = lawK (X_inspect_c σ p1) 1 0 0 ∧ (X_inspect_c σ p1 = 0 → M_inspect σ p1 = X_inspect σ p1) ∧ (X_inspect_c σ p1 = 0 → sEq (M_inspect_s σ p1) (X_inspect_s σ p1)) ∧ (¬ X_inspect_c σ p1 = 0 → sEq (M_inspect_s σ p1) σ) := by
  have q := ((Q_inspect hI p1).1).law (by rcases C_inspect (σ := σ) (p1 := p1) with z | z <;> rw [z] <;> decide)
  exact ⟨q.1, q.2.1, q.2.2.1, q.2.2.2⟩
theorem IO_inspect {σ : St} (hI : InvX σ) (hO : InvO σ) (p1 : Int32) : InvX (M_inspect_s σ p1) ∧ InvO (M_inspect_s σ p1) := by
  have q := K_inspect hI hO p1
  exact fin2 hI hO q.2.2.1 q.2.2.2 (Q_inspect hI p1).2 (O_inspect hO p1)
theorem c_R_inspect {l : Launch} {D : va_G} {ca : Nat → Nat} {h : fH} {r : Nat} {σ : St} (hX : RA ca h r σ) (hI : InvX σ) (hO : InvO σ) (p1 : Int32) : FM l D ca yX10_inspect (.code yX10_inspect cX10_inspect 6 (some .int)) { frames := 8, cells := 1, slots := 6, locals := 147 } [.ref r, .int p1] h (pPub (some (.int (M_inspect σ p1))) (M_inspect_s σ p1 41 0) (fun h2 => RA ca h2 r (M_inspect_s σ p1))) (fun E h2 => RA ca h2 r (M_inspect_s σ p1) ∧ ((E = xIO ∧ M_inspect_s σ p1 41 0 = 1))) := by
  obtain ⟨ρ, μ, cap, hR, hr, hcap⟩ := hX
  subst hr
  have q := K_inspect hI hO p1
  refine (c_X_inspect hR hI p1).conseq (fun v h2 e => ?_) (fun E h2 e => ?_)
  · obtain ⟨e1, e2, hRA0⟩ := e
    have hRA : RA ca h2 (ρ 0 0) (X_inspect_s σ p1) := ⟨ρ, _, cap, hRA0, rfl, hcap⟩
    exact ⟨by rw [e1, q.2.1 e2], by rw [q.1, e2]; rfl, finR hRA hRA (N_inspect σ p1) q.2.2.1 q.2.2.2⟩
  · obtain ⟨eE, ec, hRA0⟩ := e
    have hRA : RA ca h2 (ρ 0 0) (X_inspect_s σ p1) := ⟨ρ, _, cap, hRA0, rfl, hcap⟩
    refine ⟨finR hRA hRA (N_inspect σ p1) q.2.2.1 q.2.2.2, ?_⟩
    rcases C_inspect (σ := σ) (p1 := p1) with z | z
    · exact absurd z ec
    · exact ⟨by rw [eE, z]; exact xN_1, by rw [q.1, z]; rfl⟩
theorem K_meter {σ : St} (hI : InvX σ) (hO : InvO σ) (p1 : Int32) (p2 : Int32) (p3 : Int32) : M_meter_s σ p1 p2 p3 41 0 = lawK (X_meter_c σ p1 p2 p3) 1 2 3 ∧ (X_meter_c σ p1 p2 p3 = 0 → M_meter σ p1 p2 p3 = X_meter σ p1 p2 p3) ∧ (X_meter_c σ p1 p2 p3 = 0 → sEq (M_meter_s σ p1 p2 p3) (X_meter_s σ p1 p2 p3)) ∧ (¬ X_meter_c σ p1 p2 p3 = 0 → sEq (M_meter_s σ p1 p2 p3) σ) := by
  have q := ((Q_meter hI hO p1 p2 p3).1).law (by rcases C_meter (σ := σ) (p1 := p1) (p2 := p2) (p3 := p3) with z | z | z | z <;> rw [z] <;> decide)
  exact ⟨q.1, q.2.1, q.2.2.1, q.2.2.2⟩
theorem IO_meter {σ : St} (hI : InvX σ) (hO : InvO σ) (p1 : Int32) (p2 : Int32) (p3 : Int32) : InvX (M_meter_s σ p1 p2 p3) ∧ InvO (M_meter_s σ p1 p2 p3) := by
  have q := K_meter hI hO p1 p2 p3
  exact fin2 hI hO q.2.2.1 q.2.2.2 (Q_meter hI hO p1 p2 p3).2.1 (Q_meter hI hO p1 p2 p3).2.2
theorem c_R_meter {l : Launch} {D : va_G} {ca : Nat → Nat} {h : fH} {r : Nat} {σ : St} (hX : RA ca h r σ) (hI : InvX σ) (hO : InvO σ) (p1 : Int32) (p2 : Int32) (p3 : Int32) : FM l D ca yX10_meter (.code yX10_meter cX10_meter 5 (some .int)) { frames := 8, cells := 7, slots := 132, locals := 291 } [.ref r, .int p1, .int p2, .int p3] h (pPub (some (.int (M_meter σ p1 p2 p3))) (M_meter_s σ p1 p2 p3 41 0) (fun h2 => RA ca h2 r (M_meter_s σ p1 p2 p3))) (fun E h2 => RA ca h2 r (M_meter_s σ p1 p2 p3) ∧ ((E = xIO ∧ M_meter_s σ p1 p2 p3 41 0 = 1) ∨ (E = xIA ∧ M_meter_s σ p1 p2 p3 41 0 = 2) ∨ (E = xIS ∧ M_meter_s σ p1 p2 p3 41 0 = 3))) := by
  obtain ⟨ρ, μ, cap, hR, hr, hcap⟩ := hX
  subst hr
  have q := K_meter hI hO p1 p2 p3
  refine (c_X_meter hR hI p1 p2 p3 hcap).conseq (fun v h2 e => ?_) (fun E h2 e => ?_)
  · obtain ⟨e1, e2, hRA⟩ := e
    exact ⟨by rw [e1, q.2.1 e2], by rw [q.1, e2]; rfl, finR hRA hRA (N_meter σ p1 p2 p3) q.2.2.1 q.2.2.2⟩
  · obtain ⟨eE, ec, hRA⟩ := e
    refine ⟨finR hRA hRA (N_meter σ p1 p2 p3) q.2.2.1 q.2.2.2, ?_⟩
    rcases C_meter (σ := σ) (p1 := p1) (p2 := p2) (p3 := p3) with z | z | z | z
    · exact absurd z ec
    · exact Or.inl ⟨by rw [eE, z]; exact xN_1, by rw [q.1, z]; rfl⟩
    · exact Or.inr (Or.inl ⟨by rw [eE, z]; exact xN_2, by rw [q.1, z]; rfl⟩)
    · exact Or.inr (Or.inr (⟨by rw [eE, z]; exact xN_3, by rw [q.1, z]; rfl⟩))
theorem K_read {σ : St} (hI : InvX σ) (hO : InvO σ) (p1 : Int32) : M_read_s σ p1 41 0 = lawK (X_read_c σ p1) 1 0 0 ∧ (X_read_c σ p1 = 0 → M_read σ p1 = X_read σ p1) ∧ (X_read_c σ p1 = 0 → sEq (M_read_s σ p1) (X_read_s σ p1)) ∧ (¬ X_read_c σ p1 = 0 → sEq (M_read_s σ p1) σ) := by
  have q := ((Q_read hI hO p1).1).law (by rcases C_read (σ := σ) (p1 := p1) with z | z <;> rw [z] <;> decide)
  exact ⟨q.1, q.2.1, q.2.2.1, q.2.2.2⟩
theorem IO_read {σ : St} (hI : InvX σ) (hO : InvO σ) (p1 : Int32) : InvX (M_read_s σ p1) ∧ InvO (M_read_s σ p1) := by
  have q := K_read hI hO p1
  exact fin2 hI hO q.2.2.1 q.2.2.2 (Q_read hI hO p1).2.1 (Q_read hI hO p1).2.2
theorem c_R_read {l : Launch} {D : va_G} {ca : Nat → Nat} {h : fH} {r : Nat} {σ : St} (hX : RA ca h r σ) (hI : InvX σ) (hO : InvO σ) (p1 : Int32) : FM l D ca yX10_read (.code yX10_read cX10_read 5 (some .int)) { frames := 8, cells := 3, slots := 108, locals := 341 } [.ref r, .int p1] h (pPub (some (.int (M_read σ p1))) (M_read_s σ p1 41 0) (fun h2 => RA ca h2 r (M_read_s σ p1))) (fun E h2 => RA ca h2 r (M_read_s σ p1) ∧ ((E = xIO ∧ M_read_s σ p1 41 0 = 1))) := by
  obtain ⟨ρ, μ, cap, hR, hr, hcap⟩ := hX
  subst hr
  have q := K_read hI hO p1
  refine (c_X_read hR hI p1 hcap).conseq (fun v h2 e => ?_) (fun E h2 e => ?_)
  · obtain ⟨e1, e2, hRA⟩ := e
    exact ⟨by rw [e1, q.2.1 e2], by rw [q.1, e2]; rfl, finR hRA hRA (N_read σ p1) q.2.2.1 q.2.2.2⟩
  · obtain ⟨eE, ec, hRA⟩ := e
    refine ⟨finR hRA hRA (N_read σ p1) q.2.2.1 q.2.2.2, ?_⟩
    rcases C_read (σ := σ) (p1 := p1) with z | z
    · exact absurd z ec
    · exact ⟨by rw [eE, z]; exact xN_1, by rw [q.1, z]; rfl⟩
end
