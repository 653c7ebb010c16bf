noncomputable section
theorem N_ridge (σ : St) (p1 p2 : Int32) : X_ridge_c σ p1 p2 = 0 ∨ X_ridge_s σ p1 p2 = σ := by
  unfold X_ridge_c X_ridge_s
  try simp only [insX_c, psX_c, audX_c]
  (repeat' split) <;> first | exact Or.inl rfl | exact Or.inr rfl
theorem N_zone (σ : St) (p1 p2 : Int32) : X_zone_c σ p1 p2 = 0 ∨ X_zone_s σ p1 p2 = σ := by
  unfold X_zone_c X_zone_s
  try simp only [insX_c, psX_c, audX_c]
  (repeat' split) <;> first | exact Or.inl rfl | exact Or.inr rfl
theorem N_law (σ : St) (p1 p2 p3 p4 : Int32) : X_law_c σ p1 p2 p3 p4 = 0 ∨ X_law_s σ p1 p2 p3 p4 = σ := by
  unfold X_law_c X_law_s
  try simp only [insX_c, psX_c, audX_c]
  (repeat' split) <;> first | exact Or.inl rfl | exact Or.inr rfl
theorem N_feast (σ : St) (p1 p2 : Int32) : X_feast_c σ p1 p2 = 0 ∨ X_feast_s σ p1 p2 = σ := by
  unfold X_feast_c X_feast_s
  try simp only [insX_c, psX_c, audX_c]
  (repeat' split) <;> first | exact Or.inl rfl | exact Or.inr rfl
theorem N_air (σ : St) (p1 : Int32) : X_air_c σ p1 = 0 ∨ X_air_s σ p1 = σ := by
  unfold X_air_c X_air_s
  try simp only [insX_c, psX_c, audX_c]
  (repeat' split) <;> first | exact Or.inl rfl | exact Or.inr rfl
theorem N_hours (σ : St) (p1 p2 p3 : Int32) : X_hours_c σ p1 p2 p3 = 0 ∨ X_hours_s σ p1 p2 p3 = σ := by
  unfold X_hours_c X_hours_s
  try simp only [insX_c, psX_c, audX_c]
  (repeat' split) <;> first | exact Or.inl rfl | exact Or.inr rfl
theorem N_exempt (σ : St) (p1 p2 : Int32) : X_exempt_c σ p1 p2 = 0 ∨ X_exempt_s σ p1 p2 = σ := by
  unfold X_exempt_c X_exempt_s
  try simp only [insX_c, psX_c, audX_c]
  (repeat' split) <;> first | exact Or.inl rfl | exact Or.inr rfl
theorem N_outage (σ : St) (p1 p2 : Int32) : X_outage_c σ p1 p2 = 0 ∨ X_outage_s σ p1 p2 = σ := by
  unfold X_outage_c X_outage_s
  try simp only [insX_c, psX_c, audX_c]
  (repeat' split) <;> first | exact Or.inl rfl | exact Or.inr rfl
theorem N_vote (σ : St) (p1 p2 p3 p4 p5 : Int32) : X_vote_c σ p1 p2 p3 p4 p5 = 0 ∨ X_vote_s σ p1 p2 p3 p4 p5 = σ := by
  unfold X_vote_c X_vote_s
  try simp only [insX_c, psX_c, audX_c]
  (repeat' split) <;> first | exact Or.inl rfl | exact Or.inr rfl
theorem N_tell (σ : St) (p1 p2 : Int32) : X_tell_c σ p1 p2 = 0 ∨ X_tell_s σ p1 p2 = σ := by
  unfold X_tell_c X_tell_s
  try simp only [insX_c, psX_c, audX_c]
  (repeat' split) <;> first | exact Or.inl rfl | exact Or.inr rfl
theorem N_audit (σ : St) (p1 : Int32) : X_audit_c σ p1 = 0 ∨ X_audit_s σ p1 = σ := by
  unfold X_audit_c X_audit_s
  try simp only [insX_c, psX_c, audX_c]
  (repeat' split) <;> first | exact Or.inl rfl | exact Or.inr rfl
theorem N_inspect (σ : St) (p1 : Int32) : X_inspect_c σ p1 = 0 ∨ X_inspect_s σ p1 = σ := by
  unfold X_inspect_c X_inspect_s
  try simp only [insX_c, psX_c, audX_c]
  (repeat' split) <;> first | exact Or.inl rfl | exact Or.inr rfl
theorem N_pass (σ : St) (p1 : Int32) : X_pass_c σ p1 = 0 ∨ X_pass_s σ p1 = σ := by
  unfold X_pass_c X_pass_s
  try simp only [insX_c, psX_c, audX_c]
  (repeat' split) <;> first | exact Or.inl rfl | exact Or.inr rfl
theorem N_village (σ : St) (p1 p2 : Int32) : X_village_c σ p1 p2 = 0 ∨ X_village_s σ p1 p2 = σ := by
  unfold X_village_c X_village_s
  try simp only [insX_c, psX_c, audX_c]
  (repeat' split) <;> first | exact Or.inl rfl | exact Or.inr rfl
theorem N_lamp (σ : St) (p1 p2 p3 p4 p5 : Int32) : X_lamp_c σ p1 p2 p3 p4 p5 = 0 ∨ X_lamp_s σ p1 p2 p3 p4 p5 = σ := by
  unfold X_lamp_c X_lamp_s
  try simp only [insX_c, psX_c, audX_c]
  (repeat' split) <;> first | exact Or.inl rfl | exact Or.inr rfl
theorem N_meter (σ : St) (p1 p2 p3 : Int32) : X_meter_c σ p1 p2 p3 = 0 ∨ X_meter_s σ p1 p2 p3 = σ := by
  unfold X_meter_c X_meter_s
  try simp only [insX_c, psX_c, audX_c]
  (repeat' split) <;> first | exact Or.inl rfl | exact Or.inr rfl
theorem N_read (σ : St) (p1 : Int32) : X_read_c σ p1 = 0 ∨ X_read_s σ p1 = σ := by
  unfold X_read_c X_read_s
  try simp only [insX_c, psX_c, audX_c]
  (repeat' split) <;> first | exact Or.inl rfl | exact Or.inr rfl
theorem R_ofLamp (σ : St) (p1 p2 : Int32) : X_ofLamp_s σ p1 p2 = σ := by
  unfold X_ofLamp_s
  try simp only [X_glowFrom_L18_s_k, X_ground_L11_s_k, X_culprit_L14_s_k]
  (repeat' split) <;> rfl
theorem R_ofVillage (σ : St) (p1 p2 : Int32) : X_ofVillage_s σ p1 p2 = σ := by
  unfold X_ofVillage_s
  try simp only [X_glowFrom_L18_s_k, X_ground_L11_s_k, X_culprit_L14_s_k]
  (repeat' split) <;> rfl
theorem R_gives (σ : St) (p1 p2 : Int32) : X_gives_s σ p1 p2 = σ := by
  unfold X_gives_s
  try simp only [X_glowFrom_L18_s_k, X_ground_L11_s_k, X_culprit_L14_s_k]
  (repeat' split) <;> rfl
theorem R_glow (σ : St) (p1 : Int32) : X_glow_s σ p1 = σ := by
  unfold X_glow_s
  try simp only [X_glowFrom_L18_s_k, X_ground_L11_s_k, X_culprit_L14_s_k]
  (repeat' split) <;> rfl
theorem R_glowFrom (σ : St) (p1 p2 : Int32) : X_glowFrom_s σ p1 p2 = σ := by
  unfold X_glowFrom_s
  try simp only [X_glowFrom_L18_s_k, X_ground_L11_s_k, X_culprit_L14_s_k]
  (repeat' split) <;> rfl
theorem R_ground (σ : St) (p1 : Int32) : X_ground_s σ p1 = σ := by
  unfold X_ground_s
  try simp only [X_glowFrom_L18_s_k, X_ground_L11_s_k, X_culprit_L14_s_k]
  (repeat' split) <;> rfl
theorem R_ofReading (σ : St) (p1 p2 p3 : Int32) : X_ofReading_s σ p1 p2 p3 = σ := by
  unfold X_ofReading_s
  try simp only [X_glowFrom_L18_s_k, X_ground_L11_s_k, X_culprit_L14_s_k]
  (repeat' split) <;> rfl
theorem slope_s (σ : St) (i : Nat) : X_slope_s σ i = σ := by
  unfold X_slope_s
  have h : ∀ n k a b c d, X_slope_L23_s σ i (fun a23_3 a23_5 a23_7 a23_9 => (if (lg_cmp (((nI (xL σ (i + 6))).toInt64 * a23_9) - (a23_3 * a23_3)) (0 : Int64)) = (0 : Int32) then σ else σ)) n k a b c d = σ := by
    intro n
    induction n with
    | zero => intro k a b c d; rw [X_slope_L23_s, ite_self]
    | succ n ih => intro k a b c d; rw [X_slope_L23_s]; exact ih ..
  exact h _ _ _ _ _ _
theorem R_trend (σ : St) (p1 : Int32) : X_trend_s σ p1 = σ := by
  unfold X_trend_s
  (repeat' split) <;> first | exact slope_s _ _ | rfl
theorem R_culprit (σ : St) (p1 : Int32) : X_culprit_s σ p1 = σ := by
  unfold X_culprit_s
  try simp only [X_glowFrom_L18_s_k, X_ground_L11_s_k, X_culprit_L14_s_k]
  (repeat' split) <;> rfl
theorem RA.ext {ca : Nat → Nat} {h : fH} {r : Nat} {σ σ' : St} (hR : RA ca h r σ) (he : sEq σ' σ) : RA ca h r σ' := by
  obtain ⟨ρ, μ, cap, h1, h2, h3⟩ := hR
  exact ⟨ρ, μ, cap, h1.ext he, h2, h3⟩
theorem RA.c34 {ca : Nat → Nat} {h : fH} {r : Nat} {σ : St} (hR : RA ca h r σ) : RA ca h r (sC σ 34 (σ 34 0)) := by
  obtain ⟨ρ, μ, cap, h1, h2, h3⟩ := hR
  exact ⟨ρ, μ, cap, h1.c34, h2, h3⟩
theorem rngab {v a b : Int32} {N : Nat} (h : ¬ M_isIn v a b = 0) (ha : 0 ≤ a.toInt) (hb : b.toInt + 1 = (N : Int)) : vp_in v N := by
  have h1 := isIn_iff.mp h
  exact vp_in_iff.mpr ⟨by omega, by omega⟩
theorem I_ridge {σ : St} (hI : InvX σ) (p1 : Int32) {p2 : Int32} (hp : p2 = 0 ∨ p2 = 1) : InvX (X_ridge_s σ p1 p2) := by
  unfold X_ridge_s
  (repeat' split)
  · exact InvX_sS hI hp trivial
  · exact hI
theorem I_exempt {σ : St} (hI : InvX σ) (p1 : Int32) {p2 : Int32} (hp : p2 = 0 ∨ p2 = 1) : InvX (X_exempt_s σ p1 p2) := by
  unfold X_exempt_s
  split
  · exact InvX_sS hI hp (vp_lt (by assumption))
  · exact hI
theorem I_zone {σ : St} (hI : InvX σ) (p1 p2 : Int32) : InvX (X_zone_s σ p1 p2) := by
  unfold X_zone_s
  by_cases c : vp_in p1 64
  · rw [if_pos c]
    by_cases d : vp_in p2 4
    · rw [if_pos d]
      exact InvX_sS hI d trivial
    · rw [if_neg d]
      exact hI
  · rw [if_neg c]
    exact hI
theorem I_law {σ : St} (hI : InvX σ) (p1 p2 p3 p4 : Int32) : InvX (X_law_s σ p1 p2 p3 p4) := by
  unfold X_law_s
  by_cases c : vp_in p1 4
  · rw [if_pos c]
    by_cases d : M_isIn p2 18 24 = 0
    · rw [if_pos d]; exact hI
    rw [if_neg d]
    by_cases e : M_isIn p3 0 2 = 0
    · rw [if_pos e]; exact hI
    rw [if_neg e]
    by_cases f : M_isIn p4 0 10 = 0
    · rw [if_pos f]; exact hI
    rw [if_neg f]
    exact InvX_sS (InvX_sS (InvX_sS hI (rngab (N := 25) d (by decide) (by decide)) trivial) (rng (N := 3) e (by decide)) trivial) (rng (N := 11) f (by decide)) trivial
  · rw [if_neg c]; exact hI
theorem I_feast {σ : St} (hI : InvX σ) (p1 p2 : Int32) : InvX (X_feast_s σ p1 p2) := by
  unfold X_feast_s X_celebrate_s
  (repeat' split) <;> first | exact hI | exact InvX_sS hI (Or.inr rfl) trivial
theorem I_air {σ : St} (hI : InvX σ) (p1 : Int32) : InvX (X_air_s σ p1) := by
  unfold X_air_s
  by_cases d : M_isIn p1 0 2 = 0
  · rw [if_pos d]; exact hI
  · rw [if_neg d]; exact InvX_sC hI (rng (N := 3) d (by decide)) (Or.inr (Or.inl rfl))
theorem I_hours {σ : St} (hI : InvX σ) (p1 p2 p3 : Int32) : InvX (X_hours_s σ p1 p2 p3) := by
  unfold X_hours_s
  by_cases c : vp_in p1 (ix (σ 13 0))
  · rw [if_pos c]
    by_cases d : M_isIn p2 0 23 = 0
    · rw [if_pos d]; exact hI
    rw [if_neg d]
    by_cases e : M_isIn p3 0 23 = 0
    · rw [if_pos e]; exact hI
    rw [if_neg e]
    split
    · exact hI
    · exact InvX_sS (InvX_sS hI (rng (N := 24) d (by decide)) trivial) (rng (N := 24) e (by decide)) trivial
  · rw [if_neg c]; exact hI
theorem I_outage {σ : St} (hI : InvX σ) (p1 p2 : Int32) : InvX (X_outage_s σ p1 p2) := by
  unfold X_outage_s
  by_cases c : vp_in p1 (ix (σ 8 0))
  · rw [if_pos c]
    by_cases d : M_isIn p2 0 500 = 0
    · rw [if_pos d]; exact hI
    rw [if_neg d]
    refine InvX_sS hI ?_ (vp_lt c)
    have h1 := isIn_iff.mp d
    rw [show (0 : Int32).toInt = 0 from rfl, show (500 : Int32).toInt = 500 from rfl] at h1
    have h2 := vp_in_iff.mp (hI.1 0 0 : vp_in (σ 0 0) 20001)
    refine vp_in_iff.mpr ?_
    have e : (σ 0 0 + p2).toInt = (σ 0 0).toInt + p2.toInt := by
      rw [Int32.toInt_add]
      exact Int.bmod_eq_of_le (by omega) (by omega)
    rw [e]
    omega
  · rw [if_neg c]; exact hI
theorem I_tell {σ : St} (hI : InvX σ) (p1 p2 : Int32) : InvX (X_tell_s σ p1 p2) := by
  unfold X_tell_s
  by_cases c : vp_in p1 (ix (σ 26 0))
  · rw [if_pos c]
    split
    · exact hI
    · exact InvX_sS hI trivial (vp_lt c)
  · rw [if_neg c]; exact hI
theorem I_vote {σ : St} (hI : InvX σ) (p1 p2 p3 p4 p5 : Int32) : InvX (X_vote_s σ p1 p2 p3 p4 p5) := by
  unfold X_vote_s
  by_cases c : vp_in p1 (ix (σ 13 0))
  · rw [if_pos c]
    have k18 : 0 ≤ (σ 18 (ix p1)).toInt := (vp_in_iff.mp (hI.1 18 (ix p1) : vp_in (σ 18 (ix p1)) 11)).1
    have k19 : 0 ≤ (σ 19 (ix p1)).toInt := (vp_in_iff.mp (hI.1 19 (ix p1) : vp_in (σ 19 (ix p1)) 11)).1
    by_cases b2 : M_isIn p2 (σ 18 (ix p1)) 10 = 0
    · rw [if_pos b2]; exact hI
    rw [if_neg b2]
    by_cases b3 : M_isIn p3 (σ 19 (ix p1)) 10 = 0
    · rw [if_pos b3]; exact hI
    rw [if_neg b3]
    have v24 : vp_in (σ 0 0 + 8760) 28761 := by
      have h2 := vp_in_iff.mp (hI.1 0 0 : vp_in (σ 0 0) 20001)
      refine vp_in_iff.mpr ?_
      have e : (σ 0 0 + 8760).toInt = (σ 0 0).toInt + 8760 := by
        rw [Int32.toInt_add, show (8760 : Int32).toInt = 8760 from rfl]
        exact Int.bmod_eq_of_le (by omega) (by omega)
      rw [e]
      omega
    (repeat' split) <;> first | exact hI | exact InvX_sS (InvX_sS (InvX_sS (InvX_sS hI (rngab (N := 11) b2 k18 (by decide)) trivial) (rngab (N := 11) b3 k19 (by decide)) (vp_lt c)) v24 (vp_lt c)) trivial trivial
  · rw [if_neg c]; exact hI
theorem I_follow {σ : St} (hI : InvX σ) (a : Int32) : InvX (X_follow_s σ a) := by
  have h1 : ∀ x y, InvX (sC (sC σ 36 x) 35 y) := fun x y => InvX_sC (InvX_sC hI trivial (by omega)) trivial (by omega)
  have h2 : InvX (X_follow_j41_s σ a) := by
    unfold X_follow_j41_s
    split
    · exact h1 _ _
    · exact InvX_sC (h1 _ _) (Or.inr rfl) (by omega)
  unfold X_follow_s X_follow_j54_s
  split
  · exact h2
  · exact InvX_sC h2 (Or.inl rfl) (by omega)
theorem I_audit {σ : St} (hI : InvX σ) (p1 : Int32) : InvX (sC (X_audit_s σ p1) 34 (X_audit_s σ p1 34 0)) := by
  have h : InvX (X_audit_s σ p1) := by
    unfold X_audit_s
    split
    · exact hI
    · rw [audX_s]
      exact I_follow hI _
  exact InvX_sC h (h.1 34 0) (by omega)
theorem O_ridge {σ : St} (hO : InvO σ) (p1 p2 : Int32) : InvO (X_ridge_s σ p1 p2) := by
  refine InvO_ext hO ?_ ?_
  · unfold X_ridge_s
    (repeat' split) <;> rfl
  · unfold X_ridge_s
    (repeat' split) <;> rfl
theorem O_zone {σ : St} (hO : InvO σ) (p1 p2 : Int32) : InvO (X_zone_s σ p1 p2) := by
  refine InvO_ext hO ?_ ?_
  · unfold X_zone_s
    (repeat' split) <;> rfl
  · unfold X_zone_s
    (repeat' split) <;> rfl
theorem O_law {σ : St} (hO : InvO σ) (p1 p2 p3 p4 : Int32) : InvO (X_law_s σ p1 p2 p3 p4) := by
  refine InvO_ext hO ?_ ?_
  · unfold X_law_s
    (repeat' split) <;> rfl
  · unfold X_law_s
    (repeat' split) <;> rfl
theorem O_air {σ : St} (hO : InvO σ) (p1 : Int32) : InvO (X_air_s σ p1) := by
  refine InvO_ext hO ?_ ?_
  · unfold X_air_s
    (repeat' split) <;> rfl
  · unfold X_air_s
    (repeat' split) <;> rfl
theorem O_hours {σ : St} (hO : InvO σ) (p1 p2 p3 : Int32) : InvO (X_hours_s σ p1 p2 p3) := by
  refine InvO_ext hO ?_ ?_
  · unfold X_hours_s
    (repeat' split) <;> rfl
  · unfold X_hours_s
    (repeat' split) <;> rfl
theorem O_exempt {σ : St} (hO : InvO σ) (p1 p2 : Int32) : InvO (X_exempt_s σ p1 p2) := by
  refine InvO_ext hO ?_ ?_
  · unfold X_exempt_s
    (repeat' split) <;> rfl
  · unfold X_exempt_s
    (repeat' split) <;> rfl
theorem O_outage {σ : St} (hO : InvO σ) (p1 p2 : Int32) : InvO (X_outage_s σ p1 p2) := by
  refine InvO_ext hO ?_ ?_
  · unfold X_outage_s
    (repeat' split) <;> rfl
  · unfold X_outage_s
    (repeat' split) <;> rfl
theorem O_tell {σ : St} (hO : InvO σ) (p1 p2 : Int32) : InvO (X_tell_s σ p1 p2) := by
  refine InvO_ext hO ?_ ?_
  · unfold X_tell_s
    (repeat' split) <;> rfl
  · unfold X_tell_s
    (repeat' split) <;> rfl
theorem O_feast {σ : St} (hO : InvO σ) (p1 p2 : Int32) : InvO (X_feast_s σ p1 p2) := by
  refine InvO_ext hO ?_ ?_
  · unfold X_feast_s X_celebrate_s
    (repeat' split) <;> rfl
  · unfold X_feast_s X_celebrate_s
    (repeat' split) <;> rfl
theorem O_vote {σ : St} (hO : InvO σ) (p1 p2 p3 p4 p5 : Int32) : InvO (X_vote_s σ p1 p2 p3 p4 p5) := by
  refine InvO_ext hO ?_ ?_
  · unfold X_vote_s X_refit_s
    (repeat' split) <;> rfl
  · unfold X_vote_s X_refit_s
    (repeat' split) <;> rfl
theorem O_audit {σ : St} (hO : InvO σ) (p1 : Int32) : InvO (sC (X_audit_s σ p1) 34 (X_audit_s σ p1 34 0)) := by
  have hc : ∀ c, c ≠ 34 → c ≠ 35 → c ≠ 36 → X_audit_s σ p1 c = σ c := fun c a b d => by
    unfold X_audit_s
    split
    · rfl
    · rw [audX_s]
      exact follow_col σ _ a b d
  exact InvO_ext hO (by rw [sC_col (by decide)]; exact hc 14 (by decide) (by decide) (by decide)) (by rw [sC_col (by decide)]; exact hc 13 (by decide) (by decide) (by decide))
theorem insL_col {σ : St} {p1 : Int32} {c : Nat} (h0 : c ≠ 10) (h1 : c ≠ 11) (h2 : c ≠ 25) : ∀ n k a s, X_inspect_L11_s σ p1 (fun _ s => s) n k a s c = s c := by
  intro n
  induction n with
  | zero => intro k a s; rw [X_inspect_L11_s]
  | succ n ih =>
    intro k a s
    rw [X_inspect_L11_s, ih]
    unfold X_inspect_j46_s X_payFine_s
    (repeat' split)
    · rfl
    · rfl
    · rw [sS_col h1, sS_col h0, sS_col h2]
    · rfl
theorem O_inspect {σ : St} (hO : InvO σ) (p1 : Int32) : InvO (X_inspect_s σ p1) := by
  have hc : ∀ c, c ≠ 10 → c ≠ 11 → c ≠ 25 → X_inspect_s σ p1 c = σ c := fun c a b d => by
    unfold X_inspect_s
    split
    · exact insL_col a b d _ _ _ _
    · rfl
  exact InvO_ext hO (hc 14 (by decide) (by decide) (by decide)) (hc 13 (by decide) (by decide) (by decide))
theorem psL_col {σ : St} {p1 : Int32} {c : Nat} (h0 : c ≠ 0) (h1 : c ≠ 23) : ∀ n k s, InvX s → s 0 0 = nI (ix (s 0 0)) → ix (s 0 0) + n ≤ 20000 → X_pass_L30_s σ p1 (fun s => s) n k s c = s c := by
  intro n
  induction n with
  | zero => intro k s _ _ _; rw [X_pass_L30_s]
  | succ n ih =>
    intro k s hI ht hn
    have t1 : X_ageLamps_s s 0 = s 0 := X_age_col hI (by decide)
    have tt : X_ageLamps_s s 0 0 + 1 = nI (ix (s 0 0) + 1) := by
      rw [t1, ← nI_1, ← ht]
    have hI2 : InvX (sC (X_ageLamps_s s) 0 (X_ageLamps_s s 0 0 + 1)) := InvX_sC (X_age_inv hI) (by show vp_in (X_ageLamps_s s 0 0 + 1) 20001; rw [tt]; exact vp_in_nI (by omega) (by decide)) (Or.inl rfl)
    rw [X_pass_L30_s, ih _ _ hI2 (by rw [sC_same, tt, ixn (by omega)]) (by rw [sC_same, tt, ixn (by omega)]; omega), sC_col h0]
    exact X_age_col hI h1
theorem O_pass {σ : St} (hI : InvX σ) (hO : InvO σ) (p1 : Int32) : InvO (X_pass_s σ p1) := by
  have hc : ∀ c, c ≠ 0 → c ≠ 23 → X_pass_s σ p1 c = σ c := fun c a b => by
    unfold X_pass_s X_pass_j17
    by_cases e : M_isIn p1 1 500 = 0
    · rw [if_pos e]
    rw [if_neg e]
    by_cases d : (20000 : Int32) < σ 0 0 + p1
    · rw [if_pos d, if_pos rfl]
    · rw [if_neg d, if_neg i10]
      have hc := isIn_iff.mp e
      rw [show (1 : Int32).toInt = 1 from rfl, show (500 : Int32).toInt = 500 from rfl] at hc
      have h2 := vp_in_iff.mp (hI.1 0 0 : vp_in (σ 0 0) 20001)
      have hs : (σ 0 0 + p1).toInt = (σ 0 0).toInt + p1.toInt := by
        rw [Int32.toInt_add]
        exact Int.bmod_eq_of_le (by omega) (by omega)
      rw [Int32.lt_iff_toInt_lt, hs, show (20000 : Int32).toInt = 20000 from rfl] at d
      have e0 := (cnt (N := 20000) (hI.1 0 0) (by decide)).1
      have ex : ix (σ 0 0) + ix p1 ≤ 20000 := by
        show (σ 0 0).toInt.toNat + p1.toInt.toNat ≤ 20000
        omega
      exact psL_col a b _ _ _ hI e0 ex
  exact InvO_ext hO (hc 14 (by decide) (by decide)) (hc 13 (by decide) (by decide))
end
