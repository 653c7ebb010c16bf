noncomputable section
theorem un_one {hx : fH} {o : Nat} {e : va_E} (h : hx o = none) : un hx (one o e) o = some e := (un_r h).trans (one_same o e)
theorem vp01 : vp_in 0 1 := vp_in_nI (n := 0) (N := 1) (by decide) (by decide)
theorem xN_1 : xN 1 = xIO := rfl
theorem xN_2 : xN 2 = xIA := by decide
theorem xN_3 : xN 3 = xIS := by decide
theorem slope_c (σ : St) (i : Nat) : X_slope_c σ i = 0 ∨ X_slope_c σ i = 3 := by
  unfold X_slope_c
  have h : ∀ n k a b c d, X_slope_L23_c σ i (fun a23_3 a23_5 a23_7 a23_9 => (if (lg_cmp (((nI (xL σ (i + 6))).toInt64 * a23_9) - (a23_3 * a23_3)) (0 : Int64)) = (0 : Int32) then (3 : Int32) else (0 : Int32))) n k a b c d = 0 ∨ X_slope_L23_c σ i (fun a23_3 a23_5 a23_7 a23_9 => (if (lg_cmp (((nI (xL σ (i + 6))).toInt64 * a23_9) - (a23_3 * a23_3)) (0 : Int64)) = (0 : Int32) then (3 : Int32) else (0 : Int32))) n k a b c d = 3 := by
    intro n
    induction n with
    | zero =>
      intro k a b c d
      rw [X_slope_L23_c]
      split
      · exact Or.inr rfl
      · exact Or.inl rfl
    | succ n ih => intro k a b c d; rw [X_slope_L23_c]; exact ih ..
  exact h _ _ _ _ _ _
theorem RX.c34 {ca : Nat → Nat} {h : fH} {ρ : Nat → Nat → Nat} {μ : Nat → Nat → Int32} {cap : Nat → Nat} {σ : St} (hR : RX ca h ρ μ cap σ) : RX ca h ρ μ cap (sC σ 34 (σ 34 0)) := by
  have cc : ∀ k, k ≠ 34 → sC σ 34 (σ 34 0) k = σ k := fun k => sC_col
  have c0 : sC σ 34 (σ 34 0) 34 0 = σ 34 0 := sC_same ..
  generalize sC σ 34 (σ 34 0) = σ' at *
  have hL : ∀ k, xL σ' k = xL σ k := fun k => by
    unfold xL
    split <;> simp only [cc 8 (by decide), cc 13 (by decide), cc 26 (by decide), cc 37 (by decide), cc 31 (by decide)]
  have hD : ∀ k, xD ρ σ' k = xD ρ σ k := fun k => by
    unfold xD
    funext i
    rw [hL]
  have hF : ∀ z, xF σ' z = xF σ z := fun z => by
    unfold xF
    rw [cc 7 (by decide)]
  have h1 : xC ca ρ μ cap σ' = xC ca ρ μ cap σ := by
    funext k i
    unfold xC
    simp (disch := decide) only [hF, xRoot, xList, xLabel, xZone, xPlace, xVillage, xLamp, xMeter, xReading, xSat, hL, hD, c0, cc]
  unfold RX
  rw [h1, cc 26 (by decide)]
  refine ⟨hR.1, hR.2.1, fun k hk => ?_⟩
  rw [hL]
  exact hR.2.2 k hk
theorem C_ridge {σ : St} {p1 : Int32} {p2 : Int32} : X_ridge_c σ p1 p2 = 0 ∨ X_ridge_c σ p1 p2 = 1 := by
  unfold X_ridge_c
  try simp only [X_glowFrom_L18_c_k, X_ground_L11_c_k, X_culprit_L14_c_k, insX_c, psX_c, audX_c, plan_c, way_c]
  (repeat' split) <;> decide
theorem C_zone {σ : St} {p1 : Int32} {p2 : Int32} : X_zone_c σ p1 p2 = 0 ∨ X_zone_c σ p1 p2 = 1 := by
  unfold X_zone_c
  try simp only [X_glowFrom_L18_c_k, X_ground_L11_c_k, X_culprit_L14_c_k, insX_c, psX_c, audX_c, plan_c, way_c]
  (repeat' split) <;> decide
theorem C_law {σ : St} {p1 : Int32} {p2 : Int32} {p3 : Int32} {p4 : Int32} : X_law_c σ p1 p2 p3 p4 = 0 ∨ X_law_c σ p1 p2 p3 p4 = 1 ∨ X_law_c σ p1 p2 p3 p4 = 2 := by
  unfold X_law_c
  try simp only [X_glowFrom_L18_c_k, X_ground_L11_c_k, X_culprit_L14_c_k, insX_c, psX_c, audX_c, plan_c, way_c]
  (repeat' split) <;> decide
theorem C_feast {σ : St} {p1 : Int32} {p2 : Int32} : X_feast_c σ p1 p2 = 0 ∨ X_feast_c σ p1 p2 = 1 ∨ X_feast_c σ p1 p2 = 2 := by
  unfold X_feast_c
  try simp only [X_glowFrom_L18_c_k, X_ground_L11_c_k, X_culprit_L14_c_k, insX_c, psX_c, audX_c, plan_c, way_c]
  (repeat' split) <;> decide
theorem C_air {σ : St} {p1 : Int32} : X_air_c σ p1 = 0 ∨ X_air_c σ p1 = 2 := by
  unfold X_air_c
  try simp only [X_glowFrom_L18_c_k, X_ground_L11_c_k, X_culprit_L14_c_k, insX_c, psX_c, audX_c, plan_c, way_c]
  (repeat' split) <;> decide
theorem C_pass {σ : St} {p1 : Int32} : X_pass_c σ p1 = 0 ∨ X_pass_c σ p1 = 2 ∨ X_pass_c σ p1 = 3 := by
  unfold X_pass_c
  try simp only [X_glowFrom_L18_c_k, X_ground_L11_c_k, X_culprit_L14_c_k, insX_c, psX_c, audX_c, plan_c, way_c]
  (repeat' split) <;> decide
theorem C_village {σ : St} {p1 : Int32} {p2 : Int32} : X_village_c σ p1 p2 = 0 ∨ X_village_c σ p1 p2 = 2 ∨ X_village_c σ p1 p2 = 3 := by
  unfold X_village_c
  try simp only [X_glowFrom_L18_c_k, X_ground_L11_c_k, X_culprit_L14_c_k, insX_c, psX_c, audX_c, plan_c, way_c]
  (repeat' split) <;> decide
theorem C_lamp {σ : St} {p1 : Int32} {p2 : Int32} {p3 : Int32} {p4 : Int32} {p5 : Int32} : X_lamp_c σ p1 p2 p3 p4 p5 = 0 ∨ X_lamp_c σ p1 p2 p3 p4 p5 = 1 ∨ X_lamp_c σ p1 p2 p3 p4 p5 = 2 ∨ X_lamp_c σ p1 p2 p3 p4 p5 = 3 := by
  unfold X_lamp_c
  try simp only [X_glowFrom_L18_c_k, X_ground_L11_c_k, X_culprit_L14_c_k, insX_c, psX_c, audX_c, plan_c, way_c]
  (repeat' split) <;> decide
theorem C_hours {σ : St} {p1 : Int32} {p2 : Int32} {p3 : Int32} : X_hours_c σ p1 p2 p3 = 0 ∨ X_hours_c σ p1 p2 p3 = 1 ∨ X_hours_c σ p1 p2 p3 = 2 ∨ X_hours_c σ p1 p2 p3 = 3 := by
  unfold X_hours_c
  try simp only [X_glowFrom_L18_c_k, X_ground_L11_c_k, X_culprit_L14_c_k, insX_c, psX_c, audX_c, plan_c, way_c]
  (repeat' split) <;> decide
theorem C_exempt {σ : St} {p1 : Int32} {p2 : Int32} : X_exempt_c σ p1 p2 = 0 ∨ X_exempt_c σ p1 p2 = 1 := by
  unfold X_exempt_c
  try simp only [X_glowFrom_L18_c_k, X_ground_L11_c_k, X_culprit_L14_c_k, insX_c, psX_c, audX_c, plan_c, way_c]
  (repeat' split) <;> decide
theorem C_outage {σ : St} {p1 : Int32} {p2 : Int32} : X_outage_c σ p1 p2 = 0 ∨ X_outage_c σ p1 p2 = 1 ∨ X_outage_c σ p1 p2 = 2 := by
  unfold X_outage_c
  try simp only [X_glowFrom_L18_c_k, X_ground_L11_c_k, X_culprit_L14_c_k, insX_c, psX_c, audX_c, plan_c, way_c]
  (repeat' split) <;> decide
theorem C_vote {σ : St} {p1 : Int32} {p2 : Int32} {p3 : Int32} {p4 : Int32} {p5 : Int32} : X_vote_c σ p1 p2 p3 p4 p5 = 0 ∨ X_vote_c σ p1 p2 p3 p4 p5 = 1 ∨ X_vote_c σ p1 p2 p3 p4 p5 = 2 ∨ X_vote_c σ p1 p2 p3 p4 p5 = 3 := by
  unfold X_vote_c
  try simp only [X_glowFrom_L18_c_k, X_ground_L11_c_k, X_culprit_L14_c_k, insX_c, psX_c, audX_c, plan_c, way_c]
  (repeat' split) <;> decide
theorem C_inspect {σ : St} {p1 : Int32} : X_inspect_c σ p1 = 0 ∨ X_inspect_c σ p1 = 1 := by
  unfold X_inspect_c
  try simp only [X_glowFrom_L18_c_k, X_ground_L11_c_k, X_culprit_L14_c_k, insX_c, psX_c, audX_c, plan_c, way_c]
  (repeat' split) <;> decide
theorem C_meter {σ : St} {p1 : Int32} {p2 : Int32} {p3 : Int32} : X_meter_c σ p1 p2 p3 = 0 ∨ X_meter_c σ p1 p2 p3 = 1 ∨ X_meter_c σ p1 p2 p3 = 2 ∨ X_meter_c σ p1 p2 p3 = 3 := by
  unfold X_meter_c
  try simp only [X_glowFrom_L18_c_k, X_ground_L11_c_k, X_culprit_L14_c_k, insX_c, psX_c, audX_c, plan_c, way_c]
  (repeat' split) <;> decide
theorem C_read {σ : St} {p1 : Int32} : X_read_c σ p1 = 0 ∨ X_read_c σ p1 = 1 := by
  unfold X_read_c
  try simp only [X_glowFrom_L18_c_k, X_ground_L11_c_k, X_culprit_L14_c_k, insX_c, psX_c, audX_c, plan_c, way_c]
  (repeat' split) <;> decide
theorem C_tell {σ : St} {p1 : Int32} {p2 : Int32} : X_tell_c σ p1 p2 = 0 ∨ X_tell_c σ p1 p2 = 1 ∨ X_tell_c σ p1 p2 = 2 := by
  unfold X_tell_c
  try simp only [X_glowFrom_L18_c_k, X_ground_L11_c_k, X_culprit_L14_c_k, insX_c, psX_c, audX_c, plan_c, way_c]
  (repeat' split) <;> decide
theorem C_audit {σ : St} {p1 : Int32} : X_audit_c σ p1 = 0 ∨ X_audit_c σ p1 = 2 := by
  unfold X_audit_c
  try simp only [X_glowFrom_L18_c_k, X_ground_L11_c_k, X_culprit_L14_c_k, insX_c, psX_c, audX_c, plan_c, way_c]
  (repeat' split) <;> decide
theorem C_ofLamp {σ : St} {p1 : Int32} {p2 : Int32} : X_ofLamp_c σ p1 p2 = 0 ∨ X_ofLamp_c σ p1 p2 = 1 ∨ X_ofLamp_c σ p1 p2 = 2 := by
  unfold X_ofLamp_c
  try simp only [X_glowFrom_L18_c_k, X_ground_L11_c_k, X_culprit_L14_c_k, insX_c, psX_c, audX_c, plan_c, way_c]
  (repeat' split) <;> decide
theorem C_ofVillage {σ : St} {p1 : Int32} {p2 : Int32} : X_ofVillage_c σ p1 p2 = 0 ∨ X_ofVillage_c σ p1 p2 = 1 ∨ X_ofVillage_c σ p1 p2 = 2 := by
  unfold X_ofVillage_c
  try simp only [X_glowFrom_L18_c_k, X_ground_L11_c_k, X_culprit_L14_c_k, insX_c, psX_c, audX_c, plan_c, way_c]
  (repeat' split) <;> decide
theorem C_gives {σ : St} {p1 : Int32} {p2 : Int32} : X_gives_c σ p1 p2 = 0 ∨ X_gives_c σ p1 p2 = 1 := by
  unfold X_gives_c
  try simp only [X_glowFrom_L18_c_k, X_ground_L11_c_k, X_culprit_L14_c_k, insX_c, psX_c, audX_c, plan_c, way_c]
  (repeat' split) <;> decide
theorem C_glow {σ : St} {p1 : Int32} : X_glow_c σ p1 = 0 ∨ X_glow_c σ p1 = 1 := by
  unfold X_glow_c
  try simp only [X_glowFrom_L18_c_k, X_ground_L11_c_k, X_culprit_L14_c_k, insX_c, psX_c, audX_c, plan_c, way_c]
  (repeat' split) <;> decide
theorem C_glowFrom {σ : St} {p1 : Int32} {p2 : Int32} : X_glowFrom_c σ p1 p2 = 0 ∨ X_glowFrom_c σ p1 p2 = 1 ∨ X_glowFrom_c σ p1 p2 = 2 := by
  unfold X_glowFrom_c
  try simp only [X_glowFrom_L18_c_k, X_ground_L11_c_k, X_culprit_L14_c_k, insX_c, psX_c, audX_c, plan_c, way_c]
  (repeat' split) <;> decide
theorem C_ground {σ : St} {p1 : Int32} : X_ground_c σ p1 = 0 ∨ X_ground_c σ p1 = 1 := by
  unfold X_ground_c
  try simp only [X_glowFrom_L18_c_k, X_ground_L11_c_k, X_culprit_L14_c_k, insX_c, psX_c, audX_c, plan_c, way_c]
  (repeat' split) <;> decide
theorem C_way {σ μ : St} {p1 : Int32} {p2 : Int32} {p3 : Int32} : X_way_c σ μ p1 p2 p3 = 0 ∨ X_way_c σ μ p1 p2 p3 = 1 ∨ X_way_c σ μ p1 p2 p3 = 2 := by
  unfold X_way_c
  try simp only [X_glowFrom_L18_c_k, X_ground_L11_c_k, X_culprit_L14_c_k, insX_c, psX_c, audX_c, plan_c, way_c]
  (repeat' split) <;> decide
theorem C_ofReading {σ : St} {p1 : Int32} {p2 : Int32} {p3 : Int32} : X_ofReading_c σ p1 p2 p3 = 0 ∨ X_ofReading_c σ p1 p2 p3 = 1 ∨ X_ofReading_c σ p1 p2 p3 = 2 := by
  unfold X_ofReading_c
  try simp only [X_glowFrom_L18_c_k, X_ground_L11_c_k, X_culprit_L14_c_k, insX_c, psX_c, audX_c, plan_c, way_c]
  (repeat' split) <;> decide
theorem C_trend {σ : St} {p1 : Int32} : X_trend_c σ p1 = 0 ∨ X_trend_c σ p1 = 1 ∨ X_trend_c σ p1 = 3 := by
  unfold X_trend_c
  have hs := slope_c σ (ix p1)
  (repeat' split) <;> first | decide | (rcases hs with z | z <;> rw [z] <;> decide) | exact absurd (by assumption) (by assumption)
theorem C_culprit {σ : St} {p1 : Int32} : X_culprit_c σ p1 = 0 ∨ X_culprit_c σ p1 = 1 := by
  unfold X_culprit_c
  try simp only [X_glowFrom_L18_c_k, X_ground_L11_c_k, X_culprit_L14_c_k, insX_c, psX_c, audX_c, plan_c, way_c]
  (repeat' split) <;> decide
theorem C_plan {σ μ : St} {p1 : Int32} {p2 : Int32} {p3 : Int32} : X_plan_c σ μ p1 p2 p3 = 0 ∨ X_plan_c σ μ p1 p2 p3 = 1 ∨ X_plan_c σ μ p1 p2 p3 = 2 := by
  unfold X_plan_c
  try simp only [X_glowFrom_L18_c_k, X_ground_L11_c_k, X_culprit_L14_c_k, insX_c, psX_c, audX_c, plan_c, way_c]
  (repeat' split) <;> decide
end
