noncomputable section
/-! reference and class answer alike: the reference's tests as ranges -/
theorem in0_iff {v b : Int32} {N : Nat} (hb : b.toInt + 1 = (N : Int)) : M_isIn v 0 b = 0 ↔ ¬ vp_in v N := by
  have h1 : (¬ M_isIn v 0 b = 0) ↔ vp_in v N := by
    rw [isIn_iff, vp_in_iff, show (0 : Int32).toInt = 0 from rfl]
    omega
  constructor
  · exact fun h q => (h1.mpr q) h
  · exact fun h => Classical.byContradiction fun q => h (h1.mp q)
theorem place_iff {v : Int32} : M_isPlace v = 0 ↔ ¬ vp_in v 64 := in0_iff (by decide)
theorem zone_iff {v : Int32} : M_isZone v = 0 ↔ ¬ vp_in v 4 := in0_iff (by decide)
theorem cntm1 {c : Int32} {N : Nat} (h : vp_in c (N + 1)) (hN : N < 1000000) : (c - 1).toInt + 1 = ((ix c : Nat) : Int) := by
  obtain ⟨e, hle⟩ := cnt h hN
  rcases Nat.eq_zero_or_pos (ix c) with z | z
  · rw [e, z]
    rfl
  · have e2 := pk_sub (a := ix c) (b := 1) (by omega)
    rw [show nI (ix c) - nI 1 = c - 1 by rw [← e]; rfl] at e2
    rw [e2, nI_toInt (by omega)]
    omega
theorem village_iff {σ : St} (hI : InvX σ) {v : Int32} : M_isVillage σ v = 0 ↔ ¬ vp_in v (ix (σ 8 0)) := in0_iff (cntm1 (N := 5) (hI.1 8 0) (by decide))
theorem lamp_iff {σ : St} (hI : InvX σ) {v : Int32} : M_isLamp σ v = 0 ↔ ¬ vp_in v (ix (σ 13 0)) := in0_iff (cntm1 (N := 40) (hI.1 13 0) (by decide))
theorem meter_iff {σ : St} (hI : InvX σ) {v : Int32} : M_isMeter σ v = 0 ↔ ¬ vp_in v (ix (σ 26 0)) := in0_iff (cntm1 (N := 8) (hI.1 26 0) (by decide))
theorem sC41 {σ : St} {v : Int32} {k : Nat} (h : k < 40) : sC σ 41 v k = σ k := sC_col (by omega)
theorem nf1 (σ : St) : ¬ M_fails σ 1 = 0 := by rw [fails_1]; decide
theorem nf2 (σ : St) : ¬ M_fails σ 2 = 0 := by rw [fails_2]; decide
theorem nf3 (σ : St) : ¬ M_fails σ 3 = 0 := by rw [fails_3]; decide
theorem E_ridge (σ : St) (p1 p2 : Int32) : (X_ridge_c σ p1 p2 = 0 → M_ridge_s σ p1 p2 41 0 = 0 ∧ M_ridge σ p1 p2 = X_ridge σ p1 p2 ∧ ∀ k, k < 40 → M_ridge_s σ p1 p2 k = X_ridge_s σ p1 p2 k) ∧ (X_ridge_c σ p1 p2 = 1 → M_ridge_s σ p1 p2 41 0 = 1 ∧ ∀ k, k < 40 → M_ridge_s σ p1 p2 k = σ k) := by
  unfold X_ridge_c X_ridge X_ridge_s M_ridge M_ridge_s M_ridge_j5
  by_cases c : vp_in p1 64
  · rw [if_pos c, if_pos c, if_pos c, if_neg (show ¬ M_isPlace p1 = 0 from fun z => place_iff.mp z c)]
    refine ⟨fun _ => ⟨rfl, rfl, fun k hk => ?_⟩, fun z => absurd z (by decide)⟩
    rw [if_pos (fails_0 σ)]
    by_cases e : k = 2
    · subst e; rfl
    · rw [sS_col e, sS_col e]; exact sC41 hk
  · rw [if_neg c, if_neg c, if_neg c, if_pos (place_iff.mpr c)]
    refine ⟨fun z => absurd z (by decide), fun _ => ⟨?_, fun k hk => ?_⟩⟩
    · rw [if_neg (nf1 σ)]; rfl
    · rw [if_neg (nf1 σ)]; exact sC41 hk
end
