noncomputable section
theorem unl_eq (σ : St) (p : Int32) : X_isUnlawful σ (ix p) = M_isUnlawful σ p := rfl
theorem light_eq (σ : St) (p : Int32) : X_light σ (ix p) = M_light σ p := by
  have e : iMin (σ 23 (ix p) / 100) 50 = M_light_j21 σ p := by
    unfold iMin M_light_j21
    by_cases c : (50 : Int32) < σ 23 (ix p) / 100
    · rw [if_pos c, if_neg (fun z => not_lt32.mpr z c)]
    · rw [if_neg c, if_pos (not_lt32.mp c)]
  unfold X_light M_light
  rw [e]
theorem hour_eq (σ : St) (p : Int32) : X_hasHour σ (ix p) (σ 0 0 - σ 0 0 / 24 * 24) = M_burns_j20 σ p := rfl
theorem open_eq (σ : St) (p : Int32) : X_isOpenAt σ (ix (σ 3 (ix (σ 15 (ix p))))) (σ 0 0 - σ 0 0 / 24 * 24) = 0 ↔ ¬ M_burns_j109 σ p = 0 := by
  unfold X_isOpenAt X_isOpenAt_j6 M_burns_j109
  by_cases c : σ 4 (ix (σ 3 (ix (σ 15 (ix p))))) = 24
  · repeat rw [if_pos c]
    decide
  repeat rw [if_neg c]
  by_cases c2 : σ 4 (ix (σ 3 (ix (σ 15 (ix p))))) ≤ σ 0 0 - σ 0 0 / 24 * 24
  · repeat rw [if_pos c2]
    decide
  repeat rw [if_neg c2]
  by_cases c3 : (6 : Int32) ≤ σ 0 0 - σ 0 0 / 24 * 24
  · rw [if_neg (not_lt32.mpr c3), if_pos c3]
    decide
  · rw [if_pos (Classical.byContradiction fun z => c3 (not_lt32.mp z)), if_neg c3]
    decide
end
