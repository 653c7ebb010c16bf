noncomputable section
theorem unl_eq (σ : St) (p : Int32) : X_isUnlawful σ (ix p) = M_isUnlawful σ p := rfl
theorem light_eq (σ : St) (p : Int32) : X_light σ (ix p) = M_light σ p := by
  have e : iMin (σ 23 (ix p) / 100) 50 = M_light_j21 σ p := by
    unfold iMin M_light_j21
    by_cases c : (50 : Int32) < σ 23 (ix p) / 100
    · rw [if_pos c, if_neg (fun z => not_lt32.mpr z c)]
    · rw [if_neg c, if_pos (not_lt32.mp c)]
  unfold X_light M_light
  rw [e]
theorem hour_eq (σ : St) (p : Int32) : X_hasHour σ (ix p) (σ 0 0 - σ 0 0 / 24 * 24) = M_burns_j20 σ p := rfl
theorem open_eq (σ : St) (p : Int32) : X_isOpenAt σ (ix (σ 3 (ix (σ 15 (ix p))))) (σ 0 0 - σ 0 0 / 24 * 24) = 0 ↔ ¬ M_burns_j109 σ p = 0 := by
  unfold X_isOpenAt X_isOpenAt_j6 M_burns_j109
  by_cases c : σ 4 (ix (σ 3 (ix (σ 15 (ix p))))) = 24
  · repeat rw [if_pos c]
    decide
  repeat rw [if_neg c]
  by_cases c2 : σ 4 (ix (σ 3 (ix (σ 15 (ix p))))) ≤ σ 0 0 - σ 0 0 / 24 * 24
  · repeat rw [if_pos c2]
    decide
  repeat rw [if_neg c2]
  by_cases c3 : (6 : Int32) ≤ σ 0 0 - σ 0 0 / 24 * 24
  · rw [if_neg (not_lt32.mpr c3), if_pos c3]
    decide
  · rw [if_pos (Classical.byContradiction fun z => c3 (not_lt32.mp z)), if_neg c3]
    decide
theorem day_nI {σ : St} (hI : InvX σ) : σ 0 0 / 24 = nI (ix (σ 0 0) / 24) := by
  obtain ⟨e, hle⟩ := cnt (N := 20000) (hI.1 0 0) (by decide)
  have h2 := pk_div (a := ix (σ 0 0)) (d := 24) (by omega) (by decide) (by decide)
  rw [← h2, ← e]
  rfl
theorem feast_eq {σ : St} (hI : InvX σ) (p : Int32) : (if σ 22 (ix p) = 0 then (if X_hasFeast σ (ix (σ 3 (ix (σ 15 (ix p))))) (σ 0 0 / 24) = 0 then (0 : Int32) else 1) else 1) = M_burns_j142 σ p := by
  obtain ⟨e, hle⟩ := cnt (N := 20000) (hI.1 0 0) (by decide)
  have hz : vp_in (σ 3 (ix (σ 15 (ix p)))) 4 := hI.1 3 _
  have hzl := vp_lt hz
  unfold X_hasFeast X_hasFeast_j1 M_burns_j142
  rw [day_nI hI]
  by_cases c : σ 22 (ix p) = 0
  · rw [if_pos c, if_pos c]
    have n1 : ¬ nI (ix (σ 0 0) / 24) < 0 := not_lt32.mpr ((nI_leI (a := 0) (b := ix (σ 0 0) / 24) (by omega) (by omega)).mpr (by omega))
    have n2 : ¬ (1000 : Int32) ≤ nI (ix (σ 0 0) / 24) := fun z => absurd ((nI_leI (a := 1000) (b := ix (σ 0 0) / 24) (by omega) (by omega)).mp z) (by omega)
    have e3 : ix ((1000 : Int32) * σ 3 (ix (σ 15 (ix p))) + nI (ix (σ 0 0) / 24)) = 1000 * ix (σ 3 (ix (σ 15 (ix p)))) + ix (nI (ix (σ 0 0) / 24)) := by
      have h4 : (1000 : Int32) * σ 3 (ix (σ 15 (ix p))) = nI (1000 * ix (σ 3 (ix (σ 15 (ix p))))) := by
        rw [← pk_mul, ← vp_nI' hz (by decide)]
        rfl
      rw [h4, nI_add, ixn (by omega), ixn (by omega)]
    rw [if_neg n1, if_neg n2, if_neg n2, e3]
    by_cases f : σ 7 (1000 * ix (σ 3 (ix (σ 15 (ix p)))) + ix (nI (ix (σ 0 0) / 24))) = 0
    · rw [if_pos f]; rfl
    · rw [if_neg f]; rfl
  · rw [if_neg c, if_neg c]
theorem burns_eq {σ : St} (hI : InvX σ) (p : Int32) : X_isBurning σ (ix p) = M_burns σ p := by
  have hf := feast_eq hI p
  unfold X_isBurning X_isBurning_j44 M_burns M_burns_j188
  rw [hour_eq]
  by_cases c1 : M_burns_j20 σ p = 0
  · rw [if_pos c1, if_pos c1]
  rw [if_neg c1, if_neg c1]
  by_cases c2 : σ 0 0 < σ 12 (ix (σ 14 (ix p)))
  · rw [if_neg (fun z => not_lt32.mpr z c2), if_pos c2]
  rw [if_pos (not_lt32.mp c2), if_neg c2]
  by_cases c3 : M_burns_j109 σ p = 0
  · rw [if_pos c3, if_neg (fun z => (open_eq σ p).mp z c3)]
    by_cases c4 : σ 22 (ix p) = 0
    · rw [if_pos c4]
    · rw [if_neg c4]
  · rw [if_neg c3, if_pos ((open_eq σ p).mpr c3)]
    rw [hf]
    have hb := M_burns_j142_b σ p
    rcases hb with z | z
    · rw [z, if_pos rfl]
    · rw [z, if_neg i10]
end
