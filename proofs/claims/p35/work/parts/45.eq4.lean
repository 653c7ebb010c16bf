noncomputable section
theorem Q_time (σ : St) : EQ σ (X_time_c σ) (X_time σ) (X_time_s σ) (M_time σ) (M_time_s σ) 0 0 0 := EQ.ok rfl rfl (sEq.f σ 0)
theorem Q_isHeld (σ : St) : EQ σ (X_isHeld_c σ) (X_isHeld σ) (X_isHeld_s σ) (M_isHeld σ) (M_isHeld_s σ) 0 0 0 := EQ.ok rfl rfl (sEq.f σ 0)
theorem Q_law {σ : St} (p1 p2 p3 p4 : Int32) : EQ σ (X_law_c σ p1 p2 p3 p4) 0 (X_law_s σ p1 p2 p3 p4) 0 (M_law_s σ p1 p2 p3 p4) 1 2 0 := by
  unfold X_law_c X_law_s M_law_s M_law_j63_s M_law_j43 M_law_j8
  by_cases c : vp_in p1 4
  · repeat rw [if_pos c]
    repeat rw [if_neg (fun z => zone_iff.mp z c)]
    by_cases e2 : M_isIn p2 (18 : Int32) (24 : Int32) = 0
    · repeat rw [if_pos e2]
      rw [if_pos rfl, if_neg (nf2 σ)]
      exact EQ.f2 rfl (sEq.f σ 2)
    repeat rw [if_neg e2]
    by_cases e3 : M_isIn p3 (0 : Int32) (2 : Int32) = 0
    · repeat rw [if_pos e3]
      rw [if_pos rfl, if_neg (nf2 σ)]
      exact EQ.f2 rfl (sEq.f σ 2)
    repeat rw [if_neg e3]
    by_cases e4 : M_isIn p4 (0 : Int32) (10 : Int32) = 0
    · repeat rw [if_pos e4]
      rw [if_pos rfl, if_neg (nf2 σ)]
      exact EQ.f2 rfl (sEq.f σ 2)
    repeat rw [if_neg e4]
    rw [if_neg i10, if_pos (fails_0 σ)]
    exact EQ.ok rfl rfl ((((sEq.f σ 0).S _ _ _).S _ _ _).S _ _ _)
  · repeat rw [if_neg c]
    repeat rw [if_pos (zone_iff.mpr c)]
    rw [if_neg (nf1 σ)]
    exact EQ.f1 rfl (sEq.f σ 1)
theorem bound_iff {σ : St} (hI : InvX σ) (i : Nat) : X_boundHours σ i (σ 0 0) = 0 ↔ σ 24 i ≤ σ 0 0 := by
  have h1 := vp_in_iff.mp (hI.1 24 i : vp_in (σ 24 i) 28761)
  have h2 := vp_in_iff.mp (hI.1 0 0 : vp_in (σ 0 0) 20001)
  have h3 : (σ 24 i - σ 0 0).toInt = (σ 24 i).toInt - (σ 0 0).toInt := by
    rw [Int32.toInt_sub]
    exact Int.bmod_eq_of_le (by omega) (by omega)
  unfold X_boundHours iMax
  rw [Int32.le_iff_toInt_le]
  by_cases w : σ 24 i - σ 0 0 < 0
  · rw [if_pos w]
    rw [Int32.lt_iff_toInt_lt, h3, Int32.toInt_zero] at w
    exact ⟨fun _ => by omega, fun _ => rfl⟩
  · rw [if_neg w, ← Int32.toInt_inj, h3, Int32.toInt_zero]
    rw [Int32.lt_iff_toInt_lt, h3, Int32.toInt_zero] at w
    omega
theorem Q_hours {σ : St} (hI : InvX σ) (p1 p2 p3 : Int32) : EQ σ (X_hours_c σ p1 p2 p3) 0 (X_hours_s σ p1 p2 p3) 0 (M_hours_s σ p1 p2 p3) 1 2 3 := by
  unfold X_hours_c X_hours_s X_hours_j30 M_hours_s M_hours_j65_s M_hours_j33 M_hours_j7 M_isBound M_isBound_j10
  by_cases c : vp_in p1 (ix (σ 13 0))
  · repeat rw [if_pos c]
    repeat rw [if_neg (fun z => (lamp_iff hI).mp z c)]
    by_cases e2 : M_isIn p2 (0 : Int32) (23 : Int32) = 0
    · repeat rw [if_pos e2]
      rw [if_pos rfl, if_neg (nf2 σ)]
      exact EQ.f2 rfl (sEq.f σ 2)
    repeat rw [if_neg e2]
    by_cases e3 : M_isIn p3 (0 : Int32) (23 : Int32) = 0
    · repeat rw [if_pos e3]
      rw [if_pos rfl, if_neg (nf2 σ)]
      exact EQ.f2 rfl (sEq.f σ 2)
    repeat rw [if_neg e3]
    rw [if_neg i10]
    by_cases e4 : σ 24 (ix p1) ≤ σ 0 0
    · repeat rw [if_pos ((bound_iff hI _).mpr e4)]
      repeat rw [if_pos e4]
      repeat rw [if_neg i10]
      rw [if_pos rfl, if_pos (fails_0 σ)]
      exact EQ.ok rfl rfl (((sEq.f σ 0).S _ _ _).S _ _ _)
    · repeat rw [if_neg (fun z => e4 ((bound_iff hI _).mp z))]
      repeat rw [if_neg e4]
      repeat rw [if_pos rfl]
      repeat rw [if_neg i10]
      rw [if_neg (nf3 σ)]
      exact EQ.f3 rfl (sEq.f σ 3)
  · repeat rw [if_neg c]
    repeat rw [if_pos ((lamp_iff hI).mpr c)]
    rw [if_neg (nf1 σ)]
    exact EQ.f1 rfl (sEq.f σ 1)
end
