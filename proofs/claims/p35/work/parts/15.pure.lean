noncomputable section
theorem fz {σ : St} {w : Int32} (c : M_fails σ w = 0) (h : w = 1 ∨ w = 2 ∨ w = 3) : False := by
  rcases h with rfl | rfl | rfl
  · rw [fails_1] at c; exact i10 c
  · rw [fails_2] at c; exact i10 c
  · rw [fails_3] at c; exact i10 c
def M_ridge_j5 (σ : St) (p1 : Int32) (p2 : Int32) : Int32 := (if (M_isPlace p1) = (0 : Int32) then (1 : Int32) else (0 : Int32))
theorem M_ridge_j5_b (σ : St) (p1 : Int32) (p2 : Int32) : M_ridge_j5 σ p1 p2 = 0 ∨ M_ridge_j5 σ p1 p2 = 1 := by
  unfold M_ridge_j5
  (repeat' split) <;> first | exact Or.inl rfl | exact Or.inr rfl
def M_ridge (σ : St) (p1 : Int32) (p2 : Int32) : Int32 := (if (M_fails σ (M_ridge_j5 σ p1 p2)) = (0 : Int32) then ((M_fails_s σ (M_ridge_j5 σ p1 p2)) 2 (ix p1)) else (0 : Int32))
def M_ridge_s (σ : St) (p1 : Int32) (p2 : Int32) : St := (if (M_fails σ (M_ridge_j5 σ p1 p2)) = (0 : Int32) then (sS (M_fails_s σ (M_ridge_j5 σ p1 p2)) 2 (ix p1) p2) else (M_fails_s σ (M_ridge_j5 σ p1 p2)))
theorem ok_ridge0 {σ : St} {p1 p2 : Int32} (hI : Inv σ) (c : M_fails σ (M_ridge_j5 σ p1 p2) = 0) : vp_in p1 64 := by
  refine isPlace_in (fun q => ?_)
  exact fz c (by unfold M_ridge_j5; simp [q])
def M_zone_j5 (σ : St) (p1 : Int32) (p2 : Int32) : Int32 := (if (M_isPlace p1) = (0 : Int32) then (1 : Int32) else (if (M_isZone p2) = (0 : Int32) then (1 : Int32) else (0 : Int32)))
theorem M_zone_j5_b (σ : St) (p1 : Int32) (p2 : Int32) : M_zone_j5 σ p1 p2 = 0 ∨ M_zone_j5 σ p1 p2 = 1 := by
  unfold M_zone_j5
  (repeat' split) <;> first | exact Or.inl rfl | exact Or.inr rfl
def M_zone (σ : St) (p1 : Int32) (p2 : Int32) : Int32 := (if (M_fails σ (M_zone_j5 σ p1 p2)) = (0 : Int32) then ((M_fails_s σ (M_zone_j5 σ p1 p2)) 3 (ix p1)) else (0 : Int32))
def M_zone_s (σ : St) (p1 : Int32) (p2 : Int32) : St := (if (M_fails σ (M_zone_j5 σ p1 p2)) = (0 : Int32) then (sS (M_fails_s σ (M_zone_j5 σ p1 p2)) 3 (ix p1) p2) else (M_fails_s σ (M_zone_j5 σ p1 p2)))
theorem ok_zone0 {σ : St} {p1 p2 : Int32} (hI : Inv σ) (c : M_fails σ (M_zone_j5 σ p1 p2) = 0) : vp_in p1 64 := by
  refine isPlace_in (fun q => ?_)
  exact fz c (by unfold M_zone_j5; simp [q])
theorem ok_zone1 {σ : St} {p1 p2 : Int32} (hI : Inv σ) (c : M_fails σ (M_zone_j5 σ p1 p2) = 0) : vp_in p2 4 := by
  refine isZone_in (fun q => ?_)
  exact fz c (by unfold M_zone_j5; simp [q])
def M_law_j8 (σ : St) (p1 : Int32) (p2 : Int32) (p3 : Int32) (p4 : Int32) : Int32 := (if (M_isIn p2 (18 : Int32) (24 : Int32)) = (0 : Int32) then (0 : Int32) else (if (M_isIn p3 (0 : Int32) (2 : Int32)) = (0 : Int32) then (0 : Int32) else (if (M_isIn p4 (0 : Int32) (10 : Int32)) = (0 : Int32) then (0 : Int32) else (1 : Int32))))
theorem M_law_j8_b (σ : St) (p1 : Int32) (p2 : Int32) (p3 : Int32) (p4 : Int32) : M_law_j8 σ p1 p2 p3 p4 = 0 ∨ M_law_j8 σ p1 p2 p3 p4 = 1 := by
  unfold M_law_j8
  (repeat' split) <;> first | exact Or.inl rfl | exact Or.inr rfl
def M_law_j43 (σ : St) (p1 : Int32) (p2 : Int32) (p3 : Int32) (p4 : Int32) : Int32 := (if (M_isZone p1) = (0 : Int32) then (1 : Int32) else (if (M_law_j8 σ p1 p2 p3 p4) = (0 : Int32) then (2 : Int32) else (0 : Int32)))
def M_law_j63_s (σ : St) (p1 : Int32) (p2 : Int32) (p3 : Int32) (p4 : Int32) : St := (if (M_fails σ (M_law_j43 σ p1 p2 p3 p4)) = (0 : Int32) then (sS (sS (sS (M_fails_s σ (M_law_j43 σ p1 p2 p3 p4)) 4 (ix p1) p2) 5 (ix p1) p3) 6 (ix p1) p4) else (M_fails_s σ (M_law_j43 σ p1 p2 p3 p4)))
def M_law_s (σ : St) (p1 : Int32) (p2 : Int32) (p3 : Int32) (p4 : Int32) : St := (M_law_j63_s σ p1 p2 p3 p4)
theorem ok_law0 {σ : St} {p1 p2 p3 p4 : Int32} (hI : Inv σ) (c : M_fails σ (M_law_j43 σ p1 p2 p3 p4) = 0) : vp_in p1 4 := by
  refine isZone_in (fun q => ?_)
  exact fz c (by unfold M_law_j43; simp [q])
def M_air_j7 (σ : St) (p1 : Int32) : Int32 := (if (M_isIn p1 (0 : Int32) (2 : Int32)) = (0 : Int32) then (1 : Int32) else (0 : Int32))
theorem M_air_j7_b (σ : St) (p1 : Int32) : M_air_j7 σ p1 = 0 ∨ M_air_j7 σ p1 = 1 := by
  unfold M_air_j7
  (repeat' split) <;> first | exact Or.inl rfl | exact Or.inr rfl
def M_air (σ : St) (p1 : Int32) : Int32 := (if (M_fails σ (M_air_j7 σ p1)) = (0 : Int32) then ((M_fails_s σ (M_air_j7 σ p1)) 1 0) else (0 : Int32))
def M_air_s (σ : St) (p1 : Int32) : St := (if (M_fails σ (M_air_j7 σ p1)) = (0 : Int32) then (sC (M_fails_s σ (M_air_j7 σ p1)) 1 p1) else (M_fails_s σ (M_air_j7 σ p1)))
def M_exempt_j6 (σ : St) (p1 : Int32) (p2 : Int32) : Int32 := (if (M_isLamp σ p1) = (0 : Int32) then (1 : Int32) else (0 : Int32))
theorem M_exempt_j6_b (σ : St) (p1 : Int32) (p2 : Int32) : M_exempt_j6 σ p1 p2 = 0 ∨ M_exempt_j6 σ p1 p2 = 1 := by
  unfold M_exempt_j6
  (repeat' split) <;> first | exact Or.inl rfl | exact Or.inr rfl
def M_exempt (σ : St) (p1 : Int32) (p2 : Int32) : Int32 := (if (M_fails σ (M_exempt_j6 σ p1 p2)) = (0 : Int32) then ((M_fails_s σ (M_exempt_j6 σ p1 p2)) 22 (ix p1)) else (0 : Int32))
def M_exempt_s (σ : St) (p1 : Int32) (p2 : Int32) : St := (if (M_fails σ (M_exempt_j6 σ p1 p2)) = (0 : Int32) then (sS (M_fails_s σ (M_exempt_j6 σ p1 p2)) 22 (ix p1) p2) else (M_fails_s σ (M_exempt_j6 σ p1 p2)))
theorem ok_exempt0 {σ : St} {p1 p2 : Int32} (hI : Inv σ) (c : M_fails σ (M_exempt_j6 σ p1 p2) = 0) : vp_in p1 40 := by
  refine isLamp_in hI (fun q => ?_)
  exact fz c (by unfold M_exempt_j6; simp [q])
def M_outage_j6 (σ : St) (p1 : Int32) (p2 : Int32) : Int32 := (if (M_isVillage σ p1) = (0 : Int32) then (1 : Int32) else (if (M_isIn p2 (0 : Int32) (500 : Int32)) = (0 : Int32) then (2 : Int32) else (0 : Int32)))
def M_outage_j47 (σ : St) (p1 : Int32) (p2 : Int32) : Int32 := (if ((M_fails_s σ (M_outage_j6 σ p1 p2)) 12 (ix p1)) ≤ ((M_fails_s σ (M_outage_j6 σ p1 p2)) 0 0) then (0 : Int32) else (((M_fails_s σ (M_outage_j6 σ p1 p2)) 12 (ix p1)) - ((M_fails_s σ (M_outage_j6 σ p1 p2)) 0 0)))
def M_outage (σ : St) (p1 : Int32) (p2 : Int32) : Int32 := (if (M_fails σ (M_outage_j6 σ p1 p2)) = (0 : Int32) then (M_outage_j47 σ p1 p2) else (0 : Int32))
def M_outage_s (σ : St) (p1 : Int32) (p2 : Int32) : St := (if (M_fails σ (M_outage_j6 σ p1 p2)) = (0 : Int32) then (sS (M_fails_s σ (M_outage_j6 σ p1 p2)) 12 (ix p1) (((M_fails_s σ (M_outage_j6 σ p1 p2)) 0 0) + p2)) else (M_fails_s σ (M_outage_j6 σ p1 p2)))
theorem ok_outage0 {σ : St} {p1 p2 : Int32} (hI : Inv σ) (c : M_fails σ (M_outage_j6 σ p1 p2) = 0) : vp_in p1 5 := by
  refine isVillage_in hI (fun q => ?_)
  exact fz c (by unfold M_outage_j6; simp [q])
def M_tell_j6 (σ : St) (p1 : Int32) (p2 : Int32) : Int32 := (if (M_isMeter σ p1) = (0 : Int32) then (1 : Int32) else (if (M_isIn p2 (-5000 : Int32) (5000 : Int32)) = (0 : Int32) then (2 : Int32) else (0 : Int32)))
def M_tell (σ : St) (p1 : Int32) (p2 : Int32) : Int32 := (if (M_fails σ (M_tell_j6 σ p1 p2)) = (0 : Int32) then ((M_fails_s σ (M_tell_j6 σ p1 p2)) 30 (ix p1)) else (0 : Int32))
def M_tell_s (σ : St) (p1 : Int32) (p2 : Int32) : St := (if (M_fails σ (M_tell_j6 σ p1 p2)) = (0 : Int32) then (sS (M_fails_s σ (M_tell_j6 σ p1 p2)) 30 (ix p1) p2) else (M_fails_s σ (M_tell_j6 σ p1 p2)))
theorem ok_tell0 {σ : St} {p1 p2 : Int32} (hI : Inv σ) (c : M_fails σ (M_tell_j6 σ p1 p2) = 0) : vp_in p1 8 := by
  refine isMeter_in hI (fun q => ?_)
  exact fz c (by unfold M_tell_j6; simp [q])
def M_time (σ : St) : Int32 := ((sC σ 41 (0 : Int32)) 0 0)
def M_time_s (σ : St) : St := (sC σ 41 (0 : Int32))
def M_isHeld_j9 (σ : St) : Int32 := (if ((sC σ 41 (0 : Int32)) 34 0) = (0 : Int32) then (1 : Int32) else (0 : Int32))
theorem M_isHeld_j9_b (σ : St) : M_isHeld_j9 σ = 0 ∨ M_isHeld_j9 σ = 1 := by
  unfold M_isHeld_j9
  (repeat' split) <;> first | exact Or.inl rfl | exact Or.inr rfl
def M_isHeld (σ : St) : Int32 := (M_isHeld_j9 σ)
def M_isHeld_s (σ : St) : St := (sC σ 41 (0 : Int32))
theorem M_isHeld_b (σ : St) : (M_isHeld σ) = 0 ∨ (M_isHeld σ) = 1 := by
  unfold M_isHeld
  (repeat' split) <;> first | exact Or.inl rfl | exact Or.inr rfl | exact M_isHeld_j9_b ..
def M_thrown (σ : St) : Int32 := (σ 41 0)
def M_gives_j6 (σ : St) (p1 : Int32) (p2 : Int32) : Int32 := (if (M_isLamp σ p1) = (0 : Int32) then (1 : Int32) else (if (M_isPlace p2) = (0 : Int32) then (1 : Int32) else (0 : Int32)))
theorem M_gives_j6_b (σ : St) (p1 : Int32) (p2 : Int32) : M_gives_j6 σ p1 p2 = 0 ∨ M_gives_j6 σ p1 p2 = 1 := by
  unfold M_gives_j6
  (repeat' split) <;> first | exact Or.inl rfl | exact Or.inr rfl
def M_gives_j24 (σ : St) (p1 : Int32) (p2 : Int32) : Int32 := (if (M_fails σ (M_gives_j6 σ p1 p2)) = (0 : Int32) then (M_given (M_fails_s σ (M_gives_j6 σ p1 p2)) p1 p2) else (0 : Int32))
def M_gives (σ : St) (p1 : Int32) (p2 : Int32) : Int32 := (M_gives_j24 σ p1 p2)
def M_gives_s (σ : St) (p1 : Int32) (p2 : Int32) : St := (M_fails_s σ (M_gives_j6 σ p1 p2))
theorem ok_gives0 {σ : St} {p1 p2 : Int32} (hI : Inv σ) (c : M_fails σ (M_gives_j6 σ p1 p2) = 0) : vp_in p1 40 := by
  refine isLamp_in hI (fun q => ?_)
  exact fz c (by unfold M_gives_j6; simp [q])
theorem ok_gives1 {σ : St} {p1 p2 : Int32} (hI : Inv σ) (c : M_fails σ (M_gives_j6 σ p1 p2) = 0) : vp_in p2 64 := by
  refine isPlace_in (fun q => ?_)
  exact fz c (by unfold M_gives_j6; simp [q])
def M_glow_j5 (σ : St) (p1 : Int32) : Int32 := (if (M_isPlace p1) = (0 : Int32) then (1 : Int32) else (0 : Int32))
theorem M_glow_j5_b (σ : St) (p1 : Int32) : M_glow_j5 σ p1 = 0 ∨ M_glow_j5 σ p1 = 1 := by
  unfold M_glow_j5
  (repeat' split) <;> first | exact Or.inl rfl | exact Or.inr rfl
def M_glow_j16 (σ : St) (p1 : Int32) : Int32 := (if (M_fails σ (M_glow_j5 σ p1)) = (0 : Int32) then (M_glowOf (M_fails_s σ (M_glow_j5 σ p1)) p1) else (0 : Int32))
def M_glow (σ : St) (p1 : Int32) : Int32 := (M_glow_j16 σ p1)
def M_glow_s (σ : St) (p1 : Int32) : St := (M_fails_s σ (M_glow_j5 σ p1))
theorem ok_glow0 {σ : St} {p1 : Int32} (hI : Inv σ) (c : M_fails σ (M_glow_j5 σ p1) = 0) : vp_in p1 64 := by
  refine isPlace_in (fun q => ?_)
  exact fz c (by unfold M_glow_j5; simp [q])
def M_ground_j5 (σ : St) (p1 : Int32) : Int32 := (if (M_isPlace p1) = (0 : Int32) then (1 : Int32) else (0 : Int32))
theorem M_ground_j5_b (σ : St) (p1 : Int32) : M_ground_j5 σ p1 = 0 ∨ M_ground_j5 σ p1 = 1 := by
  unfold M_ground_j5
  (repeat' split) <;> first | exact Or.inl rfl | exact Or.inr rfl
def M_ground_j16 (σ : St) (p1 : Int32) : Int32 := (if (M_fails σ (M_ground_j5 σ p1)) = (0 : Int32) then (M_groundOf (M_fails_s σ (M_ground_j5 σ p1)) p1) else (0 : Int32))
def M_ground (σ : St) (p1 : Int32) : Int32 := (M_ground_j16 σ p1)
def M_ground_s (σ : St) (p1 : Int32) : St := (M_fails_s σ (M_ground_j5 σ p1))
theorem ok_ground0 {σ : St} {p1 : Int32} (hI : Inv σ) (c : M_fails σ (M_ground_j5 σ p1) = 0) : vp_in p1 64 := by
  refine isPlace_in (fun q => ?_)
  exact fz c (by unfold M_ground_j5; simp [q])
end
