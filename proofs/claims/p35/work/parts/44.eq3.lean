noncomputable section
theorem Q_zone {σ : St} (hI : InvX σ) (p1 p2 : Int32) : EQ σ (X_zone_c σ p1 p2) (X_zone σ p1 p2) (X_zone_s σ p1 p2) (M_zone σ p1 p2) (M_zone_s σ p1 p2) 1 0 0 := by
  unfold X_zone_c X_zone X_zone_s M_zone M_zone_s M_zone_j5
  by_cases c : vp_in p1 64
  · repeat rw [if_pos c]
    rw [if_neg (fun z => place_iff.mp z c)]
    by_cases e : vp_in p2 4
    · repeat rw [if_pos e]
      rw [if_neg (fun z => zone_iff.mp z e)]
      repeat rw [if_pos (fails_0 σ)]
      refine EQ.ok rfl ?_ ((sEq.f σ 0).S _ _ _)
      show σ 3 (ix p1) = nI (ix (σ 3 (ix p1)))
      exact vp_nI' (hI.1 3 _) (by decide)
    · repeat rw [if_neg e]
      rw [if_pos (zone_iff.mpr e)]
      repeat rw [if_neg (nf1 σ)]
      exact EQ.f1 rfl (sEq.f σ 1)
  · repeat rw [if_neg c]
    rw [if_pos (place_iff.mpr c)]
    repeat rw [if_neg (nf1 σ)]
    exact EQ.f1 rfl (sEq.f σ 1)
theorem Q_outage {σ : St} (hI : InvX σ) (p1 p2 : Int32) : EQ σ (X_outage_c σ p1 p2) (X_outage σ p1 p2) (X_outage_s σ p1 p2) (M_outage σ p1 p2) (M_outage_s σ p1 p2) 1 2 0 := by
  unfold X_outage_c X_outage X_outage_s M_outage M_outage_s M_outage_j47 M_outage_j6
  by_cases c : vp_in p1 (ix (σ 8 0))
  · repeat rw [if_pos c]
    repeat rw [if_neg (fun z => (village_iff hI).mp z c)]
    by_cases e : M_isIn p2 (0 : Int32) (500 : Int32) = 0
    · repeat rw [if_pos e]
      repeat rw [if_neg (nf2 σ)]
      exact EQ.f2 rfl (sEq.f σ 2)
    · repeat rw [if_neg e]
      repeat rw [if_pos (fails_0 σ)]
      refine EQ.ok rfl ?_ ((sEq.f σ 0).S _ _ _)
      show (if σ 12 (ix p1) ≤ σ 0 0 then (0 : Int32) else σ 12 (ix p1) - σ 0 0) = iMax (σ 12 (ix p1) - σ 0 0) 0
      have h1 := vp_in_iff.mp (hI.1 12 (ix p1) : vp_in (σ 12 (ix p1)) 20501)
      have h2 := vp_in_iff.mp (hI.1 0 0 : vp_in (σ 0 0) 20001)
      have h3 : (σ 12 (ix p1) - σ 0 0).toInt = (σ 12 (ix p1)).toInt - (σ 0 0).toInt := by
        rw [Int32.toInt_sub]
        exact Int.bmod_eq_of_le (by omega) (by omega)
      unfold iMax
      by_cases q : σ 12 (ix p1) ≤ σ 0 0
      · rw [if_pos q]
        rw [Int32.le_iff_toInt_le] at q
        by_cases w : σ 12 (ix p1) - σ 0 0 < 0
        · rw [if_pos w]
        · rw [if_neg w]
          rw [Int32.lt_iff_toInt_lt, h3, Int32.toInt_zero] at w
          apply Int32.toInt_inj.mp
          rw [h3, Int32.toInt_zero]
          omega
      · rw [if_neg q]
        rw [Int32.le_iff_toInt_le] at q
        rw [if_neg (by rw [Int32.lt_iff_toInt_lt, h3, Int32.toInt_zero]; omega)]
  · repeat rw [if_neg c]
    repeat rw [if_pos ((village_iff hI).mpr c)]
    repeat rw [if_neg (nf1 σ)]
    exact EQ.f1 rfl (sEq.f σ 1)
end
