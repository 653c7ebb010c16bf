noncomputable section
theorem night_iff (h : Int32) : X_isNight h = 0 ↔ ¬ M_isIn h 6 17 = 0 := by
  unfold X_isNight X_isNight_j3 M_isIn M_isIn_j2
  have e17 : (17 : Int32).toInt = 17 := rfl
  have e18 : (18 : Int32).toInt = 18 := rfl
  by_cases c : h < 6
  · rw [if_pos c, if_neg (fun z => not_lt32.mpr z c)]
    have : ¬ (18 : Int32) ≤ h := by
      rw [Int32.lt_iff_toInt_lt, show (6 : Int32).toInt = 6 from rfl] at c
      rw [Int32.le_iff_toInt_le, e18]
      omega
    rw [if_neg this]
    exact ⟨fun z => absurd z i10, fun z => absurd rfl z⟩
  · rw [if_neg c, if_pos (not_lt32.mp c)]
    by_cases d : (17 : Int32) < h
    · rw [if_pos d]
      have : (18 : Int32) ≤ h := by
        rw [Int32.lt_iff_toInt_lt, e17] at d
        rw [Int32.le_iff_toInt_le, e18]
        omega
      rw [if_pos this]
      exact ⟨fun z => absurd z i10, fun z => absurd rfl z⟩
    · rw [if_neg d]
      have : ¬ (18 : Int32) ≤ h := by
        rw [Int32.lt_iff_toInt_lt, e17] at d
        rw [Int32.le_iff_toInt_le, e18]
        omega
      rw [if_neg this]
      exact ⟨fun _ => i10, fun _ => rfl⟩
theorem moon_eq (v : Int32) : X_moonAt v = M_moon v := by
  unfold X_moonAt X_moonAt_j15 M_moon M_moon_j13
  rw [size_abs]
  by_cases c : X_isNight (v - v / 24 * 24) = 0
  · rw [if_pos c, if_neg ((night_iff _).mp c)]
  · rw [if_neg c, if_pos (Classical.byContradiction fun z => c ((night_iff _).mpr z))]
theorem read_iff {σ : St} (hI : InvX σ) {p v : Int32} : M_isIn v 0 (σ 31 (ix p) - 1) = 0 ↔ ¬ vp_in v (ix (σ 31 (ix p))) := in0_iff (cntm1 (N := 10) (hI.1 31 (ix p)) (by decide))
theorem rix {m r : Int32} (hm : vp_in m 8) (hr : vp_in r 10) : ix (10 * m + r) = 10 * ix m + ix r := by
  have h1 := vp_lt hm
  have h2 := vp_lt hr
  have e : (10 : Int32) * m + r = nI (10 * ix m + ix r) := by
    rw [← nI_add, ← pk_mul, ← vp_nI' hm (by decide), ← vp_nI' hr (by decide)]
    rfl
  rw [e, ixn (by omega)]
theorem corr_eq {σ : St} {m r : Int32} (hm : vp_in m 8) (hr : vp_in r 10) : X_corrected σ (ix m) (10 * ix m + ix r) = M_corrected σ m r := by
  unfold X_corrected M_corrected
  rw [rix hm hr, moon_eq]
theorem Q_ofReading {σ : St} (hI : InvX σ) (p1 p2 p3 : Int32) : EQ σ (X_ofReading_c σ p1 p2 p3) (X_ofReading σ p1 p2 p3) (X_ofReading_s σ p1 p2 p3) (M_ofReading σ p1 p2 p3) (M_ofReading_s σ p1 p2 p3) 1 2 0 := by
  unfold X_ofReading_c X_ofReading X_ofReading_s M_ofReading M_ofReading_s M_ofReading_j64
  have hms := IX_meters hI
  by_cases c : vp_in p1 (ix (σ 26 0))
  · repeat rw [if_pos c]
    by_cases d : vp_in p2 (xL σ (ix p1 + 6))
    · repeat rw [if_pos d]
      have hr := IX_reads hI (ix p1)
      have j5 : M_ofReading_j5 σ p1 p2 p3 = 1 := by
        unfold M_ofReading_j5
        rw [if_neg (fun z => (meter_iff hI).mp z c), if_neg (fun z => (read_iff hI).mp z d)]
      by_cases e : M_isIn p3 (0 : Int32) (2 : Int32) = 0
      · have hj : M_ofReading_j34 σ p1 p2 p3 = 2 := by
          unfold M_ofReading_j34
          rw [j5, if_neg i10, if_pos e]
        rw [hj]
        repeat rw [if_pos e]
        repeat rw [if_neg (nf2 σ)]
        exact EQ.f2 rfl (sEq.f σ 2)
      · have hj : M_ofReading_j34 σ p1 p2 p3 = 0 := by
          unfold M_ofReading_j34
          rw [j5, if_neg i10, if_neg e]
        have d' : vp_in p2 10 := vp_up d hr
        have c' : vp_in p1 8 := vp_up c hms
        rw [hj, corr_eq c' d']
        repeat rw [if_neg e]
        repeat rw [if_pos (fails_0 σ)]
        by_cases q0 : p3 = 0
        · repeat rw [if_pos q0]
          refine EQ.ok rfl ?_ (sEq.f σ 0)
          rw [rix c' d']
          rfl
        repeat rw [if_neg q0]
        by_cases q1 : p3 = 1
        · repeat rw [if_pos q1]
          refine EQ.ok rfl ?_ (sEq.f σ 0)
          rw [rix c' d']
          rfl
        repeat rw [if_neg q1]
        exact EQ.ok rfl rfl (sEq.f σ 0)
    · have hj : M_ofReading_j34 σ p1 p2 p3 = 1 := by
        unfold M_ofReading_j34 M_ofReading_j5
        rw [if_neg (fun z => (meter_iff hI).mp z c), if_pos ((read_iff hI).mpr d), if_pos rfl]
      rw [hj]
      repeat rw [if_neg d]
      repeat rw [if_neg (nf1 σ)]
      exact EQ.f1 rfl (sEq.f σ 1)
  · have hj : M_ofReading_j34 σ p1 p2 p3 = 1 := by
      unfold M_ofReading_j34 M_ofReading_j5
      rw [if_pos ((meter_iff hI).mpr c), if_pos rfl]
    rw [hj]
    repeat rw [if_neg c]
    repeat rw [if_neg (nf1 σ)]
    exact EQ.f1 rfl (sEq.f σ 1)
end
