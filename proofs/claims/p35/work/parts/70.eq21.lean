noncomputable section
theorem fcol (σ : St) (w : Int32) {k : Nat} (h : k < 40) : M_fails_s σ w k = σ k := sC41 h
theorem InvO_ext {σ σ' : St} (hO : InvO σ) (h14 : σ' 14 = σ 14) (h13 : σ' 13 = σ 13) : InvO σ' := fun v => by rw [h14, h13]; exact hO v
theorem full_iff {σ : St} {k N : Nat} {K : Int32} (h : vp_in (σ k 0) (N + 1)) (hN : N < 1000) (hK : K = nI N) : K ≤ nI (ix (σ k 0)) ↔ σ k 0 = K := by
  obtain ⟨e, hle⟩ := cnt h (by omega)
  rw [hK, nI_leI (by omega) (by omega)]
  constructor
  · intro z
    rw [e, show ix (σ k 0) = N by omega]
  · intro z
    have : ix (σ k 0) = N := by rw [z, ixn (by omega)]
    omega
theorem vp1 {σ : St} {k N : Nat} (h : vp_in (σ k 0) (N + 1)) (hN : N < 1000) (hf : ¬ σ k 0 = nI N) : vp_in (σ k 0 + 1) (N + 1) := by
  obtain ⟨e, hle⟩ := cnt h (by omega)
  have : ix (σ k 0) ≠ N := fun z => hf (by rw [e, z])
  rw [e, nI_1]
  exact vp_in_nI (by omega) (by omega)
theorem rng {v b : Int32} {N : Nat} (h : ¬ M_isIn v 0 b = 0) (hb : b.toInt + 1 = (N : Int)) : vp_in v N := Classical.byContradiction fun z => h ((in0_iff hb).mpr z)
theorem rng1 {v b : Int32} {N : Nat} (h : ¬ M_isIn v 1 b = 0) (hb : b.toInt + 1 = (N : Int)) : vp_in v N ∧ 0 < v.toInt := by
  have h1 := isIn_iff.mp h
  rw [show (1 : Int32).toInt = 1 from rfl] at h1
  exact ⟨vp_in_iff.mpr ⟨by omega, by omega⟩, by omega⟩
theorem InvX_newSat {σ : St} (hI : InvX σ) {p1 p2 : Int32} (hf : ¬ σ 37 0 = 10) (h1 : 0 < p1.toInt) : InvX (newSat σ p1 p2) := by
  have hv := vp1 (N := 10) (hI.1 37 0) (by decide) hf
  have cc : ∀ k, k ≠ 37 → k ≠ 38 → k ≠ 39 → newSat σ p1 p2 k = σ k := fun k => newSat_c
  obtain ⟨i1, i2, i3, i4, i5, i6⟩ := hI
  refine ⟨Inv_sC (Inv_sS (Inv_sS i1 trivial) trivial) hv, ?_, ?_, ?_, ?_, ?_⟩
  · rw [cc 13 (by decide) (by decide) (by decide), cc 14 (by decide) (by decide) (by decide), cc 8 (by decide) (by decide) (by decide)]; exact i2
  · intro j hj
    have e : ix (newSat σ p1 p2 37 0) = ix (σ 37 0) + 1 := by
      rw [show newSat σ p1 p2 37 0 = σ 37 0 + 1 from sC_same ..]
      exact cnt1 (N := 10) (i1 37 0) (by decide)
    rw [e] at hj
    have e38 : newSat σ p1 p2 38 j = sS σ 38 (ix (σ 37 0)) p1 38 j := by
      unfold newSat
      rw [sC_col (by decide), sS_col (by decide)]
    rw [e38]
    by_cases w : j = ix (σ 37 0)
    · rw [w, sS_same]; exact h1
    · rw [sS_ne (fun _ => w)]; exact i3 j (by omega)
  · rw [cc 13 (by decide) (by decide) (by decide), cc 19 (by decide) (by decide) (by decide), cc 22 (by decide) (by decide) (by decide), cc 23 (by decide) (by decide) (by decide), cc 24 (by decide) (by decide) (by decide)]; exact i4
  · rw [cc 8 (by decide) (by decide) (by decide), cc 11 (by decide) (by decide) (by decide), cc 12 (by decide) (by decide) (by decide)]; exact i5
  · rw [cc 26 (by decide) (by decide) (by decide), cc 30 (by decide) (by decide) (by decide), cc 31 (by decide) (by decide) (by decide)]; exact i6
theorem newVil_c {σ : St} {p1 p2 : Int32} {k : Nat} (a : k ≠ 8) (b : k ≠ 9) (c : k ≠ 10) : newVil σ p1 p2 k = σ k := by
  unfold newVil
  rw [sC_col a, sS_col c, sS_col b]
theorem newMet_c {σ : St} {p1 p2 p3 : Int32} {k : Nat} (a : k < 26 ∨ 29 < k) : newMet σ p1 p2 p3 k = σ k := by
  unfold newMet
  rw [sC_col (by omega), sS_col (by omega), sS_col (by omega), sS_col (by omega)]
theorem InvX_newVil {σ : St} (hI : InvX σ) {p1 p2 : Int32} (hf : ¬ σ 8 0 = 5) (h1 : vp_in p1 501) : InvX (newVil σ p1 p2) := by
  have hv := vp1 (N := 5) (hI.1 8 0) (by decide) hf
  have cc : ∀ k, k ≠ 8 → k ≠ 9 → k ≠ 10 → newVil σ p1 p2 k = σ k := fun k => newVil_c
  have e : ix (newVil σ p1 p2 8 0) = ix (σ 8 0) + 1 := by
    rw [show newVil σ p1 p2 8 0 = σ 8 0 + 1 from sC_same ..]
    exact cnt1 (N := 5) (hI.1 8 0) (by decide)
  obtain ⟨i1, i2, i3, i4, i5, i6⟩ := hI
  refine ⟨Inv_sC (Inv_sS (Inv_sS i1 h1) trivial) hv, ?_, ?_, ?_, ?_, ?_⟩
  · rw [cc 13 (by decide) (by decide) (by decide), cc 14 (by decide) (by decide) (by decide), e]
    intro i hi
    have := i2 i hi
    omega
  · rw [cc 37 (by decide) (by decide) (by decide), cc 38 (by decide) (by decide) (by decide)]; exact i3
  · rw [cc 13 (by decide) (by decide) (by decide), cc 19 (by decide) (by decide) (by decide), cc 22 (by decide) (by decide) (by decide), cc 23 (by decide) (by decide) (by decide), cc 24 (by decide) (by decide) (by decide)]; exact i4
  · rw [e, cc 11 (by decide) (by decide) (by decide), cc 12 (by decide) (by decide) (by decide)]
    intro j hj
    exact i5 j (by omega)
  · rw [cc 26 (by decide) (by decide) (by decide), cc 30 (by decide) (by decide) (by decide), cc 31 (by decide) (by decide) (by decide)]; exact i6
theorem InvX_newMet {σ : St} (hI : InvX σ) {p1 p2 p3 : Int32} (hf : ¬ σ 26 0 = 8) (h1 : vp_in p1 64) : InvX (newMet σ p1 p2 p3) := by
  have hv := vp1 (N := 8) (hI.1 26 0) (by decide) hf
  have cc : ∀ k, k < 26 ∨ 29 < k → newMet σ p1 p2 p3 k = σ k := fun k => newMet_c
  have e : ix (newMet σ p1 p2 p3 26 0) = ix (σ 26 0) + 1 := by
    rw [show newMet σ p1 p2 p3 26 0 = σ 26 0 + 1 from sC_same ..]
    exact cnt1 (N := 8) (hI.1 26 0) (by decide)
  obtain ⟨i1, i2, i3, i4, i5, i6⟩ := hI
  refine ⟨Inv_sC (Inv_sS (Inv_sS (Inv_sS i1 h1) trivial) trivial) hv, ?_, ?_, ?_, ?_, ?_⟩
  · rw [cc 13 (by decide), cc 14 (by decide), cc 8 (by decide)]; exact i2
  · rw [cc 37 (by decide), cc 38 (by decide)]; exact i3
  · rw [cc 13 (by decide), cc 19 (by decide), cc 22 (by decide), cc 23 (by decide), cc 24 (by decide)]; exact i4
  · rw [cc 8 (by decide), cc 11 (by decide), cc 12 (by decide)]; exact i5
  · rw [e, cc 30 (by decide), cc 31 (by decide)]
    intro j hj
    exact i6 j (by omega)
theorem InvX_newLamp {σ : St} (hI : InvX σ) {p1 p2 p3 p4 p5 : Int32} (hf : ¬ σ 13 0 = 40) (h1 : vp_in p1 (ix (σ 8 0))) (h2 : vp_in p2 64) (h3 : vp_in p3 10001) (h4 : vp_in p4 3) (h5 : vp_in p5 11) : InvX (newLamp σ p1 p2 p3 p4 p5) := by
  have hv := vp1 (N := 40) (hI.1 13 0) (by decide) hf
  have hvs := IX_villages hI
  have cc : ∀ k, k < 13 ∨ 25 < k → newLamp σ p1 p2 p3 p4 p5 k = σ k := fun k => newLamp_c
  have ck : ∀ k, k = 19 ∨ k = 22 ∨ k = 23 ∨ k = 24 → newLamp σ p1 p2 p3 p4 p5 k = σ k := fun k => newLamp_k
  have e : ix (newLamp σ p1 p2 p3 p4 p5 13 0) = ix (σ 13 0) + 1 := by
    rw [newLamp_13]
    exact cnt1 (N := 40) (hI.1 13 0) (by decide)
  obtain ⟨i1, i2, i3, i4, i5, i6⟩ := hI
  refine ⟨Inv_sC (Inv_sS (Inv_sS (Inv_sS (Inv_sS (Inv_sS (Inv_sS (Inv_sS (Inv_sS i1 (vp_up h1 hvs)) h2) h3) h4) h5) (by show vp_in 18 24; exact vp_in_iff.mpr ⟨by decide, by decide⟩)) (by show vp_in 6 24; exact vp_in_iff.mpr ⟨by decide, by decide⟩)) (Or.inl rfl)) hv, ?_, ?_, ?_, ?_, ?_⟩
  · rw [e, cc 8 (by decide)]
    intro i hi
    by_cases w : i = ix (σ 13 0)
    · rw [w, newLamp_14]
      exact vp_lt h1
    · rw [newLamp_i (by decide) w]
      exact i2 i (by omega)
  · rw [cc 37 (by decide), cc 38 (by decide)]; exact i3
  · rw [e, ck 19 (by omega), ck 22 (by omega), ck 23 (by omega), ck 24 (by omega)]
    intro j hj
    exact i4 j (by omega)
  · rw [cc 8 (by decide), cc 11 (by decide), cc 12 (by decide)]; exact i5
  · rw [cc 26 (by decide), cc 30 (by decide), cc 31 (by decide)]; exact i6
theorem oN_cong {f g : Nat → Int32} {v : Int32} : ∀ n, (∀ k, k < n → f k = g k) → oN f v n = oN g v n := by
  intro n
  induction n with
  | zero => intro _; rfl
  | succ n ih =>
    intro h
    show oN f v n + (if f n = v then 1 else 0) = oN g v n + (if g n = v then 1 else 0)
    rw [ih (fun k hk => h k (by omega)), h n (by omega)]
theorem InvO_newLamp {σ : St} (hI : InvX σ) (hO : InvO σ) {p1 p2 p3 p4 p5 : Int32} (hf : oN (σ 14) p1 (ix (σ 13 0)) < 10) : InvO (newLamp σ p1 p2 p3 p4 p5) := fun v => by
  have e : ix (newLamp σ p1 p2 p3 p4 p5 13 0) = ix (σ 13 0) + 1 := by
    rw [newLamp_13]
    exact cnt1 (N := 40) (hI.1 13 0) (by decide)
  rw [e]
  show oN (newLamp σ p1 p2 p3 p4 p5 14) v (ix (σ 13 0)) + (if newLamp σ p1 p2 p3 p4 p5 14 (ix (σ 13 0)) = v then 1 else 0) ≤ 10
  rw [newLamp_14, oN_cong (g := σ 14) _ (fun k hk => newLamp_i (by decide) (by omega))]
  by_cases w : p1 = v
  · rw [if_pos w, ← w]
    omega
  · rw [if_neg w]
    exact hO v
theorem Q_village {σ : St} (hI : InvX σ) (hO : InvO σ) (p1 p2 : Int32) : EQ σ (X_village_c σ p1 p2) (X_village σ p1 p2) (X_village_s σ p1 p2) (M_village σ p1 p2) (M_village_s σ p1 p2) 0 1 2 ∧ InvX (X_village_s σ p1 p2) ∧ InvO (X_village_s σ p1 p2) := by
  unfold X_village_c X_village X_village_s M_village M_village_s X_village_j24
  by_cases a : M_isIn p1 1 500 = 0
  · have hj : M_village_j30 σ p1 p2 = 1 := by
      unfold M_village_j30 M_village_j8
      rw [if_pos a, if_pos rfl]
    rw [hj]
    repeat rw [if_pos a]
    repeat rw [if_neg (nf1 σ)]
    exact ⟨EQ.f2 rfl (sEq.f σ 1), hI, hO⟩
  repeat rw [if_neg a]
  by_cases b : M_isIn p2 0 10000 = 0
  · have hj : M_village_j30 σ p1 p2 = 1 := by
      unfold M_village_j30 M_village_j8
      rw [if_neg a, if_pos b, if_pos rfl]
    rw [hj]
    repeat rw [if_pos b]
    repeat rw [if_neg (nf1 σ)]
    exact ⟨EQ.f2 rfl (sEq.f σ 1), hI, hO⟩
  repeat rw [if_neg b]
  have hfull := full_iff (σ := σ) (k := 8) (N := 5) (K := 5) (hI.1 8 0) (by decide) rfl
  by_cases c : σ 8 0 = 5
  · have hj : M_village_j30 σ p1 p2 = 2 := by
      unfold M_village_j30 M_village_j8
      rw [if_neg a, if_neg b, if_neg i10, if_pos c]
    rw [hj]
    repeat rw [if_pos (show (5 : Int32) ≤ nI (xL σ 2) from hfull.mpr c)]
    repeat rw [if_pos rfl]
    repeat rw [if_neg (nf2 σ)]
    exact ⟨EQ.f3 rfl (sEq.f σ 2), hI, hO⟩
  · have hj : M_village_j30 σ p1 p2 = 0 := by
      unfold M_village_j30 M_village_j8
      rw [if_neg a, if_neg b, if_neg i10, if_neg c]
    rw [hj]
    repeat rw [if_neg (show ¬ (5 : Int32) ≤ nI (xL σ 2) from fun z => c (hfull.mp z))]
    repeat rw [if_neg i10]
    repeat rw [if_pos (fails_0 σ)]
    simp (disch := decide) only [sS_col, sC_same, fcol]
    refine ⟨EQ.ok rfl (Int32.add_sub_cancel _ _) ?_, InvX_newVil hI c (rng1 (N := 501) a (by decide)).1, InvO_ext hO (newVil_c (by decide) (by decide) (by decide)) (newVil_c (by decide) (by decide) (by decide))⟩
    exact (((sEq.f σ 0).S _ _ _).S _ _ _).C _ _
theorem Q_meter {σ : St} (hI : InvX σ) (hO : InvO σ) (p1 p2 p3 : Int32) : EQ σ (X_meter_c σ p1 p2 p3) (X_meter σ p1 p2 p3) (X_meter_s σ p1 p2 p3) (M_meter σ p1 p2 p3) (M_meter_s σ p1 p2 p3) 1 2 3 ∧ InvX (X_meter_s σ p1 p2 p3) ∧ InvO (X_meter_s σ p1 p2 p3) := by
  unfold X_meter_c X_meter X_meter_s M_meter M_meter_s X_meter_j31
  by_cases p : vp_in p1 64
  · repeat rw [if_pos p]
    have hp : ¬ M_isPlace p1 = 0 := fun z => place_iff.mp z p
    by_cases a : M_isIn p2 (-50) 50 = 0
    · have hj : M_meter_j33 σ p1 p2 p3 = 2 := by
        unfold M_meter_j33 M_meter_j8
        rw [if_neg hp, if_pos a, if_pos rfl]
      rw [hj]
      repeat rw [if_pos a]
      repeat rw [if_neg (nf2 σ)]
      exact ⟨EQ.f2 rfl (sEq.f σ 2), hI, hO⟩
    repeat rw [if_neg a]
    by_cases b : M_isIn p3 (-3) 3 = 0
    · have hj : M_meter_j33 σ p1 p2 p3 = 2 := by
        unfold M_meter_j33 M_meter_j8
        rw [if_neg hp, if_neg a, if_pos b, if_pos rfl]
      rw [hj]
      repeat rw [if_pos b]
      repeat rw [if_neg (nf2 σ)]
      exact ⟨EQ.f2 rfl (sEq.f σ 2), hI, hO⟩
    repeat rw [if_neg b]
    have hfull := full_iff (σ := σ) (k := 26) (N := 8) (K := 8) (hI.1 26 0) (by decide) rfl
    by_cases c : σ 26 0 = 8
    · have hj : M_meter_j33 σ p1 p2 p3 = 3 := by
        unfold M_meter_j33 M_meter_j8
        rw [if_neg hp, if_neg a, if_neg b, if_neg i10, if_pos c]
      rw [hj]
      repeat rw [if_pos (show (8 : Int32) ≤ nI (xL σ 4) from hfull.mpr c)]
      repeat rw [if_pos rfl]
      repeat rw [if_neg (nf3 σ)]
      exact ⟨EQ.f3 rfl (sEq.f σ 3), hI, hO⟩
    · have hj : M_meter_j33 σ p1 p2 p3 = 0 := by
        unfold M_meter_j33 M_meter_j8
        rw [if_neg hp, if_neg a, if_neg b, if_neg i10, if_neg c]
      rw [hj]
      repeat rw [if_neg (show ¬ (8 : Int32) ≤ nI (xL σ 4) from fun z => c (hfull.mp z))]
      repeat rw [if_neg i10]
      repeat rw [if_pos (fails_0 σ)]
      simp (disch := decide) only [sS_col, sC_same, fcol]
      refine ⟨EQ.ok rfl (Int32.add_sub_cancel _ _) ?_, InvX_newMet hI c p, InvO_ext hO (newMet_c (by decide)) (newMet_c (by decide))⟩
      exact ((((sEq.f σ 0).S _ _ _).S _ _ _).S _ _ _).C _ _
  · have hj : M_meter_j33 σ p1 p2 p3 = 1 := by
      unfold M_meter_j33
      rw [if_pos (place_iff.mpr p)]
    rw [hj]
    repeat rw [if_neg p]
    repeat rw [if_neg (nf1 σ)]
    exact ⟨EQ.f1 rfl (sEq.f σ 1), hI, hO⟩
theorem Q_lamp {σ : St} (hI : InvX σ) (hO : InvO σ) (p1 p2 p3 p4 p5 : Int32) : EQ σ (X_lamp_c σ p1 p2 p3 p4 p5) (X_lamp σ p1 p2 p3 p4 p5) (X_lamp_s σ p1 p2 p3 p4 p5) (M_lamp σ p1 p2 p3 p4 p5) (M_lamp_s σ p1 p2 p3 p4 p5) 1 2 3 ∧ InvX (X_lamp_s σ p1 p2 p3 p4 p5) ∧ InvO (X_lamp_s σ p1 p2 p3 p4 p5) := by
  unfold X_lamp_c X_lamp X_lamp_s M_lamp M_lamp_s X_lamp_j46
  by_cases v : vp_in p1 (ix (σ 8 0))
  · repeat rw [if_pos v]
    by_cases p : vp_in p2 64
    · repeat rw [if_pos p]
      have j44 : M_lamp_j44 σ p1 p2 p3 p4 p5 = 1 := by
        unfold M_lamp_j44
        rw [if_neg (fun z => (village_iff hI).mp z v), if_neg (fun z => place_iff.mp z p)]
      by_cases a : M_isIn p3 1 10000 = 0
      · have hj : M_lamp_j64 σ p1 p2 p3 p4 p5 = 2 := by
          unfold M_lamp_j64 M_lamp_j8
          rw [j44, if_neg i10, if_pos a, if_pos rfl]
        rw [hj]
        repeat rw [if_pos a]
        repeat rw [if_neg (nf2 σ)]
        exact ⟨EQ.f2 rfl (sEq.f σ 2), hI, hO⟩
      repeat rw [if_neg a]
      by_cases b : M_isIn p4 0 2 = 0
      · have hj : M_lamp_j64 σ p1 p2 p3 p4 p5 = 2 := by
          unfold M_lamp_j64 M_lamp_j8
          rw [j44, if_neg i10, if_neg a, if_pos b, if_pos rfl]
        rw [hj]
        repeat rw [if_pos b]
        repeat rw [if_neg (nf2 σ)]
        exact ⟨EQ.f2 rfl (sEq.f σ 2), hI, hO⟩
      repeat rw [if_neg b]
      by_cases c : M_isIn p5 0 10 = 0
      · have hj : M_lamp_j64 σ p1 p2 p3 p4 p5 = 2 := by
          unfold M_lamp_j64 M_lamp_j8
          rw [j44, if_neg i10, if_neg a, if_neg b, if_pos c, if_pos rfl]
        rw [hj]
        repeat rw [if_pos c]
        repeat rw [if_neg (nf2 σ)]
        exact ⟨EQ.f2 rfl (sEq.f σ 2), hI, hO⟩
      repeat rw [if_neg c]
      have hfull := full_iff (σ := σ) (k := 13) (N := 40) (K := 40) (hI.1 13 0) (by decide) rfl
      have j8 : M_lamp_j8 σ p1 p2 p3 p4 p5 = 1 := by
        unfold M_lamp_j8
        rw [if_neg a, if_neg b, if_neg c]
      by_cases d : σ 13 0 = 40
      · have hj : M_lamp_j64 σ p1 p2 p3 p4 p5 = 3 := by
          unfold M_lamp_j64
          rw [j44, if_neg i10, j8, if_neg i10, if_pos d]
        rw [hj]
        repeat rw [if_pos (show (40 : Int32) ≤ nI (xL σ 3) from hfull.mpr d)]
        repeat rw [if_pos rfl]
        repeat rw [if_neg (nf3 σ)]
        exact ⟨EQ.f3 rfl (sEq.f σ 3), hI, hO⟩
      repeat rw [if_neg (show ¬ (40 : Int32) ≤ nI (xL σ 3) from fun z => d (hfull.mp z))]
      have ep := vp_nI' v (by have := IX_villages hI; omega)
      have hcO : cntO (σ 14) (nI (ix p1)) (ix (σ 13 0)) = nI (oN (σ 14) p1 (ix (σ 13 0))) := by rw [← ep, cntO_nI]
      have hlo : M_lampsOf σ p1 = nI (oN (σ 14) p1 (ix (σ 13 0))) := by rw [lampsOf_eq hI, cntO_nI]
      have h10 := hO p1
      rw [hcO]
      by_cases e : oN (σ 14) p1 (ix (σ 13 0)) = 10
      · have hj : M_lamp_j64 σ p1 p2 p3 p4 p5 = 3 := by
          unfold M_lamp_j64
          rw [j44, if_neg i10, j8, if_neg i10, if_neg d, hlo, e]
          exact if_pos rfl
        rw [hj, e]
        repeat rw [if_pos (show (10 : Int32) ≤ nI 10 by decide)]
        repeat rw [if_pos rfl]
        repeat rw [if_neg (nf3 σ)]
        exact ⟨EQ.f3 rfl (sEq.f σ 3), hI, hO⟩
      · have hj : M_lamp_j64 σ p1 p2 p3 p4 p5 = 0 := by
          unfold M_lamp_j64
          rw [j44, if_neg i10, j8, if_neg i10, if_neg d, hlo, if_neg (fun z => e (by rw [← ixn (a := oN (σ 14) p1 (ix (σ 13 0))) (by omega), z]; rfl))]
        rw [hj]
        repeat rw [if_neg (show ¬ (10 : Int32) ≤ nI (oN (σ 14) p1 (ix (σ 13 0))) from fun z => absurd ((nI_leI (a := 10) (b := oN (σ 14) p1 (ix (σ 13 0))) (by omega) (by omega)).mp z) (by omega))]
        repeat rw [if_neg i10]
        repeat rw [if_pos (fails_0 σ)]
        simp (disch := decide) only [sS_col, sC_same, fcol]
        refine ⟨EQ.ok rfl (Int32.add_sub_cancel _ _) ?_, InvX_newLamp hI d v p (rng1 (N := 10001) a (by decide)).1 (rng (N := 3) b (by decide)) (rng (N := 11) c (by decide)), InvO_newLamp hI hO (by omega)⟩
        exact (((((((((sEq.f σ 0).S _ _ _).S _ _ _).S _ _ _).S _ _ _).S _ _ _).S _ _ _).S _ _ _).S _ _ _).C _ _
    · have hj : M_lamp_j64 σ p1 p2 p3 p4 p5 = 1 := by
        unfold M_lamp_j64 M_lamp_j44
        rw [if_neg (fun z => (village_iff hI).mp z v), if_pos (place_iff.mpr p), if_pos rfl]
      rw [hj]
      repeat rw [if_neg p]
      repeat rw [if_neg (nf1 σ)]
      exact ⟨EQ.f1 rfl (sEq.f σ 1), hI, hO⟩
  · have hj : M_lamp_j64 σ p1 p2 p3 p4 p5 = 1 := by
      unfold M_lamp_j64 M_lamp_j44
      rw [if_pos ((village_iff hI).mpr v), if_pos rfl]
    rw [hj]
    repeat rw [if_neg v]
    repeat rw [if_neg (nf1 σ)]
    exact ⟨EQ.f1 rfl (sEq.f σ 1), hI, hO⟩
end
