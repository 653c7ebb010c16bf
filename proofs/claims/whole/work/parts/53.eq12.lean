noncomputable section
theorem night_iff (h : Int32) : X_isNight h = 0 ↔ ¬ M_isIn h 6 17 = 0 := by
  unfold X_isNight X_isNight_j3 M_isIn M_isIn_j2
  have e17 : (17 : Int32).toInt = 17 := rfl
  have e18 : (18 : Int32).toInt = 18 := rfl
  by_cases c : h < 6
  · rw [if_pos c, if_neg (fun z => not_lt32.mpr z c)]
    have : ¬ (18 : Int32) ≤ h := by
      rw [Int32.lt_iff_toInt_lt, show (6 : Int32).toInt = 6 from rfl] at c
      rw [Int32.le_iff_toInt_le, e18]
      omega
    rw [if_neg this]
    exact ⟨fun z => absurd z i10, fun z => absurd rfl z⟩
  · rw [if_neg c, if_pos (not_lt32.mp c)]
    by_cases d : (17 : Int32) < h
    · rw [if_pos d]
      have : (18 : Int32) ≤ h := by
        rw [Int32.lt_iff_toInt_lt, e17] at d
        rw [Int32.le_iff_toInt_le, e18]
        omega
      rw [if_pos this]
      exact ⟨fun z => absurd z i10, fun z => absurd rfl z⟩
    · rw [if_neg d]
      have : ¬ (18 : Int32) ≤ h := by
        rw [Int32.lt_iff_toInt_lt, e17] at d
        rw [Int32.le_iff_toInt_le, e18]
        omega
      rw [if_neg this]
      exact ⟨fun _ => i10, fun _ => rfl⟩
theorem moon_eq (v : Int32) : X_moonAt v = M_moon v := by
  unfold X_moonAt X_moonAt_j15 M_moon M_moon_j13
  rw [size_abs]
  by_cases c : X_isNight (v - v / 24 * 24) = 0
  · rw [if_pos c, if_neg ((night_iff _).mp c)]
  · rw [if_neg c, if_pos (Classical.byContradiction fun z => c ((night_iff _).mpr z))]
theorem X_passesAt_sh (σ : St) (w : Int32) : ∀ n k a b, X_passesAt_L4 σ w (fun a => a) n k (a + b) = a + X_passesAt_L4 σ w (fun a => a) n k b := by
  intro n
  induction n with
  | zero => intro k a b; rw [X_passesAt_L4, X_passesAt_L4]
  | succ n ih =>
    intro k a b
    rw [X_passesAt_L4, X_passesAt_L4]
    unfold X_passesAt_j30l2
    by_cases c : X_isOver σ (ix (nI k)) w = 0
    · rw [if_pos c, if_pos c, ih]
    · rw [if_neg c, if_neg c, Int32.add_assoc, ih]
theorem tr63_K (σ : St) (p1 p2 : Int32) (w : Nat) (b : Int32) (K : Int32 → Int32) : ∀ n k a, M_trails_L63 σ p1 p2 w b K n k a = K (M_trails_L63 σ p1 p2 w b (fun a => a) n k a) := by
  intro n
  induction n with
  | zero => intro k a; rw [M_trails_L63, M_trails_L63]
  | succ n ih => intro k a; rw [M_trails_L63, M_trails_L63, ih]
theorem tr63_s (σ : St) (p1 p2 : Int32) (w : Nat) (b : Int32) (v : St) : ∀ n k a, M_trails_L63_s σ p1 p2 w b (fun _ => v) n k a = v := by
  intro n
  induction n with
  | zero => intro k a; rw [M_trails_L63_s]
  | succ n ih => intro k a; rw [M_trails_L63_s, ih]
theorem tr52_s (σ : St) (p1 p2 : Int32) (v : St) : ∀ n k a, M_trails_L52_s σ p1 p2 (fun _ => v) n k a = v := by
  intro n
  induction n with
  | zero => intro k a; rw [M_trails_L52_s]
  | succ n ih =>
    intro k a
    rw [M_trails_L52_s, show (fun a63_4 => M_trails_L52_s σ p1 p2 (fun _ => v) n (k + 1) a63_4) = fun _ => v from funext fun q => ih _ _, tr63_s]
theorem tr63_eq {σ : St} (hI : InvX σ) {p1 p2 : Int32} (hj : M_trails_j30 σ p1 p2 = 0) (w : Nat) (b : Int32) : ∀ n k, k + n = ix (σ 37 0) → ∀ a, M_trails_L63 σ p1 p2 w b (fun a => a) n k a = (if X_isNight (nI w - nI w / 24 * 24) = 0 then a else X_passesAt_L4 σ (nI w) (fun a => a) n k a) := by
  intro n
  induction n with
  | zero =>
    intro k _ a
    rw [M_trails_L63, X_passesAt_L4]
    by_cases c : X_isNight (nI w - nI w / 24 * 24) = 0
    · rw [if_pos c]
    · rw [if_neg c]
  | succ n ih =>
    intro k hk a
    rw [M_trails_L63, X_passesAt_L4, ih (k + 1) (by omega)]
    unfold M_trails_j91
    rw [hj]
    by_cases c : X_isNight (nI w - nI w / 24 * 24) = 0
    · rw [if_pos c, if_pos c, if_neg ((night_iff _).mp c)]
      split <;> exact Int32.add_zero a
    · rw [if_neg c, if_neg c, if_pos (Classical.byContradiction fun z => c ((night_iff _).mpr z))]
      congr 1
      unfold X_passesAt_j30l2 X_isOver X_isOver_j4
      have hs := IX_sats hI
      have h0 := hI.2.2.1 k (by omega)
      rw [ixn (by omega), if_neg (show ¬ σ 38 k ≤ 0 from fun z => by rw [Int32.le_iff_toInt_le, Int32.toInt_zero] at z; omega)]
      by_cases q : nI w - nI w / σ 38 k * σ 38 k = σ 39 k
      · rw [if_pos q, if_neg i10]
        exact congrArg (a + ·) (if_pos q)
      · rw [if_neg q, if_pos rfl]
        exact (congrArg (a + ·) (if_neg q)).trans (Int32.add_zero a)
theorem tr52_eq {σ : St} (hI : InvX σ) {p1 p2 : Int32} (hj : M_trails_j30 σ p1 p2 = 0) : ∀ n k a, M_trails_L52 σ p1 p2 (fun a => a) n k a = X_trails_L21 σ p1 p2 (fun a => a) n k a := by
  intro n
  induction n with
  | zero => intro k a; rw [M_trails_L52, X_trails_L21]
  | succ n ih =>
    intro k a
    rw [M_trails_L52, X_trails_L21, tr63_K, ih, tr63_eq hI hj k a _ 0 (Nat.zero_add _)]
    congr 1
    unfold X_trails_j37l3 X_passesAt
    by_cases c : X_isNight (nI k - nI k / 24 * 24) = 0
    · rw [if_pos c, if_pos c]
    · rw [if_neg c, if_neg c, ← X_passesAt_sh, Int32.add_zero]
      rfl
theorem X_trails_L21_s_k (σ : St) (p1 p2 : Int32) (v : St) : ∀ n k a0, X_trails_L21_s σ p1 p2 (fun _ => v) n k a0 = v := by
  intro n
  induction n with
  | zero => intro k a0; rw [X_trails_L21_s]
  | succ n ih => intro k a0; rw [X_trails_L21_s]; exact ih _ _
theorem X_trails_L21_c_k (σ : St) (p1 p2 : Int32) (v : Int32) : ∀ n k a0, X_trails_L21_c σ p1 p2 (fun _ => v) n k a0 = v := by
  intro n
  induction n with
  | zero => intro k a0; rw [X_trails_L21_c]
  | succ n ih => intro k a0; rw [X_trails_L21_c]; exact ih _ _
theorem Q_trails {σ : St} (hI : InvX σ) (p1 p2 : Int32) : EQ σ (X_trails_c σ p1 p2) (X_trails σ p1 p2) (X_trails_s σ p1 p2) (M_trails σ p1 p2) (M_trails_s σ p1 p2) 0 1 0 := by
  unfold X_trails_c X_trails X_trails_s M_trails M_trails_s
  by_cases c : M_isIn p1 (0 : Int32) (20000 : Int32) = 0
  · have hj : M_trails_j30 σ p1 p2 = 1 := by
      unfold M_trails_j30 M_trails_j8
      rw [if_pos c, if_pos rfl]
    rw [hj]
    repeat rw [if_pos c]
    repeat rw [if_neg (nf1 σ)]
    exact EQ.f2 rfl (sEq.f σ 1)
  repeat rw [if_neg c]
  by_cases e : M_isIn p2 (1 : Int32) (500 : Int32) = 0
  · have hj : M_trails_j30 σ p1 p2 = 1 := by
      unfold M_trails_j30 M_trails_j8
      rw [if_neg c, if_pos e, if_pos rfl]
    rw [hj]
    repeat rw [if_pos e]
    repeat rw [if_neg (nf1 σ)]
    exact EQ.f2 rfl (sEq.f σ 1)
  repeat rw [if_neg e]
  have hj : M_trails_j30 σ p1 p2 = 0 := by
    unfold M_trails_j30 M_trails_j8
    rw [if_neg c, if_neg e, if_neg i10]
  rw [tr52_s, tr52_eq hI hj, X_trails_L21_s_k, X_trails_L21_c_k, hj]
  repeat rw [if_pos (fails_0 σ)]
  exact EQ.ok rfl rfl (sEq.f σ 0)
theorem read_iff {σ : St} (hI : InvX σ) {p v : Int32} : M_isIn v 0 (σ 31 (ix p) - 1) = 0 ↔ ¬ vp_in v (ix (σ 31 (ix p))) := in0_iff (cntm1 (N := 10) (hI.1 31 (ix p)) (by decide))
theorem rix {m r : Int32} (hm : vp_in m 8) (hr : vp_in r 10) : ix (10 * m + r) = 10 * ix m + ix r := by
  have h1 := vp_lt hm
  have h2 := vp_lt hr
  have e : (10 : Int32) * m + r = nI (10 * ix m + ix r) := by
    rw [← nI_add, ← pk_mul, ← vp_nI' hm (by decide), ← vp_nI' hr (by decide)]
    rfl
  rw [e, ixn (by omega)]
theorem corr_eq {σ : St} {m r : Int32} (hm : vp_in m 8) (hr : vp_in r 10) : X_corrected σ (ix m) (10 * ix m + ix r) = M_corrected σ m r := by
  unfold X_corrected M_corrected
  rw [rix hm hr, moon_eq]
theorem Q_ofReading {σ : St} (hI : InvX σ) (p1 p2 p3 : Int32) : EQ σ (X_ofReading_c σ p1 p2 p3) (X_ofReading σ p1 p2 p3) (X_ofReading_s σ p1 p2 p3) (M_ofReading σ p1 p2 p3) (M_ofReading_s σ p1 p2 p3) 1 2 0 := by
  unfold X_ofReading_c X_ofReading X_ofReading_s M_ofReading M_ofReading_s M_ofReading_j64
  have hms := IX_meters hI
  by_cases c : vp_in p1 (ix (σ 26 0))
  · repeat rw [if_pos c]
    by_cases d : vp_in p2 (xL σ (ix p1 + 6))
    · repeat rw [if_pos d]
      have hr := IX_reads hI (ix p1)
      have j5 : M_ofReading_j5 σ p1 p2 p3 = 1 := by
        unfold M_ofReading_j5
        rw [if_neg (fun z => (meter_iff hI).mp z c), if_neg (fun z => (read_iff hI).mp z d)]
      by_cases e : M_isIn p3 (0 : Int32) (2 : Int32) = 0
      · have hj : M_ofReading_j34 σ p1 p2 p3 = 2 := by
          unfold M_ofReading_j34
          rw [j5, if_neg i10, if_pos e]
        rw [hj]
        repeat rw [if_pos e]
        repeat rw [if_neg (nf2 σ)]
        exact EQ.f2 rfl (sEq.f σ 2)
      · have hj : M_ofReading_j34 σ p1 p2 p3 = 0 := by
          unfold M_ofReading_j34
          rw [j5, if_neg i10, if_neg e]
        have d' : vp_in p2 10 := vp_up d hr
        have c' : vp_in p1 8 := vp_up c hms
        rw [hj, corr_eq c' d']
        repeat rw [if_neg e]
        repeat rw [if_pos (fails_0 σ)]
        by_cases q0 : p3 = 0
        · repeat rw [if_pos q0]
          refine EQ.ok rfl ?_ (sEq.f σ 0)
          rw [rix c' d']
          rfl
        repeat rw [if_neg q0]
        by_cases q1 : p3 = 1
        · repeat rw [if_pos q1]
          refine EQ.ok rfl ?_ (sEq.f σ 0)
          rw [rix c' d']
          rfl
        repeat rw [if_neg q1]
        exact EQ.ok rfl rfl (sEq.f σ 0)
    · have hj : M_ofReading_j34 σ p1 p2 p3 = 1 := by
        unfold M_ofReading_j34 M_ofReading_j5
        rw [if_neg (fun z => (meter_iff hI).mp z c), if_pos ((read_iff hI).mpr d), if_pos rfl]
      rw [hj]
      repeat rw [if_neg d]
      repeat rw [if_neg (nf1 σ)]
      exact EQ.f1 rfl (sEq.f σ 1)
  · have hj : M_ofReading_j34 σ p1 p2 p3 = 1 := by
      unfold M_ofReading_j34 M_ofReading_j5
      rw [if_pos ((meter_iff hI).mpr c), if_pos rfl]
    rw [hj]
    repeat rw [if_neg c]
    repeat rw [if_neg (nf1 σ)]
    exact EQ.f1 rfl (sEq.f σ 1)
end
