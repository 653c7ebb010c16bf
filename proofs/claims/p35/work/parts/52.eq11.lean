noncomputable section
theorem bound_eq {σ : St} (hI : InvX σ) (p : Int32) : X_boundHours σ (ix p) (σ 0 0) = (if M_isBound σ p = 0 then (0 : Int32) else σ 24 (ix p) - σ 0 0) := by
  unfold M_isBound M_isBound_j10
  by_cases c : σ 24 (ix p) ≤ σ 0 0
  · rw [if_pos c, if_pos rfl]
    exact (bound_iff hI _).mpr c
  · rw [if_neg c, if_neg i10]
    have h := fun z => c ((bound_iff hI _).mp z)
    unfold X_boundHours iMax at *
    by_cases w : σ 24 (ix p) - σ 0 0 < 0
    · rw [if_pos w] at h
      exact absurd rfl h
    · rw [if_neg w]
theorem Q_ofLamp {σ : St} (hI : InvX σ) (p1 p2 : Int32) : EQ σ (X_ofLamp_c σ p1 p2) (X_ofLamp σ p1 p2) (X_ofLamp_s σ p1 p2) (M_ofLamp σ p1 p2) (M_ofLamp_s σ p1 p2) 1 2 0 := by
  unfold X_ofLamp_c X_ofLamp X_ofLamp_s M_ofLamp M_ofLamp_s M_ofLamp_j146 M_ofLamp_j122 M_ofLamp_j81
  by_cases c : vp_in p1 (ix (σ 13 0))
  · repeat rw [if_pos c]
    by_cases e : M_isIn p2 (0 : Int32) (6 : Int32) = 0
    · have hj : M_ofLamp_j6 σ p1 p2 = 2 := by
        unfold M_ofLamp_j6
        rw [if_neg (fun z => (lamp_iff hI).mp z c), if_pos e]
      rw [hj]
      repeat rw [if_pos e]
      repeat rw [if_neg (nf2 σ)]
      exact EQ.f2 rfl (sEq.f σ 2)
    · have hj : M_ofLamp_j6 σ p1 p2 = 0 := by
        unfold M_ofLamp_j6
        rw [if_neg (fun z => (lamp_iff hI).mp z c), if_neg e]
      rw [hj]
      repeat rw [if_neg e]
      repeat rw [if_pos (fails_0 σ)]
      by_cases q0 : p2 = 0
      · repeat rw [if_pos q0]
        refine EQ.ok rfl ?_ (sEq.f σ 0)
        unfold X_ofLamp_j57
        rw [burns41, burns_eq hI]
      repeat rw [if_neg q0]
      by_cases q1 : p2 = 1
      · repeat rw [if_pos q1]
        exact EQ.ok rfl (light_eq σ p1).symm (sEq.f σ 0)
      repeat rw [if_neg q1]
      by_cases q2 : p2 = 2
      · repeat rw [if_pos q2]
        exact EQ.ok rfl rfl (sEq.f σ 0)
      repeat rw [if_neg q2]
      by_cases q3 : p2 = 3
      · repeat rw [if_pos q3]
        exact EQ.ok rfl rfl (sEq.f σ 0)
      repeat rw [if_neg q3]
      by_cases q4 : p2 = 4
      · repeat rw [if_pos q4]
        exact EQ.ok rfl rfl (sEq.f σ 0)
      repeat rw [if_neg q4]
      by_cases q5 : p2 = 5
      · repeat rw [if_pos q5]
        exact EQ.ok rfl (bound_eq hI p1).symm (sEq.f σ 0)
      repeat rw [if_neg q5]
      exact EQ.ok rfl rfl (sEq.f σ 0)
  · have hj : M_ofLamp_j6 σ p1 p2 = 1 := by
      unfold M_ofLamp_j6
      rw [if_pos ((lamp_iff hI).mpr c)]
    rw [hj]
    repeat rw [if_neg c]
    repeat rw [if_neg (nf1 σ)]
    exact EQ.f1 rfl (sEq.f σ 1)
theorem lamps_cnt {σ : St} (p : Int32) : ∀ n k, k + n ≤ 40 → M_lampsOf_L4 σ p (fun a => a) n k (cntO (σ 14) p k) = cntO (σ 14) p (k + n) := by
  intro n
  induction n with
  | zero => intro k _; rw [M_lampsOf_L4]; rfl
  | succ n ih =>
    intro k hk
    rw [M_lampsOf_L4]
    have e : cntO (σ 14) p k + M_lampsOf_j20 σ p k (cntO (σ 14) p k) = cntO (σ 14) p (k + 1) := by
      unfold M_lampsOf_j20
      rw [ixn (by omega)]
      rfl
    rw [e, ih (k + 1) (by omega), show k + 1 + n = k + (n + 1) by omega]
theorem lampsOf_eq {σ : St} (hI : InvX σ) (p : Int32) : M_lampsOf σ p = cntO (σ 14) p (ix (σ 13 0)) := by
  have h := lamps_cnt (σ := σ) p (ix (σ 13 0)) 0 (by have := IX_lamps hI; omega)
  rw [Nat.zero_add] at h
  exact h
theorem own_iff {σ : St} (hI : InvX σ) {p1 : Int32} (c : vp_in p1 (ix (σ 8 0))) (k : Nat) : ix (σ 14 k) = ix p1 ↔ σ 14 k = p1 := by
  have hv := IX_villages hI
  constructor
  · intro z
    rw [vp_nI' (hI.1 14 k : vp_in (σ 14 k) 5) (by decide), vp_nI' c (by omega), z]
  · exact fun z => by rw [z]
theorem burning_eq {σ : St} (hI : InvX σ) {p1 p2 : Int32} (hj : M_ofVillage_j6 σ p1 p2 = 0) (c : vp_in p1 (ix (σ 8 0))) : ∀ n k a, M_ofVillage_L40 σ p1 p2 (fun a => a) n k a = X_burningLampsOf_L4 σ (ix p1) (fun a => a) n k a := by
  intro n
  induction n with
  | zero => intro k a; rw [M_ofVillage_L40, X_burningLampsOf_L4]
  | succ n ih =>
    intro k a
    rw [M_ofVillage_L40, X_burningLampsOf_L4, ih]
    congr 1
    unfold M_ofVillage_j58 X_burningLampsOf_j34l2
    rw [hj, burns41, burns_eq hI]
    have e := own_iff hI c (ix (nI k))
    by_cases q : σ 14 (ix (nI k)) = p1
    · rw [if_pos (e.mpr q), if_pos (show (M_fails_s σ 0) 14 (ix (nI k)) = p1 from q)]
      by_cases w : M_burns σ (nI k) = 0
      · rw [if_pos w, if_pos w, Int32.add_zero]
      · rw [if_neg w, if_neg w]
    · rw [if_neg (fun z => q (e.mp z)), if_neg (show ¬ (M_fails_s σ 0) 14 (ix (nI k)) = p1 from q), Int32.add_zero]
theorem ofV_K {σ : St} {p1 p2 : Int32} (K : Int32 → Int32) : ∀ n k a, M_ofVillage_L40 σ p1 p2 K n k a = K (M_ofVillage_L40 σ p1 p2 (fun a => a) n k a) := by
  intro n
  induction n with
  | zero => intro k a; rw [M_ofVillage_L40, M_ofVillage_L40]
  | succ n ih => intro k a; rw [M_ofVillage_L40, M_ofVillage_L40, ih]
theorem ofV_s {σ : St} {p1 p2 : Int32} (v : St) : ∀ n k a, M_ofVillage_L40_s σ p1 p2 (fun _ => v) n k a = v := by
  intro n
  induction n with
  | zero => intro k a; rw [M_ofVillage_L40_s]
  | succ n ih => intro k a; rw [M_ofVillage_L40_s, ih]
theorem lampsOf41 (σ : St) (w p : Int32) : M_lampsOf (M_fails_s σ w) p = M_lampsOf σ p := by
  have h : ∀ n k a, M_lampsOf_L4 (M_fails_s σ w) p (fun a => a) n k a = M_lampsOf_L4 σ p (fun a => a) n k a := by
    intro n
    induction n with
    | zero => intro k a; rw [M_lampsOf_L4, M_lampsOf_L4]
    | succ n ih => intro k a; rw [M_lampsOf_L4, M_lampsOf_L4, ih]; rfl
  exact h _ 0 0
theorem Q_ofVillage {σ : St} (hI : InvX σ) (p1 p2 : Int32) : EQ σ (X_ofVillage_c σ p1 p2) (X_ofVillage σ p1 p2) (X_ofVillage_s σ p1 p2) (M_ofVillage σ p1 p2) (M_ofVillage_s σ p1 p2) 1 2 0 := by
  unfold X_ofVillage_c X_ofVillage X_ofVillage_s M_ofVillage M_ofVillage_s
  by_cases c : vp_in p1 (ix (σ 8 0))
  · repeat rw [if_pos c]
    by_cases e : M_isIn p2 (0 : Int32) (3 : Int32) = 0
    · have hj : M_ofVillage_j6 σ p1 p2 = 2 := by
        unfold M_ofVillage_j6
        rw [if_neg (fun z => (village_iff hI).mp z c), if_pos e]
      rw [hj]
      repeat rw [if_pos e]
      repeat rw [if_neg (nf2 σ)]
      exact EQ.f2 rfl (sEq.f σ 2)
    · have hj : M_ofVillage_j6 σ p1 p2 = 0 := by
        unfold M_ofVillage_j6
        rw [if_neg (fun z => (village_iff hI).mp z c), if_neg e]
      rw [ofV_s, ofV_K, burning_eq hI hj c]
      unfold M_ofVillage_j84
      rw [hj]
      repeat rw [if_neg e]
      repeat rw [if_pos (fails_0 σ)]
      rw [lampsOf41, lampsOf_eq hI]
      by_cases q0 : p2 = 0
      · repeat rw [if_pos q0]
        exact EQ.ok rfl rfl (sEq.f σ 0)
      repeat rw [if_neg q0]
      by_cases q1 : p2 = 1
      · repeat rw [if_pos q1]
        refine EQ.ok rfl ?_ (sEq.f σ 0)
        rw [← vp_nI' c (by have := IX_villages hI; omega)]
      repeat rw [if_neg q1]
      by_cases q2 : p2 = 2
      · repeat rw [if_pos q2]
        exact EQ.ok rfl rfl (sEq.f σ 0)
      repeat rw [if_neg q2]
      exact EQ.ok rfl rfl (sEq.f σ 0)
  · have hj : M_ofVillage_j6 σ p1 p2 = 1 := by
      unfold M_ofVillage_j6
      rw [if_pos ((village_iff hI).mpr c)]
    rw [hj]
    repeat rw [if_neg c]
    repeat rw [if_neg (nf1 σ)]
    exact EQ.f1 rfl (sEq.f σ 1)
theorem pl_8 {p : Int32} (h : vp_in p 64) : p - p / 8 * 8 = nI (ix p % 8) ∧ p / 8 = nI (ix p / 8) := by
  have hp := vp_lt h
  have e := vp_nI' h (by decide)
  exact ⟨by rw [← rm8 (a := ix p) (by omega), ← e], by rw [← q8 (a := ix p) (by omega), ← e]⟩
theorem dir_eq {σ : St} (hI : InvX σ) {p1 p2 : Int32} (h2 : vp_in p2 64) : X_directionOf σ (ix p2) (ix (σ 15 (ix p1))) = M_direction σ p1 p2 := by
  obtain ⟨a1, a2⟩ := pl_8 h2
  obtain ⟨b1, b2⟩ := pl_8 (hI.1 15 (ix p1) : vp_in (σ 15 (ix p1)) 64)
  unfold M_direction M_direction_j51 X_directionOf X_directionOf_j52 X_directionOf_j42
  rw [a1, a2, b1, b2, size_abs, size_abs]
theorem weak_eq {σ : St} (hI : InvX σ) {p1 p2 : Int32} (h2 : vp_in p2 64) (v : Int32) : X_weakened v (nI (ix p2 % 8) - nI (ix (σ 15 (ix p1)) % 8)) (nI (ix p2 / 8) - nI (ix (σ 15 (ix p1)) / 8)) = v / M_distance σ p1 p2 := by
  obtain ⟨a1, a2⟩ := pl_8 h2
  obtain ⟨b1, b2⟩ := pl_8 (hI.1 15 (ix p1) : vp_in (σ 15 (ix p1)) 64)
  have hp := vp_lt h2
  have hl := vp_lt (hI.1 15 (ix p1) : vp_in (σ 15 (ix p1)) 64)
  unfold M_distance
  rw [a1, a2, b1, b2]
  unfold X_weakened X_weakened_j11
  rw [if_neg (spread (by omega) (by omega) (by omega) (by omega))]
theorem X_glowFrom_L18_s_k (σ : St) (p1 p2 : Int32) (v : St) : ∀ n k a0, X_glowFrom_L18_s σ p1 p2 (fun _ => v) n k a0 = v := by
  intro n
  induction n with
  | zero => intro k a0; rw [X_glowFrom_L18_s]
  | succ n ih => intro k a0; rw [X_glowFrom_L18_s]; exact ih _ _
theorem X_glowFrom_L18_c_k (σ : St) (p1 p2 : Int32) (v : Int32) : ∀ n k a0, X_glowFrom_L18_c σ p1 p2 (fun _ => v) n k a0 = v := by
  intro n
  induction n with
  | zero => intro k a0; rw [X_glowFrom_L18_c]
  | succ n ih => intro k a0; rw [X_glowFrom_L18_c]; exact ih _ _
theorem X_ground_L11_s_k (σ : St) (p1 : Int32) (v : St) : ∀ n k a0, X_ground_L11_s σ p1 (fun _ => v) n k a0 = v := by
  intro n
  induction n with
  | zero => intro k a0; rw [X_ground_L11_s]
  | succ n ih => intro k a0; rw [X_ground_L11_s]; exact ih _ _
theorem X_ground_L11_c_k (σ : St) (p1 : Int32) (v : Int32) : ∀ n k a0, X_ground_L11_c σ p1 (fun _ => v) n k a0 = v := by
  intro n
  induction n with
  | zero => intro k a0; rw [X_ground_L11_c]
  | succ n ih => intro k a0; rw [X_ground_L11_c]; exact ih _ _
theorem X_culprit_L14_s_k (σ : St) (p1 : Int32) (v : St) : ∀ n k a0 a1, X_culprit_L14_s σ p1 (fun _ _ => v) n k a0 a1 = v := by
  intro n
  induction n with
  | zero => intro k a0 a1; rw [X_culprit_L14_s]
  | succ n ih => intro k a0 a1; rw [X_culprit_L14_s]; exact ih _ _ _
theorem X_culprit_L14_c_k (σ : St) (p1 : Int32) (v : Int32) : ∀ n k a0 a1, X_culprit_L14_c σ p1 (fun _ _ => v) n k a0 a1 = v := by
  intro n
  induction n with
  | zero => intro k a0 a1; rw [X_culprit_L14_c]
  | succ n ih => intro k a0 a1; rw [X_culprit_L14_c]; exact ih _ _ _
theorem M_glowFrom_L39_s_k (σ : St) (p1 p2 : Int32) (v : St) : ∀ n k a, M_glowFrom_L39_s σ p1 p2 (fun _ => v) n k a = v := by
  intro n
  induction n with
  | zero => intro k a; rw [M_glowFrom_L39_s]
  | succ n ih => intro k a; rw [M_glowFrom_L39_s, ih]
theorem M_culprit_L28_s_k (σ : St) (p1 : Int32) (v : St) : ∀ n k a b, M_culprit_L28_s σ p1 (fun _ _ => v) n k a b = v := by
  intro n
  induction n with
  | zero => intro k a b; rw [M_culprit_L28_s]
  | succ n ih => intro k a b; rw [M_culprit_L28_s, ih]
theorem from_eq {σ : St} (hI : InvX σ) {p1 p2 : Int32} (h : vp_in p1 64) (hj : M_glowFrom_j5 σ p1 p2 = 0) : ∀ n k a, M_glowFrom_L39 σ p1 p2 (fun a => a) n k a = X_glowFrom_L18 σ p1 p2 (fun a => a) n k a := by
  intro n
  induction n with
  | zero => intro k a; rw [M_glowFrom_L39, X_glowFrom_L18]
  | succ n ih =>
    intro k a
    rw [M_glowFrom_L39, X_glowFrom_L18, ih]
    congr 1
    unfold M_glowFrom_j57 X_glowFrom_j54l4
    rw [hj, dir41, given41, dir_eq hI h, given_eq hI h]
    by_cases q : M_direction σ (nI k) p1 = p2
    · rw [if_pos q, if_pos q]
    · rw [if_neg q, if_neg q, Int32.add_zero]
theorem Q_glowFrom {σ : St} (hI : InvX σ) (p1 p2 : Int32) : EQ σ (X_glowFrom_c σ p1 p2) (X_glowFrom σ p1 p2) (X_glowFrom_s σ p1 p2) (M_glowFrom σ p1 p2) (M_glowFrom_s σ p1 p2) 1 2 0 := by
  unfold X_glowFrom_c X_glowFrom X_glowFrom_s M_glowFrom M_glowFrom_s
  by_cases c : vp_in p1 64
  · repeat rw [if_pos c]
    by_cases e : M_isIn p2 (0 : Int32) (4 : Int32) = 0
    · have hj : M_glowFrom_j5 σ p1 p2 = 2 := by
        unfold M_glowFrom_j5
        rw [if_neg (fun z => place_iff.mp z c), if_pos e]
      rw [hj]
      repeat rw [if_pos e]
      repeat rw [if_neg (nf2 σ)]
      exact EQ.f2 rfl (sEq.f σ 2)
    · have hj : M_glowFrom_j5 σ p1 p2 = 0 := by
        unfold M_glowFrom_j5
        rw [if_neg (fun z => place_iff.mp z c), if_neg e]
      rw [M_glowFrom_L39_s_k, from_eq hI c hj, X_glowFrom_L18_s_k, X_glowFrom_L18_c_k, hj]
      repeat rw [if_neg e]
      repeat rw [if_pos (fails_0 σ)]
      exact EQ.ok rfl rfl (sEq.f σ 0)
  · have hj : M_glowFrom_j5 σ p1 p2 = 1 := by
      unfold M_glowFrom_j5
      rw [if_pos (place_iff.mpr c)]
    rw [hj]
    repeat rw [if_neg c]
    repeat rw [if_neg (nf1 σ)]
    exact EQ.f1 rfl (sEq.f σ 1)
theorem grnd_eq {σ : St} (hI : InvX σ) {p1 : Int32} (h : vp_in p1 64) : ∀ n k a, M_groundOf_L4 σ p1 (fun a => a) n k a = X_ground_L11 σ p1 (fun a => a) n k a := by
  intro n
  induction n with
  | zero => intro k a; rw [M_groundOf_L4, X_ground_L11]
  | succ n ih =>
    intro k a
    rw [M_groundOf_L4, X_ground_L11, ih]
    congr 1
    unfold M_groundOf_j18 X_ground_j43l3
    rw [weak_eq hI h, burns_eq hI, light_eq]
    by_cases q : M_burns σ (nI k) = 0
    · rw [if_pos q, if_pos q, Int32.add_zero]
    · rw [if_neg q, if_neg q]
theorem ground41 (σ : St) (w p : Int32) : M_groundOf (M_fails_s σ w) p = M_groundOf σ p := by
  have h : ∀ n k a, M_groundOf_L4 (M_fails_s σ w) p (fun a => a) n k a = M_groundOf_L4 σ p (fun a => a) n k a := by
    intro n
    induction n with
    | zero => intro k a; rw [M_groundOf_L4, M_groundOf_L4]
    | succ n ih => intro k a; rw [M_groundOf_L4, M_groundOf_L4, ih]; rfl
  exact h _ 0 0
theorem Q_ground {σ : St} (hI : InvX σ) (p1 : Int32) : EQ σ (X_ground_c σ p1) (X_ground σ p1) (X_ground_s σ p1) (M_ground σ p1) (M_ground_s σ p1) 1 0 0 := by
  unfold X_ground_c X_ground X_ground_s M_ground M_ground_s M_ground_j16 M_ground_j5
  by_cases c : vp_in p1 64
  · repeat rw [if_pos c]
    repeat rw [if_neg (fun z => place_iff.mp z c)]
    rw [if_pos (fails_0 σ), ground41, X_ground_L11_s_k, X_ground_L11_c_k]
    exact EQ.ok rfl (grnd_eq hI c _ _ _) (sEq.f σ 0)
  · repeat rw [if_neg c]
    repeat rw [if_pos (place_iff.mpr c)]
    rw [if_neg (nf1 σ)]
    exact EQ.f1 rfl (sEq.f σ 1)
theorem culp_eq {σ : St} (hI : InvX σ) {p1 : Int32} (h : vp_in p1 64) (hj : M_culprit_j5 σ p1 = 0) : ∀ n k a b, M_culprit_L28 σ p1 (fun a _ => a) n k a b = X_culprit_L14 σ p1 (fun a _ => a) n k a b := by
  intro n
  induction n with
  | zero => intro k a b; rw [M_culprit_L28, X_culprit_L14]
  | succ n ih =>
    intro k a b
    rw [M_culprit_L28, X_culprit_L14, ih]
    unfold M_culprit_j49 M_culprit_j62 X_culprit_j49l3 X_culprit_j49l4
    rw [hj, given41, given_eq hI h]
theorem Q_culprit {σ : St} (hI : InvX σ) (p1 : Int32) : EQ σ (X_culprit_c σ p1) (X_culprit σ p1) (X_culprit_s σ p1) (M_culprit σ p1) (M_culprit_s σ p1) 1 0 0 := by
  unfold X_culprit_c X_culprit X_culprit_s M_culprit M_culprit_s
  by_cases c : vp_in p1 64
  · repeat rw [if_pos c]
    have hj : M_culprit_j5 σ p1 = 0 := by
      unfold M_culprit_j5
      rw [if_neg (fun z => place_iff.mp z c)]
    rw [M_culprit_L28_s_k, culp_eq hI c hj, X_culprit_L14_s_k, X_culprit_L14_c_k, hj]
    repeat rw [if_pos (fails_0 σ)]
    exact EQ.ok rfl rfl (sEq.f σ 0)
  · have hj : M_culprit_j5 σ p1 = 1 := by
      unfold M_culprit_j5
      rw [if_pos (place_iff.mpr c)]
    rw [hj]
    repeat rw [if_neg c]
    repeat rw [if_neg (nf1 σ)]
    exact EQ.f1 rfl (sEq.f σ 1)
end
