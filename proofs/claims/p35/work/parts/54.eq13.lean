noncomputable section
/-- EQ for an answer of 64 bits -/
def EQT (σ : St) (cx : Int32) (vx : Int64) (sx : St) (vm : Int64) (sm : St) (c1 c3 : Int32) : Prop :=
  (cx = 0 → sm 41 0 = 0 ∧ vm = vx ∧ sEq sm sx) ∧ (cx = 1 → sm 41 0 = c1 ∧ sEq sm σ) ∧ (cx = 3 → sm 41 0 = c3 ∧ sEq sm σ) ∧ cx ≠ 2
theorem trend_L {σ : St} {p1 : Int32} (c : vp_in p1 8) (hp : ¬ M_isMeter σ p1 = 0) (hn : (nI (xL σ (ix p1 + 6))).toInt64 = M_trend_j5 σ p1) : ∀ n k, k + n ≤ 10 → ∀ a1 a2 a3 a4, EQT σ
    (X_slope_L23_c σ (ix p1) (fun a23_3 a23_5 a23_7 a23_9 => (if (lg_cmp (((nI (xL σ (ix p1 + 6))).toInt64 * a23_9) - (a23_3 * a23_3)) (0 : Int64)) = (0 : Int32) then (3 : Int32) else (0 : Int32))) n k a1 a2 a3 a4)
    (X_slope_L23 σ (ix p1) (fun a23_3 a23_5 a23_7 a23_9 => (if (lg_cmp (((nI (xL σ (ix p1 + 6))).toInt64 * a23_9) - (a23_3 * a23_3)) (0 : Int64)) = (0 : Int32) then (0 : Int64) else (((1000 : Int64) * (((nI (xL σ (ix p1 + 6))).toInt64 * a23_7) - (a23_3 * a23_5))) / (((nI (xL σ (ix p1 + 6))).toInt64 * a23_9) - (a23_3 * a23_3))))) n k a1 a2 a3 a4)
    (X_slope_L23_s σ (ix p1) (fun a23_3 a23_5 a23_7 a23_9 => (if (lg_cmp (((nI (xL σ (ix p1 + 6))).toInt64 * a23_9) - (a23_3 * a23_3)) (0 : Int64)) = (0 : Int32) then σ else σ)) n k a1 a2 a3 a4)
    (M_trend_L35 σ p1 (fun a35_4 a35_6 a35_8 a35_10 => (M_trend_j150 σ p1 a35_4 a35_6 a35_8 a35_10)) n k a1 a2 a3 a4)
    (M_trend_L35_s σ p1 (fun a35_4 a35_6 a35_8 a35_10 => (M_fails_s σ (M_trend_j128 σ p1 a35_4 a35_6 a35_8 a35_10))) n k a1 a2 a3 a4) 1 2 := by
  intro n
  induction n with
  | zero =>
    intro k _ a1 a2 a3 a4
    rw [X_slope_L23_c, X_slope_L23, X_slope_L23_s, M_trend_L35, M_trend_L35_s, hn]
    unfold M_trend_j150 M_trend_j128
    rw [if_neg hp]
    by_cases q : lg_cmp (M_trend_j5 σ p1 * a4 - a1 * a1) 0 = 0
    · repeat rw [if_pos q]
      exact ⟨fun z => absurd z (by decide), fun z => absurd z (by decide), fun _ => ⟨rfl, sEq.f σ 2⟩, by decide⟩
    · repeat rw [if_neg q]
      rw [if_pos (fails_0 σ)]
      exact ⟨fun _ => ⟨rfl, rfl, sEq.f σ 0⟩, fun z => absurd z (by decide), fun z => absurd z (by decide), by decide⟩
  | succ n ih =>
    intro k hk a1 a2 a3 a4
    have hr : vp_in (nI k) 10 := vp_in_nI (N := 10) (by omega) (by omega)
    rw [X_slope_L23_c, X_slope_L23, X_slope_L23_s, M_trend_L35, M_trend_L35_s, corr_eq c hr, rix c hr]
    exact ih (k + 1) (by omega) _ _ _ _
theorem Q_trend {σ : St} (hI : InvX σ) (p1 : Int32) : EQT σ (X_trend_c σ p1) (X_trend σ p1) (X_trend_s σ p1) (M_trend σ p1) (M_trend_s σ p1) 1 2 := by
  unfold X_trend_c X_trend X_trend_s M_trend M_trend_s
  have hms := IX_meters hI
  by_cases c : vp_in p1 (ix (σ 26 0))
  · repeat rw [if_pos c]
    have hp : ¬ M_isMeter σ p1 = 0 := fun z => (meter_iff hI).mp z c
    have hr := IX_reads hI (ix p1)
    have e31 : σ 31 (ix p1) = nI (ix (σ 31 (ix p1))) := (cnt (N := 10) (hI.1 31 (ix p1)) (by decide)).1
    have j5 : M_trend_j5 σ p1 = (σ 31 (ix p1)).toInt64 := by
      unfold M_trend_j5
      rw [if_neg hp]
    have hn : (nI (xL σ (ix p1 + 6))).toInt64 = M_trend_j5 σ p1 := by
      rw [j5, e31]
      show (nI (ix (σ 31 (ix p1)))).toInt64 = _
      rw [← e31]
    have hl : (M_trend_j5 σ p1).toInt.toNat = xL σ (ix p1 + 6) := by
      rw [j5, Int32.toInt_toInt64]
      rfl
    have h := trend_L (vp_up c hms) hp hn (xL σ (ix p1 + 6)) 0 (by show 0 + ix (σ 31 (ix p1)) ≤ 10; omega) 0 0 0 0
    rw [hl]
    unfold X_slope_c X_slope X_slope_s
    by_cases q : X_slope_L23_c σ (ix p1) (fun a23_3 a23_5 a23_7 a23_9 => (if (lg_cmp (((nI (xL σ (ix p1 + 6))).toInt64 * a23_9) - (a23_3 * a23_3)) (0 : Int64)) = (0 : Int32) then (3 : Int32) else (0 : Int32))) (xL σ (ix p1 + 6)) 0 0 0 0 0 = 0
    · repeat rw [if_pos q]
      rw [q] at h
      exact h
    · repeat rw [if_neg q]
      exact ⟨fun z => absurd z q, h.2.1, h.2.2.1, h.2.2.2⟩
  · repeat rw [if_neg c]
    have hp : M_isMeter σ p1 = 0 := (meter_iff hI).mpr c
    have j5 : M_trend_j5 σ p1 = 0 := by
      unfold M_trend_j5
      rw [if_pos hp]
    have j128 : ∀ a b c d, M_trend_j128 σ p1 a b c d = 1 := fun a b c d => by
      unfold M_trend_j128
      rw [if_pos hp]
    rw [j5, show ((0 : Int64).toInt.toNat) = 0 from rfl, M_trend_L35, M_trend_L35_s, j128]
    exact ⟨fun z => absurd z (by decide), fun _ => ⟨rfl, sEq.f σ 1⟩, fun z => absurd z (by decide), by decide⟩
theorem fix_ {z d : Int32} (hz : vp_in z 4) (hd : vp_in d 1000) : ix (1000 * z + d) = 1000 * ix z + ix d := by
  have h1 := vp_lt hz
  have h2 := vp_lt hd
  have e : (1000 : Int32) * z + d = nI (1000 * ix z + ix d) := by
    rw [← nI_add, ← pk_mul, ← vp_nI' hz (by decide), ← vp_nI' hd (by decide)]
    rfl
  rw [e, ixn (by omega)]
theorem day_iff {v : Int32} : M_isIn v 0 999 = 0 ↔ ¬ vp_in v 1000 := in0_iff (by decide)
theorem fst_cnt {σ : St} {p1 p2 : Int32} (hj : M_feast_j5 σ p1 p2 = 0) (g : Nat → Int32) (b : Nat) (hb : b + 1000 ≤ 4000) (hg : ∀ d, g d = (sS (M_fails_s σ 0) 7 (ix (1000 * p1 + p2)) 1) 7 (b + d)) : ∀ n k, k + n ≤ 1000 → M_feast_L58 σ p1 p2 (fun a => a) n (b + k) (cntF g k) = cntF g (k + n) := by
  intro n
  induction n with
  | zero => intro k _; rw [M_feast_L58]; rfl
  | succ n ih =>
    intro k hk
    rw [M_feast_L58]
    have e : cntF g k + M_feast_j80 σ p1 p2 (b + k) (cntF g k) = cntF g (k + 1) := by
      unfold M_feast_j80
      rw [hj, ixn (by omega), ← hg k]
      rfl
    rw [e, show b + k + 1 = b + (k + 1) by omega, ih (k + 1) (by omega), show k + 1 + n = k + (n + 1) by omega]
theorem fst_s (σ : St) (p1 p2 : Int32) (v : St) : ∀ n k a, M_feast_L58_s σ p1 p2 (fun _ => v) n k a = v := by
  intro n
  induction n with
  | zero => intro k a; rw [M_feast_L58_s]
  | succ n ih => intro k a; rw [M_feast_L58_s, ih]
theorem cele_eq {σ : St} (hI : InvX σ) {p1 p2 : Int32} (hz : vp_in p1 4) (hd : vp_in p2 1000) : sEq (sS (M_fails_s σ 0) 7 (ix (1000 * p1 + p2)) 1) (X_celebrate_s σ (ix p1) p2) := by
  have h2 := vp_lt hd
  have e2 := vp_nI' hd (by decide)
  have n1 : ¬ p2 < 0 := by
    rw [e2]
    exact not_lt32.mpr ((nI_leI (a := 0) (b := ix p2) (by omega) (by omega)).mpr (by omega))
  have n2 : p2 < 1000 := by
    refine Classical.byContradiction fun z => ?_
    rw [e2] at z
    exact absurd ((nI_leI (a := 1000) (b := ix p2) (by omega) (by omega)).mp (not_lt32.mp z)) (by omega)
  unfold X_celebrate_s
  rw [if_neg n1, if_pos n2, fix_ hz hd]
  by_cases q : σ 7 (1000 * ix p1 + ix p2) = 0
  · rw [if_pos q]
    exact (sEq.f σ 0).S _ _ _
  · rw [if_neg q]
    have q1 : σ 7 (1000 * ix p1 + ix p2) = 1 := (hI.1 7 (1000 * ix p1 + ix p2) : σ 7 (1000 * ix p1 + ix p2) = 0 ∨ σ 7 (1000 * ix p1 + ix p2) = 1).resolve_left q
    intro k hk
    by_cases e : k = 7
    · subst e
      funext j
      by_cases w : j = 1000 * ix p1 + ix p2
      · subst w
        rw [sS_same, q1]
      · rw [sS_ne (fun _ => w)]
        rfl
    · rw [sS_col e]
      exact sC41 hk
theorem Q_feast {σ : St} (hI : InvX σ) (p1 p2 : Int32) : EQ σ (X_feast_c σ p1 p2) (X_feast σ p1 p2) (X_feast_s σ p1 p2) (M_feast σ p1 p2) (M_feast_s σ p1 p2) 1 2 0 := by
  unfold X_feast_c X_feast X_feast_s M_feast M_feast_s
  by_cases c : vp_in p1 4
  · repeat rw [if_pos c]
    by_cases e : M_isIn p2 (0 : Int32) (999 : Int32) = 0
    · have hj : M_feast_j5 σ p1 p2 = 2 := by
        unfold M_feast_j5
        rw [if_neg (fun z => zone_iff.mp z c), if_pos e]
      rw [hj]
      repeat rw [if_pos e]
      repeat rw [if_neg (nf2 σ)]
      exact EQ.f2 rfl (sEq.f σ 2)
    · have hj : M_feast_j5 σ p1 p2 = 0 := by
        unfold M_feast_j5
        rw [if_neg (fun z => zone_iff.mp z c), if_neg e]
      have hd : vp_in p2 1000 := Classical.byContradiction fun z => e (day_iff.mpr z)
      have hs := cele_eq hI c hd
      have h4 := vp_lt c
      have h := fst_cnt hj (fun d => (X_celebrate_s σ (ix p1) p2) 7 (1000 * ix p1 + d)) (1000 * ix p1) (by omega) (fun d => by rw [hs 7 (by decide)]) 1000 0 (by omega)
      rw [Nat.zero_add, Nat.add_zero] at h
      rw [fst_s, hj, n1000_eq]
      repeat rw [if_neg e]
      repeat rw [if_pos (fails_0 σ)]
      exact EQ.ok rfl h hs
  · have hj : M_feast_j5 σ p1 p2 = 1 := by
      unfold M_feast_j5
      rw [if_pos (zone_iff.mpr c)]
    rw [hj]
    repeat rw [if_neg c]
    repeat rw [if_neg (nf1 σ)]
    exact EQ.f1 rfl (sEq.f σ 1)
theorem c34 {a : St} {k : Nat} (v : Int32) (h : k ≠ 34) : sC a 34 v k = a k := sC_col h
theorem keeps_eq {σ : St} (hI : InvX σ) {p1 : Int32} (hj : M_audit_j8 σ p1 = 0) {k : Nat} (hk : k < ix (σ 26 0)) (a : Int32) : M_audit_j37 σ p1 k a = (if a = 0 then 0 else X_keepsTo σ (ix (nI k)) p1) := by
  have hms := IX_meters hI
  have hr := IX_reads hI (ix (nI k))
  have e31 := (cnt (N := 10) (hI.1 31 (ix (nI k))) (by decide)).1
  unfold M_audit_j37 X_keepsTo X_keepsTo_j9
  rw [hj]
  by_cases q : a = 0
  · rw [if_pos q, if_pos q]
  · rw [if_neg q, if_neg q]
    show (if σ 31 (ix (nI k)) = 0 then (1 : Int32) else if p1 < M_corrected σ (nI k) (σ 31 (ix (nI k)) - 1) then 0 else 1) = (if nI (ix (σ 31 (ix (nI k)))) = 0 then (1 : Int32) else if p1 < X_corrected σ (ix (nI k)) (10 * ix (nI k) + ix (nI (ix (σ 31 (ix (nI k)))) - 1)) then 0 else 1)
    rw [← e31]
    by_cases w : σ 31 (ix (nI k)) = 0
    · rw [if_pos w, if_pos w]
    · rw [if_neg w, if_neg w]
      have h1 : 1 ≤ ix (σ 31 (ix (nI k))) := Nat.pos_of_ne_zero fun z => w (by rw [e31, z]; rfl)
      have e1 : σ 31 (ix (nI k)) - 1 = nI (ix (σ 31 (ix (nI k))) - 1) := by
        rw [← pk_sub h1, ← e31]
        rfl
      rw [corr_eq (m := nI k) (r := σ 31 (ix (nI k)) - 1) (vp_in_nI (N := 8) (by omega) (by omega)) (by rw [e1]; exact vp_in_nI (N := 10) (by omega) (by omega))]
theorem keeps_b (σ : St) (i : Nat) (p : Int32) : X_keepsTo σ i p = 0 ∨ X_keepsTo σ i p = 1 := by
  unfold X_keepsTo X_keepsTo_j9
  (repeat' split) <;> first | exact Or.inl rfl | exact Or.inr rfl
theorem aud_eq {σ : St} (hI : InvX σ) {p1 : Int32} (hj : M_audit_j8 σ p1 = 0) : ∀ n k, k + n = ix (σ 26 0) → ∀ a, (a = 0 ∨ a = 1) → M_audit_L28 σ p1 (fun a => a) n k a = X_audit_L11 σ p1 (fun a => a) n k a := by
  intro n
  induction n with
  | zero => intro k _ a _; rw [M_audit_L28, X_audit_L11]
  | succ n ih =>
    intro k hk a ha
    have hb := keeps_b σ (ix (nI k)) p1
    have e : M_audit_j37 σ p1 k a = X_audit_j37l2 σ p1 k a := by
      rw [keeps_eq hI hj (by omega)]
      unfold X_audit_j37l2
      rcases ha with rfl | rfl
      · rw [if_pos rfl, ite_self]
      · rw [if_neg i10]
        rcases hb with z | z
        · rw [z, if_pos rfl]
        · rw [z, if_neg i10]
    have hc : X_audit_j37l2 σ p1 k a = 0 ∨ X_audit_j37l2 σ p1 k a = 1 := by
      unfold X_audit_j37l2
      split
      · exact Or.inl rfl
      · exact ha
    rw [M_audit_L28, X_audit_L11, e]
    exact ih (k + 1) (by omega) _ hc
theorem audM_s (σ : St) (p1 : Int32) (K : Int32 → St) : ∀ n k a, M_audit_L28_s σ p1 K n k a = K (M_audit_L28 σ p1 (fun a => a) n k a) := by
  intro n
  induction n with
  | zero => intro k a; rw [M_audit_L28_s, M_audit_L28]
  | succ n ih => intro k a; rw [M_audit_L28_s, M_audit_L28, ih]
theorem audX_s (σ : St) (p1 : Int32) (K : Int32 → St) : ∀ n k a, X_audit_L11_s σ p1 K n k a = K (X_audit_L11 σ p1 (fun a => a) n k a) := by
  intro n
  induction n with
  | zero => intro k a; rw [X_audit_L11_s, X_audit_L11]
  | succ n ih => intro k a; rw [X_audit_L11_s, X_audit_L11, ih]
theorem audX_c (σ : St) (p1 : Int32) (v : Int32) : ∀ n k a, X_audit_L11_c σ p1 (fun _ => v) n k a = v := by
  intro n
  induction n with
  | zero => intro k a; rw [X_audit_L11_c]
  | succ n ih => intro k a; rw [X_audit_L11_c, ih]
/-- what follows an audit: failures, successes, lost -/
theorem follow_35 (σ : St) (a : Int32) : X_follow_s σ a 35 = fun _ => if a = 0 then σ 35 0 + 1 else 0 := by
  unfold X_follow_s X_follow_j54_s X_follow_j41_s X_follow_j20
  (repeat' split) <;> rfl
theorem follow_36 (σ : St) (a : Int32) : X_follow_s σ a 36 = fun _ => if a = 0 then 0 else σ 36 0 + 1 := by
  unfold X_follow_s X_follow_j54_s X_follow_j41_s X_follow_j2
  (repeat' split) <;> rfl
theorem follow_34 (σ : St) (a : Int32) : X_follow_s σ a 34 0 = (if (if a = 0 then 0 else σ 36 0 + 1) < (3 : Int32) then (if (if a = 0 then σ 35 0 + 1 else 0) < (2 : Int32) then σ 34 0 else 1) else 0) := by
  unfold X_follow_s X_follow_j54_s X_follow_j41_s X_follow_j20 X_follow_j2
  by_cases c : a = 0
  · repeat rw [if_pos c]
    by_cases d : (σ 35 0 + 1 : Int32) < 2
    · rw [if_pos (show (sC (sC σ 36 0) 35 ((sC σ 36 0) 35 0 + 1)) 35 0 < 2 from d), if_pos d]
      rfl
    · rw [if_neg (show ¬ (sC (sC σ 36 0) 35 ((sC σ 36 0) 35 0 + 1)) 35 0 < 2 from d), if_neg d]
      rfl
  · repeat rw [if_neg c]
    have z2 : (0 : Int32) < 2 := by decide
    rw [if_pos (show (sC (sC σ 36 (σ 36 0 + 1)) 35 0) 35 0 < 2 from z2), if_pos z2]
    by_cases d : (σ 36 0 + 1 : Int32) < 3
    · rw [if_pos (show (sC (sC σ 36 (σ 36 0 + 1)) 35 0) 36 0 < 3 from d), if_pos d]
      rfl
    · rw [if_neg (show ¬ (sC (sC σ 36 (σ 36 0 + 1)) 35 0) 36 0 < 3 from d), if_neg d]
      rfl
theorem follow_col (σ : St) (a : Int32) {k : Nat} (h4 : k ≠ 34) (h5 : k ≠ 35) (h6 : k ≠ 36) : X_follow_s σ a k = σ k := by
  unfold X_follow_s X_follow_j54_s X_follow_j41_s
  (repeat' split) <;> simp only [sC_col h4, sC_col h5, sC_col h6]
theorem Q_audit {σ : St} (hI : InvX σ) (p1 : Int32) : EQ σ (X_audit_c σ p1) (X_audit σ p1) (sC (X_audit_s σ p1) 34 (X_audit_s σ p1 34 0)) (M_audit σ p1) (M_audit_s σ p1) 0 1 0 := by
  unfold X_audit_c X_audit X_audit_s M_audit M_audit_s
  by_cases c : M_isIn p1 (0 : Int32) (100000 : Int32) = 0
  · have hj : M_audit_j8 σ p1 = 1 := by
      unfold M_audit_j8
      rw [if_pos c]
    rw [hj]
    repeat rw [if_pos c]
    repeat rw [if_neg (nf1 σ)]
    exact EQ.f2 rfl (sEq.f σ 1)
  have hj : M_audit_j8 σ p1 = 0 := by
    unfold M_audit_j8
    rw [if_neg c]
  have hv := aud_eq hI hj (ix (σ 26 0)) 0 (Nat.zero_add _) 1 (Or.inr rfl)
  rw [audM_s, audX_s, audX_c, hv]
  unfold M_audit_j120 M_audit_j98 M_audit_j80
  rw [hj]
  repeat rw [if_neg c]
  repeat rw [if_pos (fails_0 σ)]
  show EQ σ 0 (X_audit_L11 σ p1 (fun a => a) (ix (σ 26 0)) 0 1) (sC (X_follow_s σ (X_audit_L11 σ p1 (fun a => a) (ix (σ 26 0)) 0 1)) 34 (X_follow_s σ (X_audit_L11 σ p1 (fun a => a) (ix (σ 26 0)) 0 1) 34 0)) _ _ _ _ _
  generalize X_audit_L11 σ p1 (fun a => a) (ix (σ 26 0)) 0 1 = r
  refine EQ.ok rfl rfl fun k hk => ?_
  by_cases e4 : k = 34
  · subst e4
    funext j
    show (if (2 : Int32) ≤ (if r = 0 then σ 35 0 + 1 else 0) then (1 : Int32) else if σ 34 0 = 0 then 0 else if (3 : Int32) ≤ (if r = 0 then 0 else σ 36 0 + 1) then 0 else 1) = sC (X_follow_s σ r) 34 (X_follow_s σ r 34 0) 34 j
    rw [sC_same, follow_34]
    by_cases q : r = 0
    · repeat rw [if_pos q]
      rw [if_pos (by decide : (0 : Int32) < 3), if_neg (by decide : ¬ (3 : Int32) ≤ 0)]
      by_cases w : (2 : Int32) ≤ σ 35 0 + 1
      · rw [if_pos w, if_neg (not_lt32.mpr w)]
      · rw [if_neg w, if_pos (Classical.byContradiction fun z => w (not_lt32.mp z))]
        rcases (hI.1 34 0 : σ 34 0 = 0 ∨ σ 34 0 = 1) with z | z
        · rw [z]; rfl
        · rw [z]; rfl
    · repeat rw [if_neg q]
      rw [if_pos (by decide : (0 : Int32) < 2), if_neg (by decide : ¬ (2 : Int32) ≤ 0)]
      by_cases w : (3 : Int32) ≤ σ 36 0 + 1
      · rw [if_pos w, if_neg (not_lt32.mpr w), ite_self]
      · rw [if_neg w, if_pos (Classical.byContradiction fun z => w (not_lt32.mp z))]
        rcases (hI.1 34 0 : σ 34 0 = 0 ∨ σ 34 0 = 1) with z | z
        · rw [z]; rfl
        · rw [z]; rfl
  rw [sC_col e4, sC_col e4]
  by_cases e5 : k = 35
  · subst e5
    rw [follow_35]
    rfl
  by_cases e6 : k = 36
  · subst e6
    rw [follow_36]
    rfl
  rw [follow_col σ r e4 e5 e6, sC_col e6, sC_col e5]
  exact sC41 hk
end
