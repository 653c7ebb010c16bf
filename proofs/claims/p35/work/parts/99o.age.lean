noncomputable section
section AGE
variable {ξ τ : St}
theorem A_ridge (ξ : St) (p1 p2 : Int32) : M_ridge_s ξ p1 p2 23 = ξ 23 ∧ M_ridge_s ξ p1 p2 0 = ξ 0 := by
  unfold M_ridge_s
  (repeat' split) <;> (refine ⟨?_, ?_⟩ <;> simp (disch := decide) only [sS_col, sC_col, fcol])
theorem A_zone (ξ : St) (p1 p2 : Int32) : M_zone_s ξ p1 p2 23 = ξ 23 ∧ M_zone_s ξ p1 p2 0 = ξ 0 := by
  unfold M_zone_s
  (repeat' split) <;> (refine ⟨?_, ?_⟩ <;> simp (disch := decide) only [sS_col, sC_col, fcol])
theorem A_law (ξ : St) (p1 p2 p3 p4 : Int32) : M_law_s ξ p1 p2 p3 p4 23 = ξ 23 ∧ M_law_s ξ p1 p2 p3 p4 0 = ξ 0 := by
  unfold M_law_s M_law_j63_s
  (repeat' split) <;> (refine ⟨?_, ?_⟩ <;> simp (disch := decide) only [sS_col, sC_col, fcol])
theorem A_air (ξ : St) (p1 : Int32) : M_air_s ξ p1 23 = ξ 23 ∧ M_air_s ξ p1 0 = ξ 0 := by
  unfold M_air_s
  (repeat' split) <;> (refine ⟨?_, ?_⟩ <;> simp (disch := decide) only [sS_col, sC_col, fcol])
theorem A_village (ξ : St) (p1 p2 : Int32) : M_village_s ξ p1 p2 23 = ξ 23 ∧ M_village_s ξ p1 p2 0 = ξ 0 := by
  unfold M_village_s
  (repeat' split) <;> (refine ⟨?_, ?_⟩ <;> simp (disch := decide) only [sS_col, sC_col, fcol])
theorem A_lamp (ξ : St) (p1 p2 p3 p4 p5 : Int32) : M_lamp_s ξ p1 p2 p3 p4 p5 23 = ξ 23 ∧ M_lamp_s ξ p1 p2 p3 p4 p5 0 = ξ 0 := by
  unfold M_lamp_s
  (repeat' split) <;> (refine ⟨?_, ?_⟩ <;> simp (disch := decide) only [sS_col, sC_col, fcol])
theorem A_hours (ξ : St) (p1 p2 p3 : Int32) : M_hours_s ξ p1 p2 p3 23 = ξ 23 ∧ M_hours_s ξ p1 p2 p3 0 = ξ 0 := by
  unfold M_hours_s M_hours_j65_s
  (repeat' split) <;> (refine ⟨?_, ?_⟩ <;> simp (disch := decide) only [sS_col, sC_col, fcol])
theorem A_exempt (ξ : St) (p1 p2 : Int32) : M_exempt_s ξ p1 p2 23 = ξ 23 ∧ M_exempt_s ξ p1 p2 0 = ξ 0 := by
  unfold M_exempt_s
  (repeat' split) <;> (refine ⟨?_, ?_⟩ <;> simp (disch := decide) only [sS_col, sC_col, fcol])
theorem A_outage (ξ : St) (p1 p2 : Int32) : M_outage_s ξ p1 p2 23 = ξ 23 ∧ M_outage_s ξ p1 p2 0 = ξ 0 := by
  unfold M_outage_s
  (repeat' split) <;> (refine ⟨?_, ?_⟩ <;> simp (disch := decide) only [sS_col, sC_col, fcol])
theorem A_vote (ξ : St) (p1 p2 p3 p4 p5 : Int32) : M_vote_s ξ p1 p2 p3 p4 p5 23 = ξ 23 ∧ M_vote_s ξ p1 p2 p3 p4 p5 0 = ξ 0 := by
  unfold M_vote_s
  (repeat' split) <;> (refine ⟨?_, ?_⟩ <;> simp (disch := decide) only [sS_col, sC_col, fcol])
theorem A_meter (ξ : St) (p1 p2 p3 : Int32) : M_meter_s ξ p1 p2 p3 23 = ξ 23 ∧ M_meter_s ξ p1 p2 p3 0 = ξ 0 := by
  unfold M_meter_s
  (repeat' split) <;> (refine ⟨?_, ?_⟩ <;> simp (disch := decide) only [sS_col, sC_col, fcol])
theorem A_tell (ξ : St) (p1 p2 : Int32) : M_tell_s ξ p1 p2 23 = ξ 23 ∧ M_tell_s ξ p1 p2 0 = ξ 0 := by
  unfold M_tell_s
  (repeat' split) <;> (refine ⟨?_, ?_⟩ <;> simp (disch := decide) only [sS_col, sC_col, fcol])
theorem A_feast (ξ : St) (p1 p2 : Int32) : M_feast_s ξ p1 p2 23 = ξ 23 ∧ M_feast_s ξ p1 p2 0 = ξ 0 := by
  have hK : ∀ (v : St) n k a, M_feast_L58_s ξ p1 p2 (fun _ => v) n k a = v := by
    intro v n
    induction n with
    | zero => intro k a; rw [M_feast_L58_s]
    | succ n ih => intro k a; rw [M_feast_L58_s, ih]
  unfold M_feast_s
  rw [hK]
  split <;> (refine ⟨?_, ?_⟩ <;> simp (disch := decide) only [sS_col, sC_col, fcol])
theorem A_inspect (ξ : St) (p1 : Int32) : M_inspect_s ξ p1 23 = ξ 23 ∧ M_inspect_s ξ p1 0 = ξ 0 := by
  have hL : ∀ n k a s, M_inspect_L25_s ξ p1 (fun _ s => s) n k a s 23 = s 23 ∧ M_inspect_L25_s ξ p1 (fun _ s => s) n k a s 0 = s 0 := by
    intro n
    induction n with
    | zero => intro k a s; rw [M_inspect_L25_s]; exact ⟨rfl, rfl⟩
    | succ n ih =>
      intro k a s
      rw [M_inspect_L25_s]
      have e : M_inspect_j45_s ξ p1 k a s 23 = s 23 ∧ M_inspect_j45_s ξ p1 k a s 0 = s 0 := by
        unfold M_inspect_j45_s
        (repeat' split) <;> first | exact ⟨rfl, rfl⟩ | (refine ⟨?_, ?_⟩ <;> simp (disch := decide) only [sS_col])
      exact ⟨(ih _ _ _).1.trans e.1, (ih _ _ _).2.trans e.2⟩
  unfold M_inspect_s
  split
  · exact ⟨(hL _ _ _ _).1.trans (fcol _ _ (by decide)), (hL _ _ _ _).2.trans (fcol _ _ (by decide))⟩
  · exact ⟨fcol _ _ (by decide), fcol _ _ (by decide)⟩
theorem A_audit (ξ : St) (p1 : Int32) : M_audit_s ξ p1 23 = ξ 23 ∧ M_audit_s ξ p1 0 = ξ 0 := by
  unfold M_audit_s
  rw [audM_s]
  split <;> (refine ⟨?_, ?_⟩ <;> simp (disch := decide) only [sS_col, sC_col, fcol])
theorem A_read (ξ : St) {p1 : Int32} (h : vp_in p1 8) : M_read_s ξ p1 23 = ξ 23 ∧ M_read_s ξ p1 0 = ξ 0 := by
  have a := vp_lt h
  have hp : ∀ s, pS2 s p1 23 = s 23 ∧ pS2 s p1 0 = s 0 := fun s => by
    unfold pS2 pB
    refine ⟨?_, ?_⟩ <;> simp (disch := decide) only [sS_col]
  rw [M_read_s_eq, n9_eq, L40_s _ _ _ _ _ _ (by omega)]
  split
  · split
    · obtain ⟨e1, e2⟩ := hp (pA1 (shL 9 (10 * ix p1) (M_fails_s ξ (M_read_j6 ξ p1))) p1)
      rw [e1, e2]
      unfold pA1
      rw [sS_col (by decide), sS_col (by decide), shL_col (by decide) (by decide), shL_col (by decide) (by decide)]
      exact ⟨fcol _ _ (by decide), fcol _ _ (by decide)⟩
    · obtain ⟨e1, e2⟩ := hp (M_fails_s ξ (M_read_j6 ξ p1))
      rw [e1, e2]
      exact ⟨fcol _ _ (by decide), fcol _ _ (by decide)⟩
  · exact ⟨fcol _ _ (by decide), fcol _ _ (by decide)⟩
/-- what a call may do to ages and time -/
def AT (τ τ' : St) : Prop := AG τ' ∧ ix (τ' 7 0) ≤ ix (τ 7 0) + 300
theorem AT.of {ξ' τ' : St} (hQ : LQ ξ τ) (hA : AG τ) (hQ' : LQ ξ' τ') (h : ξ' 23 = ξ 23 ∧ ξ' 0 = ξ 0) : AT τ τ' := by
  have e7 : τ' 7 0 = τ 7 0 := by rw [hQ'.g.1, hQ.g.1, h.2]
  refine ⟨fun n hn => ?_, by rw [e7]; omega⟩
  have a := hA n hn
  rw [(hQ.l hn).2.2.2.2.1] at a
  rw [(hQ'.l hn).2.2.2.2.1, h.1, e7]
  exact a
end AGE
section AGO
variable {ξ τ : St} {one two : Int32}
theorem AT_T0 (hQ : LQ ξ τ) (hA : AG τ) (hQ' : LQ (T0_x τ ξ one two) (T0_s τ ξ one two)) : AT τ (T0_s τ ξ one two) := AT.of hQ hA hQ' (by
  unfold T0_x
  (repeat' split) <;> first | (with_reducible exact A_ridge ..) | (with_reducible exact ⟨rfl, rfl⟩))
theorem AT_T1 (hQ : LQ ξ τ) (hA : AG τ) (hQ' : LQ (T1_x τ ξ one two) (T1_s τ ξ one two)) : AT τ (T1_s τ ξ one two) := AT.of hQ hA hQ' (by
  unfold T1_x
  (repeat' split) <;> first | (with_reducible exact A_zone ..) | (with_reducible exact ⟨rfl, rfl⟩))
theorem AT_T2 (hQ : LQ ξ τ) (hA : AG τ) (hQ' : LQ (T2_x τ ξ one two) (T2_s τ ξ one two)) : AT τ (T2_s τ ξ one two) := AT.of hQ hA hQ' (by
  unfold T2_x
  (repeat' split) <;> first | (with_reducible exact A_law ..) | (with_reducible exact ⟨rfl, rfl⟩))
theorem AT_T4 (hQ : LQ ξ τ) (hA : AG τ) (hQ' : LQ (T4_x τ ξ one two) (T4_s τ ξ one two)) : AT τ (T4_s τ ξ one two) := AT.of hQ hA hQ' (by
  unfold T4_x
  (repeat' split) <;> first | (with_reducible exact A_air ..) | (with_reducible exact ⟨rfl, rfl⟩))
theorem AT_T6 (hQ : LQ ξ τ) (hA : AG τ) (hQ' : LQ (T6_x τ ξ one two) (T6_s τ ξ one two)) : AT τ (T6_s τ ξ one two) := AT.of hQ hA hQ' (by
  unfold T6_x
  (repeat' split) <;> first | (with_reducible exact A_village ..) | (with_reducible exact ⟨rfl, rfl⟩))
theorem AT_L0 (hQ : LQ ξ τ) (hA : AG τ) (hQ' : LQ (L0_x τ ξ one two) (L0_s τ ξ one two)) : AT τ (L0_s τ ξ one two) := AT.of hQ hA hQ' (by
  unfold L0_x
  (repeat' split) <;> first | (with_reducible exact A_lamp ..) | (with_reducible exact ⟨rfl, rfl⟩))
theorem AT_L1 (hQ : LQ ξ τ) (hA : AG τ) (hQ' : LQ (L1_x τ ξ one two) (L1_s τ ξ one two)) : AT τ (L1_s τ ξ one two) := AT.of hQ hA hQ' (by
  unfold L1_x
  (repeat' split) <;> first | (with_reducible exact A_hours ..) | (with_reducible exact ⟨rfl, rfl⟩))
theorem AT_L2 (hQ : LQ ξ τ) (hA : AG τ) (hQ' : LQ (L2_x τ ξ one two) (L2_s τ ξ one two)) : AT τ (L2_s τ ξ one two) := AT.of hQ hA hQ' (by
  unfold L2_x
  (repeat' split) <;> first | (with_reducible exact A_exempt ..) | (with_reducible exact ⟨rfl, rfl⟩))
theorem AT_L3 (hQ : LQ ξ τ) (hA : AG τ) (hQ' : LQ (L3_x τ ξ one two) (L3_s τ ξ one two)) : AT τ (L3_s τ ξ one two) := AT.of hQ hA hQ' (by
  unfold L3_x
  (repeat' split) <;> first | (with_reducible exact A_outage ..) | (with_reducible exact ⟨rfl, rfl⟩))
theorem AT_L4 (hQ : LQ ξ τ) (hA : AG τ) (hQ' : LQ (L4_x τ ξ one two) (L4_s τ ξ one two)) : AT τ (L4_s τ ξ one two) := AT.of hQ hA hQ' (by
  unfold L4_x
  (repeat' split) <;> first | (with_reducible exact A_vote ..) | (with_reducible exact ⟨rfl, rfl⟩))
theorem AT_R0 (hQ : LQ ξ τ) (hA : AG τ) (hQ' : LQ (R0_x τ ξ one two) (R0_s τ ξ one two)) : AT τ (R0_s τ ξ one two) := AT.of hQ hA hQ' (by
  unfold R0_x
  (repeat' split) <;> first | (with_reducible exact A_meter ..) | (with_reducible exact ⟨rfl, rfl⟩))
theorem AT_R2 (hQ : LQ ξ τ) (hA : AG τ) (hQ' : LQ (R2_x τ ξ one two) (R2_s τ ξ one two)) : AT τ (R2_s τ ξ one two) := AT.of hQ hA hQ' (by
  unfold R2_x
  (repeat' split) <;> first | (with_reducible exact A_tell ..) | (with_reducible exact ⟨rfl, rfl⟩))
theorem T3_c (v : St) : ∀ n k a, T3_L530_x τ ξ one two (fun _ => v) n k a = v := by
  intro n
  induction n with
  | zero => intro k a; rw [T3_L530_x]
  | succ n ih => intro k a; rw [T3_L530_x, ih]
theorem L5_c (v : St) : ∀ n k a s, L5_L1198_x τ ξ one two (fun _ _ => v) n k a s = v := by
  intro n
  induction n with
  | zero => intro k a s; rw [L5_L1198_x]
  | succ n ih =>
    intro k a s
    rw [L5_L1198_x, ih]
    split <;> rfl
theorem R3_c (v : St) : ∀ n k a, R3_L630_x τ ξ one two (fun _ => v) n k a = v := by
  intro n
  induction n with
  | zero => intro k a; rw [R3_L630_x]
  | succ n ih => intro k a; rw [R3_L630_x, ih]
theorem R1_c (v : St) : ∀ n k s, R1_L327_x τ ξ one two (fun _ => v) n k s = v := by
  intro n
  induction n with
  | zero => intro k s; rw [R1_L327_x]
  | succ n ih => intro k s; rw [R1_L327_x, ih]
theorem AT_T3 (hQ : LQ ξ τ) (hA : AG τ) (hQ' : LQ (T3_x τ ξ one two) (T3_s τ ξ one two)) : AT τ (T3_s τ ξ one two) := AT.of hQ hA hQ' (by
  unfold T3_x
  (repeat' split) <;> first | (with_reducible exact A_feast ..) | (rw [T3_c]; with_reducible exact A_feast ..))
theorem AT_L5 (hQ : LQ ξ τ) (hA : AG τ) (hQ' : LQ (L5_x τ ξ one two) (L5_s τ ξ one two)) : AT τ (L5_s τ ξ one two) := AT.of hQ hA hQ' (by
  unfold L5_x
  rw [L5_c]
  with_reducible exact A_inspect ..)
theorem AT_R3 (hQ : LQ ξ τ) (hA : AG τ) (hQ' : LQ (R3_x τ ξ one two) (R3_s τ ξ one two)) : AT τ (R3_s τ ξ one two) := AT.of hQ hA hQ' (by
  unfold R3_x
  rw [R3_c]
  with_reducible exact A_audit ..)
theorem AT_R1 (hQ : LQ ξ τ) (hA : AG τ) (hQ' : LQ (R1_x τ ξ one two) (R1_s τ ξ one two)) (hI : InvX ξ) (h1 : vp_in one 60000) : AT τ (R1_s τ ξ one two) := AT.of hQ hA hQ' (by
  unfold R1_x
  rw [R1_c]
  have h8 : vp_in (one - one / ((τ 7 (ix (4 : Int32))) + (1 : Int32)) * ((τ 7 (ix (4 : Int32))) + (1 : Int32))) 8 := vp_up (remv h1 (by decide) (IL_7_4 (IL_of hQ hI)) (by decide)) (by decide)
  (repeat' split) <;> with_reducible exact A_read ξ h8)
theorem T5_in {T : Nat} (hT : T < 100000) {k0 : Nat} {s0 : St} (KS : St → St) (Q : St → Prop) : ∀ n k s, k + n ≤ 10 → ix (s 7 0) = T → (∀ j, j < k → vp_in (s 3 (6 * j + 4)) (T + 2)) → (∀ j, k ≤ j → j < 10 → vp_in (s 3 (6 * j + 4)) (T + 1)) →
    (∀ s', s' 7 = s 7 → (∀ j, j < 10 → vp_in (s' 3 (6 * j + 4)) (T + 2)) → Q (KS s')) → Q (T5_L761_s τ ξ one two k0 s0 KS n k s) := by
  intro n
  induction n with
  | zero =>
    intro k s hk h0 h1 h2 hQ
    rw [T5_L761_s]
    refine hQ s rfl fun j hj => ?_
    rcases Nat.lt_or_ge j k with z | z
    · exact h1 j z
    · exact vp_up (h2 j z hj) (by omega)
  | succ n ih =>
    intro k s hk h0 h1 h2 hQ
    have e : ix (((6 : Int32) * (nI k)) + (4 : Int32)) = 6 * k + 4 := by
      rw [show (6 : Int32) = nI 6 from rfl, show (4 : Int32) = nI 4 from rfl, pk_mul, nI_add, ixn (by omega)]
    rw [T5_L761_s, e]
    have hv : vp_in (s 3 (6 * k + 4) + T5_j793 τ ξ one two k0 s0 k s) (T + 2) := by
      obtain ⟨a, ha, ea⟩ := vn (h2 k (Nat.le_refl _) (by omega)) (by omega)
      rw [ea]
      rcases T5_j793_b τ ξ one two k0 s0 k s with z | z
      · rw [z, Int32.add_zero]
        exact vp_in_nI (by omega) (by omega)
      · rw [z, nI_1]
        exact vp_in_nI (by omega) (by omega)
    refine ih (k + 1) _ (by omega) (by rw [sS_col (by decide)]; exact h0) (fun j hj => ?_) (fun j hj hj' => ?_) (fun s' es hs => hQ s' (by rw [es, sS_col (by decide)]) hs)
    · rw [sS_at]
      split
      · exact hv
      · exact h1 j (by omega)
    · rw [sS_at, if_neg (by omega)]
      exact h2 j (by omega) hj'
theorem T5_out (hc : ¬ T5_j725 τ ξ one two = 0) : ∀ n k s, ix (s 7 0) + n < 100000 → ix (s 7 (ix (3 : Int32))) ≤ 10 → AG s → s 7 0 = nI (ix (s 7 0)) → AG (T5_L746_s τ ξ one two (fun s => s) n k s) ∧ ix (T5_L746_s τ ξ one two (fun s => s) n k s 7 0) ≤ ix (s 7 0) + n := by
  intro n
  induction n with
  | zero => intro k s _ _ hA _; rw [T5_L746_s]; exact ⟨hA, Nat.le_refl _⟩
  | succ n ih =>
    intro k s hT h3 hA e7
    rw [T5_L746_s, if_neg hc]
    refine T5_in (T := ix (s 7 0)) (by omega) (KS := fun s761 => T5_L746_s τ ξ one two (fun s => s) n (k + 1) (sS s761 7 (ix (0 : Int32)) ((s761 7 (ix (0 : Int32))) + (1 : Int32)))) (Q := fun s' => AG s' ∧ ix (s' 7 0) ≤ ix (s 7 0) + (n + 1)) _ 0 s (by omega) rfl (fun j hj => absurd hj (Nat.not_lt_zero _)) (fun j _ hj => hA j hj) (fun s' es hs => ?_)
    have e0 : (sS s' 7 (ix (0 : Int32)) ((s' 7 (ix (0 : Int32))) + (1 : Int32))) 7 0 = nI (ix (s 7 0) + 1) := by
      rw [show ix (0 : Int32) = 0 from rfl, sS_same, es, e7, ixn (by omega), nI_1]
    have e1 : ix ((sS s' 7 (ix (0 : Int32)) ((s' 7 (ix (0 : Int32))) + (1 : Int32))) 7 0) = ix (s 7 0) + 1 := by rw [e0, ixn (by omega)]
    obtain ⟨q1, q2⟩ := ih (k + 1) (sS s' 7 (ix (0 : Int32)) ((s' 7 (ix (0 : Int32))) + (1 : Int32))) (by rw [e1]; omega) (by rw [show ix (0 : Int32) = 0 from rfl, show ix (3 : Int32) = 3 from rfl, sS_at, if_neg (by decide), es]; exact h3) (fun j hj => by rw [e1, sS_col (by decide)]; exact hs j hj) (by rw [e1]; exact e0)
    rw [e1] at q2
    exact ⟨q1, by omega⟩
theorem AT_T5 (hQ : LQ ξ τ) (hI : InvX ξ) (hA : AG τ) (h2 : vp_in two 60000) : AT τ (T5_s τ ξ one two) := by
  have hIL := IL_of hQ hI
  have ht := cnt (N := 20000) (IL_7_0 hIL) (by decide)
  rw [show ix (0 : Int32) = 0 from rfl] at ht
  unfold T5_s
  by_cases c : T5_j725 τ ξ one two = 0
  · have e : ∀ n k s, T5_L746_s τ ξ one two (fun s => s) n k s = s := by
      intro n
      cases n with
      | zero => intro k s; rw [T5_L746_s]
      | succ n => intro k s; rw [T5_L746_s, if_pos c]
    rw [e]
    exact ⟨hA, by omega⟩
  · have hh := vp_lt (T5_300 (σ := τ) (ξ := ξ) (one := one) h2 c)
    obtain ⟨q1, q2⟩ := T5_out (τ := τ) (ξ := ξ) (one := one) (two := two) c (ix (T5_j682 τ ξ one two)) 0 τ (by omega) (cnt (N := 10) (IL_7_3 hIL) (by decide)).2 hA ht.1
    exact ⟨q1, by omega⟩
end AGO
end
