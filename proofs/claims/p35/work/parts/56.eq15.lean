noncomputable section
theorem fine_iff {σ : St} (hI : InvX σ) (l : Nat) : (σ 0 0 - σ 25 l < 720) ↔ σ 0 0 < nextFine (σ 25 l) := by
  have h2 := vp_in_iff.mp (hI.1 0 0 : vp_in (σ 0 0) 20001)
  have e7 : (720 : Int32).toInt = 720 := rfl
  unfold nextFine
  rcases (hI.1 25 l : σ 25 l = (-100000) ∨ vp_in (σ 25 l) 20001) with z | z
  · rw [z, if_pos rfl, Int32.lt_iff_toInt_lt, Int32.lt_iff_toInt_lt, Int32.toInt_zero, e7]
    have e : (σ 0 0 - (-100000)).toInt = (σ 0 0).toInt + 100000 := by
      rw [Int32.toInt_sub, show (-100000 : Int32).toInt = -100000 from rfl]
      exact (Int.bmod_eq_of_le (by omega) (by omega)).trans (by omega)
    rw [e]
    omega
  · have h3 := vp_in_iff.mp z
    have hn : ¬ σ 25 l = (-100000) := fun w => by
      rw [w] at h3
      exact absurd h3.1 (by decide)
    rw [if_neg hn, Int32.lt_iff_toInt_lt, Int32.lt_iff_toInt_lt, e7]
    have e : (σ 0 0 - σ 25 l).toInt = (σ 0 0).toInt - (σ 25 l).toInt := by
      rw [Int32.toInt_sub]
      exact Int.bmod_eq_of_le (by omega) (by omega)
    have e' : (σ 25 l + 720).toInt = (σ 25 l).toInt + 720 := by
      rw [Int32.toInt_add, e7]
      exact Int.bmod_eq_of_le (by omega) (by omega)
    rw [e, e']
    omega
theorem ins_inv {s : St} {p1 : Int32} {k : Nat} {a : Int32} (hI : InvX s) (hk : k < ix (s 13 0)) : InvX (X_inspect_j46_s s p1 k a s) ∧ X_inspect_j46_s s p1 k a s 13 = s 13 := by
  have hx := IX_lamps hI
  have e : ix (nI k) = k := ixn (by omega)
  unfold X_inspect_j46_s
  (repeat' split)
  · exact ⟨hI, rfl⟩
  · exact ⟨hI, rfl⟩
  · refine ⟨X_pay_inv (InvX_sS hI (Or.inr (hI.1 0 0)) trivial) (IX_own hI (by rw [e]; exact hk)), ?_⟩
    unfold X_payFine_s
    rw [sS_col (by decide), sS_col (by decide), sS_col (by decide)]
  · exact ⟨hI, rfl⟩
theorem ins_step {s s' : St} {σ σ' : St} {p1 : Int32} {k : Nat} {a : Int32} (h4 : vp_in p1 4) (hI : InvX s') (h : sEq s s') : M_inspect_j45l2 σ p1 k a s = X_inspect_j46l3 σ' p1 k a s' ∧ sEq (M_inspect_j45_s σ p1 k a s) (X_inspect_j46_s σ' p1 k a s') := by
  unfold M_inspect_j45l2 M_inspect_j45_s X_inspect_j46l3 X_inspect_j46_s
  have ez : ix (s' 3 (ix (s' 15 (ix (nI k))))) = ix p1 ↔ s 3 (ix (s 15 (ix (nI k)))) = p1 := by
    rw [h 3 (by decide), h 15 (by decide)]
    constructor
    · intro z
      rw [vp_nI' (hI.1 3 (ix (s' 15 (ix (nI k)))) : vp_in (s' 3 (ix (s' 15 (ix (nI k))))) 4) (by decide), z, ← vp_nI' h4 (by decide)]
    · exact fun z => by rw [z]
  by_cases c1 : s 3 (ix (s 15 (ix (nI k)))) = p1
  · rw [if_pos c1, if_pos c1, if_pos (ez.mpr c1), if_pos (ez.mpr c1), unl_c h, unl_eq]
    by_cases c2 : M_isUnlawful s' (nI k) = 0
    · repeat rw [if_pos c2]
      exact ⟨rfl, h⟩
    repeat rw [if_neg c2]
    have ef := fine_iff hI (ix (nI k))
    rw [← h 0 (by decide), ← h 25 (by decide)] at ef
    by_cases c3 : s 0 0 - s 25 (ix (nI k)) < 720
    · repeat rw [if_pos c3]
      rw [← h 0 (by decide), ← h 25 (by decide)]
      repeat rw [if_pos (ef.mp c3)]
      exact ⟨rfl, h⟩
    · repeat rw [if_neg c3]
      have c3' : ¬ s' 0 0 < nextFine (s' 25 (ix (nI k))) := by
        rw [← h 0 (by decide), ← h 25 (by decide)]
        exact fun z => c3 (ef.mpr z)
      repeat rw [if_neg c3']
      refine ⟨rfl, ?_⟩
      unfold X_payFine_s
      rw [sS_swap s' (a := 25) (b := 10) (by decide), sS_swap _ (a := 25) (b := 11) (by decide)]
      have v10 : s 10 = s' 10 := h 10 (by decide)
      have v11 : s 11 = s' 11 := h 11 (by decide)
      have v14 : s 14 = s' 14 := h 14 (by decide)
      have v0 : s 0 = s' 0 := h 0 (by decide)
      show sEq (sS (sS (sS s 10 (ix (s 14 (ix (nI k)))) (s 10 (ix (s 14 (ix (nI k)))) - 10)) 11 (ix (s 14 (ix (nI k)))) (s 11 (ix (s 14 (ix (nI k)))) + 10)) 25 (ix (nI k)) (s 0 0)) (sS (sS (sS s' 10 (ix (s' 14 (ix (nI k)))) (s' 10 (ix (s' 14 (ix (nI k)))) - 10)) 11 (ix (s' 14 (ix (nI k)))) (s' 11 (ix (s' 14 (ix (nI k)))) + 10)) 25 (ix (nI k)) (s' 0 0))
      rw [v10, v11, v14, v0]
      exact ((h.S _ _ _).S _ _ _).S _ _ _
  · have c1' := fun z => c1 (ez.mp z)
    repeat rw [if_neg c1]
    repeat rw [if_neg c1']
    exact ⟨rfl, h⟩
theorem ins_eq {σ : St} {p1 : Int32} (h4 : vp_in p1 4) : ∀ n k, k + n = ix (σ 13 0) → ∀ a s s', sEq s s' → InvX s' → s' 13 = σ 13 → M_inspect_L25 σ p1 (fun a _ => a) n k a s = X_inspect_L11 σ p1 (fun a _ => a) n k a s' ∧ sEq (M_inspect_L25_s σ p1 (fun _ s => s) n k a s) (X_inspect_L11_s σ p1 (fun _ s => s) n k a s') ∧ InvX (X_inspect_L11_s σ p1 (fun _ s => s) n k a s') := by
  intro n
  induction n with
  | zero =>
    intro k _ a s s' h hI _
    rw [M_inspect_L25, X_inspect_L11, M_inspect_L25_s, X_inspect_L11_s]
    exact ⟨rfl, h, hI⟩
  | succ n ih =>
    intro k hk a s s' h hI h13
    obtain ⟨e1, e2⟩ := ins_step (σ := σ) (σ' := σ) (k := k) (a := a) h4 hI h
    have hi := ins_inv (p1 := p1) (a := a) (k := k) hI (by rw [h13]; omega)
    rw [M_inspect_L25, X_inspect_L11, M_inspect_L25_s, X_inspect_L11_s, e1]
    exact ih (k + 1) (by omega) _ _ _ e2 hi.1 (hi.2.trans h13)
theorem insX_c (σ : St) (p1 : Int32) (v : Int32) : ∀ n k a s, X_inspect_L11_c σ p1 (fun _ _ => v) n k a s = v := by
  intro n
  induction n with
  | zero => intro k a s; rw [X_inspect_L11_c]
  | succ n ih => intro k a s; rw [X_inspect_L11_c, ih]
theorem Q_inspect {σ : St} (hI : InvX σ) (p1 : Int32) : EQ σ (X_inspect_c σ p1) (X_inspect σ p1) (X_inspect_s σ p1) (M_inspect σ p1) (M_inspect_s σ p1) 1 0 0 ∧ InvX (X_inspect_s σ p1) := by
  unfold X_inspect_c X_inspect X_inspect_s M_inspect M_inspect_s
  by_cases c : vp_in p1 4
  · repeat rw [if_pos c]
    have hj : M_inspect_j5 σ p1 = 0 := by
      unfold M_inspect_j5
      rw [if_neg (fun z => zone_iff.mp z c)]
    rw [hj]
    obtain ⟨e1, e2, e3⟩ := ins_eq (σ := σ) c (ix (σ 13 0)) 0 (Nat.zero_add _) 0 (M_fails_s σ 0) σ (sEq.f σ 0) hI rfl
    repeat rw [if_pos (fails_0 σ)]
    rw [insX_c]
    refine ⟨EQ.ok ?_ e1 e2, e3⟩
    have h41 : ∀ n k a s, s 41 0 = 0 → M_inspect_L25_s σ p1 (fun _ s => s) n k a s 41 0 = 0 := by
      intro n
      induction n with
      | zero => intro k a s h; rw [M_inspect_L25_s]; exact h
      | succ n ih =>
        intro k a s h
        rw [M_inspect_L25_s]
        refine ih _ _ _ ?_
        unfold M_inspect_j45_s
        (repeat' split)
        · exact h
        · exact h
        · exact h
        · exact h
    exact h41 _ _ _ _ rfl
  · have hj : M_inspect_j5 σ p1 = 1 := by
      unfold M_inspect_j5
      rw [if_pos (zone_iff.mpr c)]
    rw [hj]
    repeat rw [if_neg c]
    repeat rw [if_neg (nf1 σ)]
    exact ⟨EQ.f1 rfl (sEq.f σ 1), hI⟩
theorem p50_K (σ : St) (p1 : Int32) (k43 : Nat) (s43 : St) (K : St → Int32) : ∀ n k s, M_pass_L50 σ p1 k43 s43 K n k s = K (M_pass_L50_s σ p1 k43 s43 (fun s => s) n k s) := by
  intro n
  induction n with
  | zero => intro k s; rw [M_pass_L50, M_pass_L50_s]
  | succ n ih => intro k s; rw [M_pass_L50, M_pass_L50_s, ih]
theorem p50_Ks (σ : St) (p1 : Int32) (k43 : Nat) (s43 : St) (K : St → St) : ∀ n k s, M_pass_L50_s σ p1 k43 s43 K n k s = K (M_pass_L50_s σ p1 k43 s43 (fun s => s) n k s) := by
  intro n
  induction n with
  | zero => intro k s; rw [M_pass_L50_s, M_pass_L50_s]
  | succ n ih => intro k s; rw [M_pass_L50_s, M_pass_L50_s, ih]
theorem p50_eq {σ : St} {p1 : Int32} {k43 : Nat} {s43 x : St} : ∀ n k, k + n = ix (x 13 0) → ∀ s s', sEq s s' → InvX s' → s' 13 = x 13 → sEq (M_pass_L50_s σ p1 k43 s43 (fun s => s) n k s) (X_ageLamps_L2_s x (fun s => s) n k s') ∧ (M_pass_L50_s σ p1 k43 s43 (fun s => s) n k s) 41 = s 41 := by
  intro n
  induction n with
  | zero =>
    intro k _ s s' h _ _
    rw [M_pass_L50_s, X_ageLamps_L2_s]
    exact ⟨h, rfl⟩
  | succ n ih =>
    intro k hk s s' h hI h13
    have hx := IX_lamps hI
    rw [h13] at hx
    have e : ix (nI k) = k := ixn (by omega)
    rw [M_pass_L50_s, X_ageLamps_L2_s]
    unfold M_pass_j70 X_ageLamps_j30_s
    rw [burns_c h, burns_eq hI]
    have v23 : s 23 = s' 23 := h 23 (by decide)
    by_cases c : M_burns s' (nI k) = 0
    · rw [if_pos c, if_pos c, Int32.add_zero, sS_id]
      exact ih (k + 1) (by omega) _ _ h hI h13
    · rw [if_neg c, if_neg c, v23]
      exact ih (k + 1) (by omega) _ _ (h.S _ _ _) (InvX_sS hI trivial (by show ix (nI k) < ix (s' 13 0); rw [e, h13]; omega)) h13
theorem p43_eq {σ : St} {p1 : Int32} : ∀ n k s s', sEq s s' → InvX s' → s' 13 = σ 13 → s' 0 0 = nI (ix (s' 0 0)) → ix (s' 0 0) + n ≤ 20000 → M_pass_L43 σ p1 (fun s => s 0 0) n k s = X_pass_L30 σ p1 (fun s => s 0 0) n k s' ∧ sEq (M_pass_L43_s σ p1 (fun s => s) n k s) (X_pass_L30_s σ p1 (fun s => s) n k s') ∧ InvX (X_pass_L30_s σ p1 (fun s => s) n k s') ∧ (M_pass_L43_s σ p1 (fun s => s) n k s) 41 = s 41 := by
  intro n
  induction n with
  | zero =>
    intro k s s' h hI _ _ _
    rw [M_pass_L43, X_pass_L30, M_pass_L43_s, X_pass_L30_s, h 0 (by decide)]
    exact ⟨rfl, h, hI, rfl⟩
  | succ n ih =>
    intro k s s' h hI h13 ht hn
    have e13 : ix (σ 13 0) = ix (s' 13 0) := by rw [h13]
    obtain ⟨q, q41⟩ := p50_eq (σ := σ) (p1 := p1) (k43 := k) (s43 := s) (x := s') (ix (σ 13 0)) 0 (by rw [e13, Nat.zero_add]) s s' h hI rfl
    have hs : X_ageLamps_L2_s s' (fun s => s) (ix (σ 13 0)) 0 s' = X_ageLamps_s s' := by
      rw [e13]
      rfl
    rw [hs] at q
    have hI1 := X_age_inv hI
    have t1 : X_ageLamps_s s' 0 = s' 0 := X_age_col hI (by decide)
    have t13 : X_ageLamps_s s' 13 = s' 13 := X_age_col hI (by decide)
    have tt : X_ageLamps_s s' 0 0 + 1 = nI (ix (s' 0 0) + 1) := by
      rw [t1, ← nI_1, ← ht]
    have hI2 : InvX (sC (X_ageLamps_s s') 0 (X_ageLamps_s s' 0 0 + 1)) := InvX_sC hI1 (by show vp_in (X_ageLamps_s s' 0 0 + 1) 20001; rw [tt]; exact vp_in_nI (by omega) (by decide)) (Or.inl rfl)
    rw [M_pass_L43, X_pass_L30, M_pass_L43_s, X_pass_L30_s, p50_Ks (K := fun s50 => M_pass_L43_s σ p1 (fun s => s) n (k + 1) (sC s50 0 (s50 0 0 + 1))), p50_K]
    have q0 := q 0 (by decide)
    rw [q0]
    have hh := ih (k + 1) (sC (M_pass_L50_s σ p1 k s (fun s => s) (ix (σ 13 0)) 0 s) 0 (X_ageLamps_s s' 0 0 + 1)) (sC (X_ageLamps_s s') 0 (X_ageLamps_s s' 0 0 + 1)) (q.C _ _) hI2 (t13.trans h13) (by rw [sC_same, tt, ixn (by omega)]) (by rw [sC_same, tt, ixn (by omega)]; omega)
    exact ⟨hh.1, hh.2.1, hh.2.2.1, hh.2.2.2.trans q41⟩
theorem psX_c (σ : St) (p1 : Int32) (v : Int32) : ∀ n k s, X_pass_L30_c σ p1 (fun _ => v) n k s = v := by
  intro n
  induction n with
  | zero => intro k s; rw [X_pass_L30_c]
  | succ n ih => intro k s; rw [X_pass_L30_c, ih]
theorem Q_pass {σ : St} (hI : InvX σ) (p1 : Int32) : EQ σ (X_pass_c σ p1) (X_pass σ p1) (X_pass_s σ p1) (M_pass σ p1) (M_pass_s σ p1) 0 1 2 ∧ InvX (X_pass_s σ p1) := by
  unfold X_pass_c X_pass X_pass_s M_pass M_pass_s X_pass_j17
  by_cases c : M_isIn p1 1 500 = 0
  · have hj : M_pass_j9 σ p1 = 1 := by
      unfold M_pass_j9
      rw [if_pos c]
    rw [hj]
    repeat rw [if_pos c]
    repeat rw [if_neg (nf1 σ)]
    exact ⟨EQ.f2 rfl (sEq.f σ 1), hI⟩
  repeat rw [if_neg c]
  by_cases d : (20000 : Int32) < σ 0 0 + p1
  · have hj : M_pass_j9 σ p1 = 2 := by
      unfold M_pass_j9
      rw [if_neg c, if_neg (fun z => not_lt32.mpr z d)]
    rw [hj]
    repeat rw [if_pos d]
    repeat rw [if_pos rfl]
    repeat rw [if_neg (nf2 σ)]
    exact ⟨EQ.f3 rfl (sEq.f σ 2), hI⟩
  · have hj : M_pass_j9 σ p1 = 0 := by
      unfold M_pass_j9
      rw [if_neg c, if_pos (not_lt32.mp d)]
    rw [hj]
    repeat rw [if_neg d]
    repeat rw [if_neg i10]
    repeat rw [if_pos (fails_0 σ)]
    have hc := isIn_iff.mp c
    rw [show (1 : Int32).toInt = 1 from rfl, show (500 : Int32).toInt = 500 from rfl] at hc
    have h2 := vp_in_iff.mp (hI.1 0 0 : vp_in (σ 0 0) 20001)
    have hs : (σ 0 0 + p1).toInt = (σ 0 0).toInt + p1.toInt := by
      rw [Int32.toInt_add]
      exact Int.bmod_eq_of_le (by omega) (by omega)
    rw [Int32.lt_iff_toInt_lt, hs, show (20000 : Int32).toInt = 20000 from rfl] at d
    have e0 := (cnt (N := 20000) (hI.1 0 0) (by decide)).1
    have ex : ix (σ 0 0) + ix p1 ≤ 20000 := by
      show (σ 0 0).toInt.toNat + p1.toInt.toNat ≤ 20000
      omega
    obtain ⟨q1, q2, q3, q4⟩ := p43_eq (σ := σ) (p1 := p1) (ix p1) 0 (M_fails_s σ 0) σ (sEq.f σ 0) hI rfl e0 ex
    rw [psX_c]
    exact ⟨EQ.ok (by rw [q4]; rfl) q1 q2, q3⟩
end
