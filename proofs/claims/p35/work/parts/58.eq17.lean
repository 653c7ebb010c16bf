noncomputable section
theorem pS_cong (σ : St) (p w : Int32) (f g : Nat → Int32) : ∀ n k a, (∀ i, i < k + n → f i = g i) → pS σ p w f n k a = pS σ p w g n k a := by
  intro n
  induction n with
  | zero => intro k a _; rw [pS, pS]
  | succ n ih =>
    intro k a h
    rw [pS, pS, h k (by omega)]
    exact ih (k + 1) _ (fun i hi => h i (by omega))
theorem bit0 {j : Nat} (hj : j < 11) : ¬ bit (nI 0) j := by
  have h : ∀ j : Fin 11, ¬ ((nI 0 >>> (nI j.val &&& 31)) &&& (1 : Int32)) = (1 : Int32) := by decide +kernel
  exact h ⟨j, hj⟩
theorem pS_0 {σ : St} (hO : InvO σ) (p : Int32) (f : Nat → Int32) : ∀ n k a, k + n ≤ ix (σ 13 0) → pS σ p (nI 0) f n k a = a := by
  intro n
  induction n with
  | zero => intro k a _; rw [pS]
  | succ n ih =>
    intro k a hk
    have h1 := oN_le (σ 14) p k (ix (σ 13 0) - k)
    rw [show k + (ix (σ 13 0) - k) = ix (σ 13 0) by omega] at h1
    have h2 := hO p
    rw [pS, if_neg (fun z => bit0 (by omega) z.2)]
    exact ih (k + 1) a (by omega)
theorem not_of_eq {a b : Int32} (h : a = b) : ¬ a < b := fun z => by rw [h, Int32.lt_iff_toInt_lt] at z; omega
theorem best_eq {σ : St} (hI : InvX σ) (hO : InvO σ) {p1 p2 p3 : Int32} (hp : vp_in p2 64) (h3 : p3.toInt ≤ 10000) (hj : M_plan_j25 σ p1 p2 p3 = 0) {s : St} (hF : pF σ p1 p2 (ix (σ 13 0)) s) : ∀ n k b sp co, 0 ≤ sp.toInt → M_plan_L68 σ p1 p2 p3 (fun a _ _ => a) n k b sp co = X_best_L10 σ s p3 (fun a _ _ => a) n k b co sp := by
  have hl := IX_lamps hI
  intro n
  induction n with
  | zero => intro k b sp co _; rw [M_plan_L68, X_best_L10]
  | succ n ih =>
    intro k b sp co h0
    have eg := pS_X hI hO (w := nI k) hF 1 (fun k => X_givenBy σ k (ix p2)) (fun k hk q => (hF.2 k hk q).2) (ix (σ 13 0)) 0 10 0 (Nat.zero_add _) rfl
    have ec := pS_X hI hO (w := nI k) hF 0 (X_planCost σ) (fun k hk q => (hF.2 k hk q).1) (ix (σ 13 0)) 0 10 0 (Nat.zero_add _) rfl
    have eM := pS_M hI hp hj k b sp co (fun a92_9 a92_10 a92_11 => M_plan_L68 σ p1 p2 p3 (fun a _ _ => a) n (k + 1) (M_plan_j237 σ p1 p2 p3 k b sp co a92_9 a92_10 a92_11) (M_plan_j265 σ p1 p2 p3 k b sp co a92_9 a92_10 a92_11) (M_plan_j251 σ p1 p2 p3 k b sp co a92_9 a92_10 a92_11)) (ix (σ 13 0)) 0 0 0 (by omega)
    have hc := pS_cost hI hO (p := p1) (w := nI k) (ix (σ 13 0)) 0 0 0 (Nat.zero_add _) (by decide) (by decide) (Int.natCast_nonneg _) (Int.natCast_nonneg _) (Or.inl rfl)
    rw [M_plan_L68, X_best_L10]
    refine Eq.trans eM ?_
    have g1 : X_sumOver σ s (nI k) 1 = pS σ p1 (nI k) (fun k => X_givenBy σ k (ix p2)) (ix (σ 13 0)) 0 0 := by
      unfold X_sumOver
      rw [n10_eq]
      exact eg
    have g0 : X_sumOver σ s (nI k) 0 = pS σ p1 (nI k) (X_planCost σ) (ix (σ 13 0)) 0 0 := by
      unfold X_sumOver
      rw [n10_eq]
      exact ec
    clear eM eg ec
    unfold X_best_j59l2 X_best_j59l3 X_best_j59l4 X_best_j36 M_plan_j237 M_plan_j265 M_plan_j251 M_plan_j204
    rw [g0, g1]
    clear g0 g1
    generalize pS σ p1 (nI k) (fun k => X_givenBy σ k (ix p2)) (ix (σ 13 0)) 0 0 = S at *
    generalize pS σ p1 (nI k) (cM σ) (ix (σ 13 0)) 0 0 = C at *
    generalize pS σ p1 (nI k) (X_planCost σ) (ix (σ 13 0)) 0 0 = C' at *
    by_cases q : p3 < C
    · have q' : p3 < C' := by
        rcases hc with z | z
        · rw [← z]; exact q
        · rw [Int32.lt_iff_toInt_lt]; omega
      have m1 : ¬ sp < -1 := fun z => by
        rw [Int32.lt_iff_toInt_lt, show (-1 : Int32).toInt = -1 from rfl] at z
        omega
      have m2 : ¬ (-1 : Int32) = sp := fun z => by
        rw [← z] at h0
        exact absurd h0 (by decide)
      repeat rw [if_pos q]
      repeat rw [if_pos q']
      repeat rw [if_pos rfl]
      repeat rw [if_neg m1]
      repeat rw [if_neg m2]
      exact ih (k + 1) b sp co h0
    · have ce : C = C' := by
        rcases hc with z | z
        · exact z
        · exact absurd (by rw [Int32.lt_iff_toInt_lt]; omega) q
      subst ce
      repeat rw [if_neg q]
      by_cases c1 : sp < S
      · repeat rw [if_pos c1]
        repeat rw [if_neg i10]
        exact ih (k + 1) (nI k) S C (by rw [Int32.lt_iff_toInt_lt] at c1; omega)
      repeat rw [if_neg c1]
      by_cases c2 : S = sp
      · repeat rw [if_pos c2]
        by_cases c3 : co ≤ C
        · repeat rw [if_pos c3]
          repeat rw [if_pos rfl]
          exact ih (k + 1) b sp co h0
        · repeat rw [if_neg c3]
          repeat rw [if_neg i10]
          exact ih (k + 1) (nI k) S C (by rw [c2]; exact h0)
      · repeat rw [if_neg c2]
        repeat rw [if_pos rfl]
        exact ih (k + 1) b sp co h0
theorem shl_pos {j : Nat} (hj : j < 11) : 1 ≤ ix ((1 : Int32) <<< (nI j &&& 31)) := by
  have h : ∀ j : Fin 11, 1 ≤ ix ((1 : Int32) <<< (nI j.val &&& 31)) := by decide +kernel
  exact h ⟨j, hj⟩
theorem Q_plan {σ : St} (hI : InvX σ) (hO : InvO σ) (μ : St) (p1 p2 p3 : Int32) : EQ σ (X_plan_c σ μ p1 p2 p3) (X_plan σ μ p1 p2 p3) σ (M_plan σ p1 p2 p3) (M_plan_s σ p1 p2 p3) 1 2 0 := by
  unfold X_plan_c X_plan M_plan M_plan_s
  by_cases c : vp_in p1 (ix (σ 8 0))
  · repeat rw [if_pos c]
    by_cases d : vp_in p2 64
    · repeat rw [if_pos d]
      have j5 : M_plan_j5 σ p1 p2 p3 = 1 := by
        unfold M_plan_j5
        rw [if_neg (fun z => (village_iff hI).mp z c), if_neg (fun z => place_iff.mp z d)]
      by_cases e : M_isIn p3 (0 : Int32) (10000 : Int32) = 0
      · have hj : M_plan_j25 σ p1 p2 p3 = 2 := by
          unfold M_plan_j25
          rw [j5, if_neg i10, if_pos e]
        rw [hj]
        repeat rw [if_pos e]
        repeat rw [if_neg (nf2 σ)]
        exact EQ.f2 rfl (sEq.f σ 2)
      · have hj : M_plan_j25 σ p1 p2 p3 = 0 := by
          unfold M_plan_j25
          rw [j5, if_neg i10, if_neg e]
        have h3 := (isIn_iff.mp e)
        rw [show (0 : Int32).toInt = 0 from rfl, show (10000 : Int32).toInt = 10000 from rfl] at h3
        have hF0 : pF σ p1 p2 0 (X_clear_s σ μ) := ⟨sS_same .., fun k' h => absurd h (Nat.not_lt_zero _)⟩
        have hF := pF_loop hI hO (μ := μ) (p3 := p3) c (ix (σ 13 0)) 0 _ (Nat.zero_add _) hF0
        rw [plan_s_k2, hj, plan_c, plan_K]
        repeat rw [if_neg e]
        repeat rw [if_pos (fails_0 σ)]
        refine EQ.ok rfl ?_ (sEq.f σ 0)
        rw [lampsOf41, lampsOf_eq hI, cntO_nI]
        have hO' := hO p1
        unfold X_best
        rw [show xL σ 3 = ix (σ 13 0) from rfl, hF.1]
        have hs := shl_pos (j := oN (σ 14) p1 (ix (σ 13 0))) (by omega)
        obtain ⟨m, hm⟩ : ∃ m, ix ((1 : Int32) <<< (nI (oN (σ 14) p1 (ix (σ 13 0))) &&& 31)) = m + 1 := ⟨_, (Nat.sub_add_cancel hs).symm⟩
        rw [hm, Nat.add_sub_cancel, ← best_eq hI hO d h3.2 hj hF m 1 0 0 0 (by decide), M_plan_L68]
        have hl := IX_lamps hI
        have eM := pS_M hI d hj 0 0 0 0 (fun a92_9 a92_10 a92_11 => M_plan_L68 σ p1 p2 p3 (fun a _ _ => a) m (0 + 1) (M_plan_j237 σ p1 p2 p3 0 0 0 0 a92_9 a92_10 a92_11) (M_plan_j265 σ p1 p2 p3 0 0 0 0 a92_9 a92_10 a92_11) (M_plan_j251 σ p1 p2 p3 0 0 0 0 a92_9 a92_10 a92_11)) (ix (σ 13 0)) 0 0 0 (by omega)
        refine Eq.trans eM ?_
        rw [pS_0 hO _ _ _ _ _ (by omega), pS_0 hO _ _ _ _ _ (by omega)]
        have j0 : ∀ x, M_plan_j204 σ p1 p2 p3 0 0 0 0 x 0 0 = 0 := fun x => by
          unfold M_plan_j204
          split
          · rfl
          · rfl
        unfold M_plan_j237 M_plan_j265 M_plan_j251
        rw [j0]
        rfl
    · have hj : M_plan_j25 σ p1 p2 p3 = 1 := by
        unfold M_plan_j25 M_plan_j5
        rw [if_neg (fun z => (village_iff hI).mp z c), if_pos (place_iff.mpr d), if_pos rfl]
      rw [hj]
      repeat rw [if_neg d]
      repeat rw [if_neg (nf1 σ)]
      exact EQ.f1 rfl (sEq.f σ 1)
  · have hj : M_plan_j25 σ p1 p2 p3 = 1 := by
      unfold M_plan_j25 M_plan_j5
      rw [if_pos ((village_iff hI).mpr c), if_pos rfl]
    rw [hj]
    repeat rw [if_neg c]
    repeat rw [if_neg (nf1 σ)]
    exact EQ.f1 rfl (sEq.f σ 1)
end
