noncomputable section
/-- the number of an owner's lamps among the first -/
def oN (f : Nat → Int32) (v : Int32) : Nat → Nat
  | 0 => 0
  | n + 1 => oN f v n + (if f n = v then 1 else 0)
theorem cntO_nI (f : Nat → Int32) (v : Int32) : ∀ n, cntO f v n = nI (oN f v n) := by
  intro n
  induction n with
  | zero => rfl
  | succ n ih =>
    show cntO f v n + (if f n = v then 1 else 0) = nI (oN f v n + (if f n = v then 1 else 0))
    rw [ih]
    by_cases c : f n = v
    · rw [if_pos c, if_pos c, nI_1]
    · rw [if_neg c, if_neg c, Int32.add_zero, Nat.add_zero]
theorem oN_le (f : Nat → Int32) (v : Int32) (k : Nat) : ∀ n, oN f v k ≤ oN f v (k + n) := by
  intro n
  induction n with
  | zero => exact Nat.le_refl _
  | succ n ih => exact Nat.le_trans ih (Nat.le_add_right _ _)
theorem oN_own {f : Nat → Int32} {v : Int32} {k : Nat} (h : f k = v) : oN f v (k + 1) = oN f v k + 1 := congrArg (oN f v k + ·) (if_pos h)
theorem oN_not {f : Nat → Int32} {v : Int32} {k : Nat} (h : ¬ f k = v) : oN f v (k + 1) = oN f v k := congrArg (oN f v k + ·) (if_neg h)
theorem oN_lt {f : Nat → Int32} {v : Int32} {k m : Nat} (h : f k = v) (hk : k < m) : oN f v k < oN f v m := by
  have := oN_le f v (k + 1) (m - (k + 1))
  rw [oN_own h, show k + 1 + (m - (k + 1)) = m by omega] at this
  exact this
def InvO (σ : St) : Prop := ∀ v, oN (σ 14) v (ix (σ 13 0)) ≤ 10
theorem plan_K (σ : St) (μ : St) (p1 p2 p3 : Int32) (K : St → Int32) : ∀ n k s, X_plan_L32 σ μ p1 p2 p3 K n k s = K (X_plan_L32_s σ μ p1 p2 p3 (fun s => s) n k s) := by
  intro n
  induction n with
  | zero => intro k s; rw [X_plan_L32, X_plan_L32_s]
  | succ n ih => intro k s; rw [X_plan_L32, X_plan_L32_s, ih]
theorem plan_c (σ : St) (μ : St) (p1 p2 p3 : Int32) (v : Int32) : ∀ n k s, X_plan_L32_c σ μ p1 p2 p3 (fun _ => v) n k s = v := by
  intro n
  induction n with
  | zero => intro k s; rw [X_plan_L32_c]
  | succ n ih => intro k s; rw [X_plan_L32_c, ih]
/-- the rows of Choice hold the first k lamps' own ones -/
def pF (σ : St) (p1 p2 : Int32) (k : Nat) (s : St) : Prop := s 2 0 = nI (oN (σ 14) p1 k) ∧ ∀ k', k' < k → σ 14 k' = p1 → s 20 (oN (σ 14) p1 k') = X_planCost σ k' ∧ s 21 (oN (σ 14) p1 k') = X_givenBy σ k' (ix p2)
theorem pF_step {σ : St} (hI : InvX σ) (hO : InvO σ) {μ : St} {p1 p2 p3 : Int32} (c : vp_in p1 (ix (σ 8 0))) {k : Nat} {s : St} (hk : k < ix (σ 13 0)) (h : pF σ p1 p2 k s) : pF σ p1 p2 (k + 1) (X_plan_j65_s σ μ p1 p2 p3 k s) := by
  have hl := IX_lamps hI
  have e : ix (nI k) = k := ixn (by omega)
  obtain ⟨h1, h2⟩ := h
  unfold X_plan_j65_s
  rw [e]
  by_cases q : σ 14 k = p1
  · rw [if_pos ((own_iff hI c k).mpr q)]
    have hc : oN (σ 14) p1 k < 10 := Nat.lt_of_lt_of_le (oN_lt q hk) (hO p1)
    have n1 : ¬ s 2 0 < 0 := by
      rw [h1]
      exact not_lt32.mpr ((nI_leI (a := 0) (b := oN (σ 14) p1 k) (by omega) (by omega)).mpr (by omega))
    have n2 : ¬ (10 : Int32) ≤ s 2 0 := by
      rw [h1]
      exact fun z => absurd ((nI_leI (a := 10) (b := oN (σ 14) p1 k) (by omega) (by omega)).mp z) (by omega)
    have e2 : ix (s 2 0) = oN (σ 14) p1 k := by rw [h1, ixn (by omega)]
    unfold X_offer_s X_offer_j4_s
    rw [if_neg n1, if_neg n2]
    simp only [sS_col (show (2 : Nat) ≠ 20 by decide), sS_col (show (2 : Nat) ≠ 21 by decide), e2]
    refine ⟨?_, fun k' hk' q' => ?_⟩
    · rw [sS_same, h1, oN_own q, nI_1]
    · rw [sS_col (show (20 : Nat) ≠ 2 by decide), sS_col (show (20 : Nat) ≠ 21 by decide), sS_col (show (21 : Nat) ≠ 2 by decide)]
      rcases Nat.lt_succ_iff_lt_or_eq.mp hk' with w | w
      · have hlt : oN (σ 14) p1 k' < oN (σ 14) p1 k := oN_lt q' w
        rw [sS_ne (fun _ => by omega), sS_ne (fun _ => by omega), sS_col (show (21 : Nat) ≠ 20 by decide)]
        exact h2 k' w q'
      · subst w
        rw [sS_same, sS_same]
        exact ⟨rfl, rfl⟩
  · rw [if_neg (fun z => q ((own_iff hI c k).mp z))]
    refine ⟨by rw [h1, oN_not q], fun k' hk' q' => ?_⟩
    rcases Nat.lt_succ_iff_lt_or_eq.mp hk' with w | w
    · exact h2 k' w q'
    · subst w
      exact absurd q' q
theorem pF_loop {σ : St} (hI : InvX σ) (hO : InvO σ) {μ : St} {p1 p2 p3 : Int32} (c : vp_in p1 (ix (σ 8 0))) : ∀ n k s, k + n = ix (σ 13 0) → pF σ p1 p2 k s → pF σ p1 p2 (ix (σ 13 0)) (X_plan_L32_s σ μ p1 p2 p3 (fun s => s) n k s) := by
  intro n
  induction n with
  | zero =>
    intro k s hk h
    rw [X_plan_L32_s, ← hk]
    exact h
  | succ n ih =>
    intro k s hk h
    rw [X_plan_L32_s]
    exact ih (k + 1) _ (by omega) (pF_step hI hO c (by omega) h)
def bit (w : Int32) (j : Nat) : Prop := ((w >>> (nI j &&& 31)) &&& (1 : Int32)) = (1 : Int32)
/-- the sum of f over an owner's lamps in the set w -/
def pS (σ : St) (p w : Int32) (f : Nat → Int32) : Nat → Nat → Int32 → Int32
  | 0, _, a => a
  | n + 1, k, a => pS σ p w f n (k + 1) (@ite _ (σ 14 k = p ∧ bit w (oN (σ 14) p k)) (Classical.propDecidable _) (a + f k) a)
theorem pS_X {σ : St} (hI : InvX σ) (hO : InvO σ) {s : St} {p1 p2 w : Int32} (hF : pF σ p1 p2 (ix (σ 13 0)) s) (r : Nat) (f : Nat → Int32) (hf : ∀ k, k < ix (σ 13 0) → σ 14 k = p1 → s (20 + r) (oN (σ 14) p1 k) = f k) : ∀ n k m a, k + n = ix (σ 13 0) → m + oN (σ 14) p1 k = 10 → X_sumOver_L5 σ s w r (fun a => a) m (oN (σ 14) p1 k) a = pS σ p1 w f n k a := by
  have hl := IX_lamps hI
  intro n
  induction n with
  | zero =>
    intro k m a hk hm
    rw [pS]
    cases m with
    | zero => rw [X_sumOver_L5]
    | succ m =>
      rw [X_sumOver_L5, hF.1, ← hk, Nat.add_zero, if_pos ((nI_leI (a := oN (σ 14) p1 k) (b := oN (σ 14) p1 k) (by omega) (by omega)).mpr (Nat.le_refl _))]
  | succ n ih =>
    intro k m a hk hm
    rw [pS]
    by_cases q : σ 14 k = p1
    · have hlt : oN (σ 14) p1 k < oN (σ 14) p1 (ix (σ 13 0)) := oN_lt q (by omega)
      have hO' := hO p1
      obtain ⟨m, rfl⟩ : ∃ m', m = m' + 1 := ⟨m - 1, by omega⟩
      have n1 : ¬ s 2 0 ≤ nI (oN (σ 14) p1 k) := by
        rw [hF.1]
        exact fun z => absurd ((nI_leI (a := oN (σ 14) p1 (ix (σ 13 0))) (b := oN (σ 14) p1 k) (by omega) (by omega)).mp z) (by omega)
      have n2 : ¬ (10 : Int32) ≤ nI (oN (σ 14) p1 k) := fun z => absurd ((nI_leI (a := 10) (b := oN (σ 14) p1 k) (by omega) (by omega)).mp z) (by omega)
      rw [X_sumOver_L5, if_neg n1, if_neg n2, ← oN_own q, ih (k + 1) m _ (by omega) (by rw [oN_own q]; omega)]
      congr 1
      unfold X_sumOver_j28l3
      rw [ixn (by omega), hf k (by omega) q]
      by_cases b : bit w (oN (σ 14) p1 k)
      · rw [if_pos (show (w >>> (nI (oN (σ 14) p1 k) &&& 31)) &&& (1 : Int32) = 1 from b), if_pos ⟨q, b⟩]
      · rw [if_neg (show ¬ (w >>> (nI (oN (σ 14) p1 k) &&& 31)) &&& (1 : Int32) = 1 from b), if_neg (fun z => b z.2)]
    · rw [if_neg (fun z => q z.1), ← oN_not q]
      exact ih (k + 1) m a (by omega) (by rw [oN_not q]; exact hm)
def cM (σ : St) (k : Nat) : Int32 := if M_isBound σ (nI k) = 0 then (2 : Int32) * ((10 : Int32) - σ 18 k) else 20000
theorem pS_M {σ : St} (hI : InvX σ) {p1 p2 p3 : Int32} (hp : vp_in p2 64) (hj : M_plan_j25 σ p1 p2 p3 = 0) (w : Nat) (x y z : Int32) (K : Int32 → Int32 → Int32 → Int32) : ∀ n k b c, k + n ≤ 40 → M_plan_L92 σ p1 p2 p3 w x y z K n k (nI (oN (σ 14) p1 k)) b c = K (nI (oN (σ 14) p1 (k + n))) (pS σ p1 (nI w) (fun k => X_givenBy σ k (ix p2)) n k b) (pS σ p1 (nI w) (cM σ) n k c) := by
  intro n
  induction n with
  | zero => intro k b c _; rw [M_plan_L92, pS, pS]; rfl
  | succ n ih =>
    intro k b c hk
    have e : ix (nI k) = k := ixn (by omega)
    have eg : M_given (M_fails_s σ 0) (nI k) p2 = X_givenBy σ k (ix p2) := by
      rw [given41, ← given_eq hI hp, e]
    have e9 : M_plan_j109l9 σ p1 p2 p3 w x y z k (nI (oN (σ 14) p1 k)) b c = nI (oN (σ 14) p1 (k + 1)) := by
      unfold M_plan_j109l9
      rw [hj, e]
      by_cases q : σ 14 k = p1
      · rw [if_pos (show M_fails_s σ 0 14 k = p1 from q), oN_own q, nI_1]
      · rw [if_neg (show ¬ M_fails_s σ 0 14 k = p1 from q), oN_not q]
    have e10 : M_plan_j109l10 σ p1 p2 p3 w x y z k (nI (oN (σ 14) p1 k)) b c = (@ite _ (σ 14 k = p1 ∧ bit (nI w) (oN (σ 14) p1 k)) (Classical.propDecidable _) (b + X_givenBy σ k (ix p2)) b) := by
      unfold M_plan_j109l10 M_plan_j134 M_plan_j120
      rw [hj, e, eg]
      by_cases q : σ 14 k = p1
      · rw [if_pos (show M_fails_s σ 0 14 k = p1 from q)]
        by_cases d : bit (nI w) (oN (σ 14) p1 k)
        · rw [if_pos (show (nI w >>> (nI (oN (σ 14) p1 k) &&& 31)) &&& (1 : Int32) = 1 from d), if_neg i10, if_pos ⟨q, d⟩]
        · rw [if_neg (show ¬ (nI w >>> (nI (oN (σ 14) p1 k) &&& 31)) &&& (1 : Int32) = 1 from d), if_pos rfl, if_neg (fun z => d z.2), Int32.add_zero]
      · rw [if_neg (show ¬ M_fails_s σ 0 14 k = p1 from q), if_neg (fun z => q z.1)]
    have e11 : M_plan_j109l11 σ p1 p2 p3 w x y z k (nI (oN (σ 14) p1 k)) b c = (@ite _ (σ 14 k = p1 ∧ bit (nI w) (oN (σ 14) p1 k)) (Classical.propDecidable _) (c + cM σ k) c) := by
      unfold M_plan_j109l11 M_plan_j155 M_plan_j120
      rw [hj, e]
      have ec : (if M_isBound (M_fails_s σ 0) (nI k) = 0 then (2 : Int32) * ((10 : Int32) - (M_fails_s σ 0) 18 k) else 20000) = cM σ k := rfl
      rw [ec]
      by_cases q : σ 14 k = p1
      · rw [if_pos (show M_fails_s σ 0 14 k = p1 from q)]
        by_cases d : bit (nI w) (oN (σ 14) p1 k)
        · rw [if_pos (show (nI w >>> (nI (oN (σ 14) p1 k) &&& 31)) &&& (1 : Int32) = 1 from d), if_neg i10, if_pos ⟨q, d⟩]
        · rw [if_neg (show ¬ (nI w >>> (nI (oN (σ 14) p1 k) &&& 31)) &&& (1 : Int32) = 1 from d), if_pos rfl, if_neg (fun z => d z.2), Int32.add_zero]
      · rw [if_neg (show ¬ M_fails_s σ 0 14 k = p1 from q), if_neg (fun z => q z.1)]
    rw [M_plan_L92, e9, e10, e11, ih (k + 1) _ _ (by omega), show k + 1 + n = k + (n + 1) by omega, pS, pS]
theorem plan_s_k (σ : St) (p1 p2 p3 : Int32) (w : Nat) (x y z : Int32) (v : St) : ∀ n k a b c, M_plan_L92_s σ p1 p2 p3 w x y z (fun _ _ _ => v) n k a b c = v := by
  intro n
  induction n with
  | zero => intro k a b c; rw [M_plan_L92_s]
  | succ n ih => intro k a b c; rw [M_plan_L92_s, ih]
theorem plan_s_k2 (σ : St) (p1 p2 p3 : Int32) (v : St) : ∀ n k a b c, M_plan_L68_s σ p1 p2 p3 (fun _ _ _ => v) n k a b c = v := by
  intro n
  induction n with
  | zero => intro k a b c; rw [M_plan_L68_s]
  | succ n ih =>
    intro k a b c
    rw [M_plan_L68_s, show (fun a92_9 a92_10 a92_11 => M_plan_L68_s σ p1 p2 p3 (fun _ _ _ => v) n (k + 1) (M_plan_j237 σ p1 p2 p3 k a b c a92_9 a92_10 a92_11) (M_plan_j265 σ p1 p2 p3 k a b c a92_9 a92_10 a92_11) (M_plan_j251 σ p1 p2 p3 k a b c a92_9 a92_10 a92_11)) = fun _ _ _ => v from funext fun _ => funext fun _ => funext fun _ => ih _ _ _ _, plan_s_k]
theorem cost_eq {σ : St} (hI : InvX σ) {k : Nat} (hk : k < 40) : (X_planCost σ k = cM σ k ∧ 0 ≤ (cM σ k).toInt ∧ (cM σ k).toInt ≤ 20) ∨ (X_planCost σ k = 10001 ∧ cM σ k = 20000) := by
  have e : ix (nI k) = k := ixn (by omega)
  have hb := bound_iff hI k
  have h18 := vp_in_iff.mp (hI.1 18 k : vp_in (σ 18 k) 11)
  unfold X_planCost X_planCost_j8 cM M_isBound M_isBound_j10 X_refitCost
  rw [e]
  by_cases c : σ 24 k ≤ σ 0 0
  · rw [if_pos c, if_pos rfl, hb.mpr c, if_pos (Int32.le_refl 0), Int32.sub_self, Int32.mul_zero, Int32.add_zero]
    left
    have e1 : ((10 : Int32) - σ 18 k).toInt = 10 - (σ 18 k).toInt := by
      rw [Int32.toInt_sub, show (10 : Int32).toInt = 10 from rfl]
      exact Int.bmod_eq_of_le (by omega) (by omega)
    have e2 : ((2 : Int32) * ((10 : Int32) - σ 18 k)).toInt = 2 * (10 - (σ 18 k).toInt) := by
      rw [Int32.toInt_mul, e1, show (2 : Int32).toInt = 2 from rfl]
      exact Int.bmod_eq_of_le (by omega) (by omega)
    rw [e2]
    exact ⟨rfl, by omega, by omega⟩
  · rw [if_neg c, if_neg i10]
    right
    refine ⟨if_neg fun z => c (hb.mp ?_), rfl⟩
    have hm : X_boundHours σ k (σ 0 0) = 0 ∨ 0 < X_boundHours σ k (σ 0 0) ∨ X_boundHours σ k (σ 0 0) = 0 := by
      unfold X_boundHours iMax
      by_cases w : σ 24 k - σ 0 0 < 0
      · rw [if_pos w]
        exact Or.inl rfl
      · rw [if_neg w]
        by_cases v : σ 24 k - σ 0 0 ≤ 0
        · exact Or.inl (Int32.le_antisymm v (not_lt32.mp w))
        · exact Or.inr (Or.inl (Classical.byContradiction fun u => v (not_lt32.mp u)))
    rcases hm with q | q | q
    · exact q
    · exact absurd z (fun u => not_lt32.mpr u q)
    · exact q
theorem pS_cost {σ : St} (hI : InvX σ) (hO : InvO σ) {p w : Int32} : ∀ n k a b, k + n = ix (σ 13 0) → 0 ≤ a.toInt → 0 ≤ b.toInt → a.toInt ≤ ((20000 * oN (σ 14) p k : Nat) : Int) → b.toInt ≤ ((20000 * oN (σ 14) p k : Nat) : Int) → (a = b ∨ (10000 < a.toInt ∧ 10000 < b.toInt)) → (pS σ p w (cM σ) n k a = pS σ p w (X_planCost σ) n k b ∨ (10000 < (pS σ p w (cM σ) n k a).toInt ∧ 10000 < (pS σ p w (X_planCost σ) n k b).toInt)) := by
  have hl := IX_lamps hI
  have hO' := hO p
  intro n
  induction n with
  | zero => intro k a b _ _ _ _ _ h; rw [pS, pS]; exact h
  | succ n ih =>
    intro k a b hk a0 b0 a1 b1 h
    rw [pS, pS]
    by_cases q : σ 14 k = p ∧ bit w (oN (σ 14) p k)
    · rw [if_pos q, if_pos q]
      have hlt : oN (σ 14) p k < oN (σ 14) p (ix (σ 13 0)) := oN_lt q.1 (by omega)
      have ho := oN_own q.1
      rcases cost_eq hI (k := k) (by omega) with ⟨c1, c2, c3⟩ | ⟨c1, c2⟩
      · rw [c1]
        have ea : (a + cM σ k).toInt = a.toInt + (cM σ k).toInt := by
          rw [Int32.toInt_add]
          exact Int.bmod_eq_of_le (by omega) (by omega)
        have eb : (b + cM σ k).toInt = b.toInt + (cM σ k).toInt := by
          rw [Int32.toInt_add]
          exact Int.bmod_eq_of_le (by omega) (by omega)
        refine ih (k + 1) _ _ (by omega) (by omega) (by omega) (by rw [ho]; omega) (by rw [ho]; omega) ?_
        rcases h with z | z
        · exact Or.inl (by rw [z])
        · exact Or.inr ⟨by omega, by omega⟩
      · rw [c1, c2]
        have ea : (a + 20000).toInt = a.toInt + 20000 := by
          rw [Int32.toInt_add, show (20000 : Int32).toInt = 20000 from rfl]
          exact Int.bmod_eq_of_le (by omega) (by omega)
        have eb : (b + 10001).toInt = b.toInt + 10001 := by
          rw [Int32.toInt_add, show (10001 : Int32).toInt = 10001 from rfl]
          exact Int.bmod_eq_of_le (by omega) (by omega)
        exact ih (k + 1) _ _ (by omega) (by omega) (by omega) (by rw [ho]; omega) (by rw [ho]; omega) (Or.inr ⟨by omega, by omega⟩)
    · rw [if_neg q, if_neg q]
      have hle := oN_le (σ 14) p k 1
      exact ih (k + 1) a b (by omega) a0 b0 (by omega) (by omega) h
end
