noncomputable section
def adj (x q : Nat) : Prop := (0 < x % 8 ∧ q + 1 = x) ∨ (x % 8 < 7 ∧ q = x + 1) ∨ q + 8 = x ∨ q = x + 8
theorem adj_symm {x q : Nat} (h : adj x q) : adj q x := by
  unfold adj at *
  omega
/-- a way of t steps from f to a place, all dark -/
def wR (dk : Nat → Prop) (f : Nat) : Nat → Nat → Prop
  | 0, p => p = f ∧ dk p
  | t + 1, p => dk p ∧ ∃ q, q < 64 ∧ adj p q ∧ wR dk f t q
def nz (f : Nat → Int32) : Nat → Nat
  | 0 => 0
  | n + 1 => nz f n + (if f n = -1 then 0 else 1)
theorem nz_le (f : Nat → Int32) : ∀ n, nz f n ≤ n := by
  intro n
  induction n with
  | zero => exact Nat.le_refl _
  | succ n ih =>
    show nz f n + (if f n = -1 then 0 else 1) ≤ n + 1
    split <;> omega
theorem nz_lt {f : Nat → Int32} {p : Nat} (h : f p = -1) : ∀ n, p < n → nz f n < n := by
  intro n
  induction n with
  | zero => intro q; omega
  | succ n ih =>
    intro q
    show nz f n + (if f n = -1 then 0 else 1) < n + 1
    by_cases e : p = n
    · subst e
      rw [if_pos h]
      have := nz_le f p
      omega
    · have := ih (by omega)
      split <;> omega
theorem nz_cong {f g : Nat → Int32} : ∀ n, (∀ p, p < n → f p = g p) → nz f n = nz g n := by
  intro n
  induction n with
  | zero => intro _; rfl
  | succ n ih =>
    intro h
    show nz f n + (if f n = -1 then 0 else 1) = nz g n + (if g n = -1 then 0 else 1)
    rw [ih (fun p hp => h p (by omega)), h n (by omega)]
theorem nz_upd {f g : Nat → Int32} {q : Nat} (h1 : f q = -1) (h2 : ¬ g q = -1) (h3 : ∀ p, p ≠ q → g p = f p) : ∀ n, q < n → nz g n = nz f n + 1 := by
  intro n
  induction n with
  | zero => intro q; omega
  | succ n ih =>
    intro hq
    show nz g n + (if g n = -1 then 0 else 1) = nz f n + (if f n = -1 then 0 else 1) + 1
    by_cases e : q = n
    · subst e
      rw [if_pos h1, if_neg h2, nz_cong (f := g) (g := f) q (fun p hp => h3 p (by omega))]
    · rw [ih (by omega), h3 n (fun z => e z.symm)]
      omega
def tN (s : St) (p : Nat) : Nat := ix (s 11 p)
def rN (s : St) (j : Nat) : Nat := ix (s 12 j)
def onS (s : St) (p : Nat) : Prop := ¬ s 11 p = -1
/-- the search before its i-th reached place is gone on from; c are reached -/
def WB (g : Nat → Int32) (b : Int32) (f i c : Nat) (s : St) : Prop :=
  s 1 0 = nI c ∧ c = nz (s 11) 64 ∧
  (∀ j, j < c → rN s j < 64 ∧ s 12 j = nI (rN s j) ∧ onS s (rN s j) ∧ tN s (rN s j) ≤ j) ∧
  (∀ p, p < 64 → onS s p → (∃ j, j < c ∧ rN s j = p) ∧ s 11 p = nI (tN s p) ∧ tN s p < 64 ∧ wR (fun q => g q ≤ b) f (tN s p) p) ∧
  (∀ j j', j ≤ j' → j' < c → tN s (rN s j) ≤ tN s (rN s j')) ∧
  (∀ j, j < c → i < c → tN s (rN s j) ≤ tN s (rN s i) + 1) ∧
  (∀ j, j < i → j < c → ∀ q, q < 64 → adj (rN s j) q → g q ≤ b → onS s q ∧ tN s q ≤ tN s (rN s j) + 1) ∧
  (g f ≤ b → onS s f ∧ tN s f = 0) ∧ s 10 = g
/-- the same while place x (the i-th, at level t) is gone on from; the places of S are done -/
def WQ (g : Nat → Int32) (b : Int32) (f i x t : Nat) (S : Nat → Prop) (s : St) : Prop := ∃ c, WB g b f i c s ∧ i < c ∧ rN s i = x ∧ onS s x ∧ tN s x = t ∧ ∀ q, q < 64 → S q → g q ≤ b → onS s q ∧ tN s q ≤ t + 1
theorem WQ.mono {g : Nat → Int32} {b : Int32} {f i x t : Nat} {S S' : Nat → Prop} {s : St} (h : WQ g b f i x t S s) (hS : ∀ q, q < 64 → S' q → S q) : WQ g b f i x t S' s := by
  obtain ⟨c, h1, h2, h3, h4, h5, h6⟩ := h
  exact ⟨c, h1, h2, h3, h4, h5, fun q hq w => h6 q hq (hS q hq w)⟩
theorem nIlt {a : Nat} (h : a < 1000) : ¬ nI a < 0 := not_lt32.mpr ((nI_leI (a := 0) (b := a) (by omega) (by omega)).mpr (by omega))
theorem nIne (a : Nat) (h : a < 1000) : ¬ nI a = -1 := fun z => nIlt h (by rw [z]; decide)
theorem reach_q {σ : St} {g : Nat → Int32} {b : Int32} {f i x t q : Nat} {S : Nat → Prop} {s : St} (h : WQ g b f i x t S s) (hq : q < 64) (ha : adj x q) : WQ g b f i x t (fun p => S p ∨ p = q) (X_reach_s σ s (nI q) (nI (t + 1)) b) := by
  obtain ⟨c, hB, hi, hx, hon, ht, hS⟩ := h
  have hB0 := hB
  obtain ⟨b1, b2, b3, b4, b5, b6, b7, b8, b9⟩ := hB
  have c64 : c ≤ 64 := by rw [b2]; exact nz_le _ _
  have eq : ix (nI q) = q := ixn (by omega)
  unfold X_reach_s
  rw [if_neg (nIlt (a := q) (by omega)), if_neg (show ¬ (64 : Int32) ≤ nI q from fun z => absurd ((nI_leI (a := 64) (b := q) (by omega) (by omega)).mp z) (by omega)), if_neg (show ¬ s 1 0 < 0 by rw [b1]; exact nIlt (by omega))]
  by_cases h1 : s 11 q = -1
  · have hc : c < 64 := by rw [b2]; exact nz_lt h1 64 hq
    have n1 : s 1 0 < 64 := by
      rw [b1]
      exact Classical.byContradiction fun z => absurd ((nI_leI (a := 64) (b := c) (by omega) (by omega)).mp (not_lt32.mp z)) (by omega)
    unfold X_reach_j37_s
    rw [if_pos n1, eq, if_pos h1]
    by_cases d : b < s 10 q
    · rw [if_pos d]
      refine ⟨c, hB0, hi, hx, hon, ht, fun p hp w dk => ?_⟩
      rcases w with w | w
      · exact hS p hp w dk
      · subst w
        rw [← b9] at dk
        exact absurd d (not_lt32.mpr dk)
    · rw [if_neg d]
      have dk : g q ≤ b := by rw [← b9]; exact not_lt32.mp d
      simp only [sS_col (show (1 : Nat) ≠ 11 by decide), sS_col (show (1 : Nat) ≠ 12 by decide)]
      have ec : ix (s 1 0) = c := by rw [b1, ixn (by omega)]
      rw [ec, show s 1 0 + 1 = nI (c + 1) by rw [b1, nI_1]]
      have f11 : ∀ p, sS (sS (sS s 11 q (nI (t + 1))) 12 c (nI q)) 1 0 (nI (c + 1)) 11 p = sS s 11 q (nI (t + 1)) 11 p := fun p => by
        rw [sS_col (show (11 : Nat) ≠ 1 by decide), sS_col (show (11 : Nat) ≠ 12 by decide)]
      have f12 : ∀ j, sS (sS (sS s 11 q (nI (t + 1))) 12 c (nI q)) 1 0 (nI (c + 1)) 12 j = sS s 12 c (nI q) 12 j := fun j => by
        rw [sS_col (show (12 : Nat) ≠ 1 by decide)]
        unfold sS
        rw [sU_same, sU_same, sU_ne (show (12 : Nat) ≠ 11 by decide)]
      have f1 : sS (sS (sS s 11 q (nI (t + 1))) 12 c (nI q)) 1 0 (nI (c + 1)) 1 0 = nI (c + 1) := sS_same ..
      have f10 : sS (sS (sS s 11 q (nI (t + 1))) 12 c (nI q)) 1 0 (nI (c + 1)) 10 = s 10 := by
        rw [sS_col (show (10 : Nat) ≠ 1 by decide), sS_col (show (10 : Nat) ≠ 12 by decide), sS_col (show (10 : Nat) ≠ 11 by decide)]
      generalize sS (sS (sS s 11 q (nI (t + 1))) 12 c (nI q)) 1 0 (nI (c + 1)) = s' at *
      have t64 : t < 64 := by rw [← ht, ← hx]; have := (b3 i hi).2.2.2; omega
      have ti : t ≤ i := by rw [← ht, ← hx]; exact (b3 i hi).2.2.2
      have q11 : s' 11 q = nI (t + 1) := by rw [f11, sS_same]
      have p11 : ∀ p, p ≠ q → s' 11 p = s 11 p := fun p w => by rw [f11, sS_ne (fun _ => w)]
      have oq : onS s' q := by
        unfold onS
        rw [q11]
        exact nIne _ (by omega)
      have tq : tN s' q = t + 1 := by
        unfold tN
        rw [q11, ixn (by omega)]
      have op : ∀ p, p ≠ q → (onS s' p ↔ onS s p) := fun p w => by
        unfold onS
        rw [p11 p w]
      have tp : ∀ p, p ≠ q → tN s' p = tN s p := fun p w => by
        unfold tN
        rw [p11 p w]
      have rc : rN s' c = q := by
        unfold rN
        rw [f12, sS_same, eq]
      have rj : ∀ j, j ≠ c → rN s' j = rN s j := fun j w => by
        unfold rN
        rw [f12, sS_ne (fun _ => w)]
      have nq : ∀ p, onS s p → p ≠ q := fun p w z => by
        subst z
        exact w h1
      have nj : ∀ j, j < c → rN s j ≠ q := fun j w => nq _ (b3 j w).2.2.1
      have xq : x ≠ q := nq x hon
      have x64 : x < 64 := by rw [← hx]; exact (b3 i hi).1
      have ri : rN s' i = x := by rw [rj i (by omega), hx]
      have tx : tN s' x = t := by rw [tp x xq, ht]
      refine ⟨c + 1, ⟨f1, ?_, ?_, ?_, ?_, ?_, ?_, ?_, ?_⟩, by omega, ri, (op x xq).mpr hon, tx, ?_⟩
      · rw [b2]
        exact (nz_upd h1 oq (fun p w => p11 p w) 64 hq).symm
      · intro j hj
        by_cases e : j = c
        · subst e
          rw [rc]
          refine ⟨hq, ?_, oq, by rw [tq]; omega⟩
          rw [f12, sS_same]
        · have hj' : j < c := by omega
          obtain ⟨a1, a2, a3, a4⟩ := b3 j hj'
          rw [rj j e]
          refine ⟨a1, ?_, (op _ (nj j hj')).mpr a3, by rw [tp _ (nj j hj')]; exact a4⟩
          rw [f12, sS_ne (fun _ => e)]
          exact a2
      · intro p hp ho
        by_cases e : p = q
        · subst e
          refine ⟨⟨c, by omega, rc⟩, by rw [tq, q11], by rw [tq]; omega, ?_⟩
          rw [tq]
          refine ⟨dk, x, x64, adj_symm ha, ?_⟩
          rw [← ht]
          exact (b4 x x64 hon).2.2.2
        · obtain ⟨⟨j, a1, a2⟩, a3, a4, a5⟩ := b4 p hp ((op p e).mp ho)
          rw [tp p e]
          exact ⟨⟨j, by omega, by rw [rj j (by omega)]; exact a2⟩, by rw [p11 p e]; exact a3, a4, a5⟩
      · intro j j' hjj hj'
        by_cases e' : j' = c
        · subst e'
          rw [rc, tq]
          by_cases e : j = j'
          · subst e
            rw [rc, tq]
            exact Nat.le_refl _
          · have w : j < j' := by omega
            rw [rj j e, tp _ (nj j w), ← ht, ← hx]
            exact b6 j w hi
        · rw [rj j (by omega), rj j' e', tp _ (nj j (by omega)), tp _ (nj j' (by omega))]
          exact b5 j j' hjj (by omega)
      · intro j hj _
        rw [ri, tx]
        by_cases e : j = c
        · subst e
          rw [rc, tq]
          exact Nat.le_refl _
        · have w : j < c := by omega
          rw [rj j e, tp _ (nj j w), ← ht, ← hx]
          exact b6 j w hi
      · intro j hji hj p hp ap dp
        have w : j < c := by omega
        rw [rj j (by omega)] at ap ⊢
        obtain ⟨a1, a2⟩ := b7 j hji w p hp ap dp
        rw [tp _ (nj j w), tp p (nq p a1)]
        exact ⟨(op p (nq p a1)).mpr a1, a2⟩
      · intro df
        obtain ⟨a1, a2⟩ := b8 df
        exact ⟨(op f (nq f a1)).mpr a1, by rw [tp f (nq f a1)]; exact a2⟩
      · rw [f10, b9]
      · intro p hp w dp
        by_cases e : p = q
        · subst e
          exact ⟨oq, by rw [tq]; exact Nat.le_refl _⟩
        · obtain ⟨a1, a2⟩ := hS p hp (w.resolve_right e) dp
          exact ⟨(op p e).mpr a1, by rw [tp p e]; exact a2⟩
  · have hs : (if s 1 0 < 64 then X_reach_j37_s σ s (nI q) (nI (t + 1)) b else s) = s := by
      unfold X_reach_j37_s
      rw [eq, if_neg h1, ite_self]
    rw [hs]
    refine ⟨c, hB0, hi, hx, hon, ht, fun p hp w dk => ?_⟩
    rcases w with w | w
    · exact hS p hp w dk
    · subst w
      obtain ⟨⟨j, a1, a2⟩, _⟩ := b4 p hp h1
      have := b6 j a1 hi
      rw [a2, hx, ht] at this
      exact ⟨h1, this⟩
theorem reach_lo {σ s : St} {v w b : Int32} (h : v < 0) : X_reach_s σ s v w b = s := by
  unfold X_reach_s
  rw [if_pos h]
theorem reach_hi {σ s : St} {v w b : Int32} (h : 64 ≤ v) : X_reach_s σ s v w b = s := by
  unfold X_reach_s
  rw [if_pos h, ite_self]
theorem goOn_q {σ : St} {g : Nat → Int32} {b : Int32} {f i c : Nat} {s : St} (hB : WB g b f i c s) (hi : i < c) : ∃ c', WB g b f (i + 1) c' (X_goOn_s σ s (s 12 i) b) := by
  obtain ⟨x64, e12, hon, hti⟩ := hB.2.2.1 i hi
  have c64 : c ≤ 64 := by rw [hB.2.1]; exact nz_le _ _
  obtain ⟨_, e11, t64, _⟩ := hB.2.2.2.1 _ x64 hon
  generalize hx : rN s i = x at *
  generalize ht : tN s x = t at *
  have ex : ix (nI x) = x := ixn (by omega)
  have ecnt : s 11 (ix (nI x)) + 1 = nI (t + 1) := by rw [ex, e11, nI_1]
  have q0 : WQ g b f i x t (fun _ => False) s := ⟨c, hB, hi, hx, hon, ht, fun q _ z => z.elim⟩
  have lt64 : nI x < 64 := Classical.byContradiction fun z => absurd ((nI_leI (a := 64) (b := x) (by omega) (by omega)).mp (not_lt32.mp z)) (by omega)
  have le0 : (nI (x % 8) ≤ 0) ↔ x % 8 = 0 := by
    have := nI_leI (a := x % 8) (b := 0) (by omega) (by omega)
    exact ⟨fun z => by have := this.mp z; omega, fun z => this.mpr (by omega)⟩
  have le7 : ((7 : Int32) ≤ nI (x % 8)) ↔ 7 ≤ x % 8 := nI_leI (a := 7) (b := x % 8) (by omega) (by omega)
  have q1 : WQ g b f i x t (fun p => 0 < x % 8 ∧ p + 1 = x) (X_goOn_j31_s σ s (nI x) b) := by
    unfold X_goOn_j31_s
    rw [rm8 (a := x) (by omega), ecnt]
    by_cases d : x % 8 = 0
    · rw [if_pos (le0.mpr d)]
      exact q0.mono fun q _ z => by omega
    · rw [if_neg (fun z => d (le0.mp z)), show nI x - 1 = nI (x - 1) from pk_sub (a := x) (b := 1) (by omega)]
      exact (reach_q q0 (q := x - 1) (by omega) (by unfold adj; omega)).mono fun q _ z => Or.inr (by omega)
  have q2 : WQ g b f i x t (fun p => (0 < x % 8 ∧ p + 1 = x) ∨ (x % 8 < 7 ∧ p = x + 1)) (X_goOn_j47_s σ s (nI x) b) := by
    unfold X_goOn_j47_s
    rw [rm8 (a := x) (by omega), ecnt]
    by_cases d : 7 ≤ x % 8
    · rw [if_pos (le7.mpr d)]
      exact q1.mono fun q _ z => z.resolve_right (by omega)
    · rw [if_neg (fun z => d (le7.mp z)), nI_1]
      exact reach_q q1 (q := x + 1) (by omega) (by unfold adj; omega) |>.mono fun q _ z => z.elim Or.inl fun w => Or.inr w.2
  have q3 : WQ g b f i x t (fun p => ((0 < x % 8 ∧ p + 1 = x) ∨ (x % 8 < 7 ∧ p = x + 1)) ∨ p + 8 = x) (X_reach_s σ (X_goOn_j47_s σ s (nI x) b) (nI x - 8) (nI (t + 1)) b) := by
    by_cases d : 8 ≤ x
    · rw [show nI x - 8 = nI (x - 8) from pk_sub (a := x) (b := 8) (by omega)]
      exact reach_q q2 (q := x - 8) (by omega) (by unfold adj; omega) |>.mono fun q _ z => z.elim Or.inl fun w => Or.inr (by omega)
    · have neg : nI x - 8 < 0 := by
        have h : ∀ x : Fin 8, nI x.val - 8 < 0 := by decide
        exact h ⟨x, by omega⟩
      rw [reach_lo neg]
      exact q2.mono fun q _ z => z.resolve_right (by omega)
  have q4 : WQ g b f i x t (fun p => (((0 < x % 8 ∧ p + 1 = x) ∨ (x % 8 < 7 ∧ p = x + 1)) ∨ p + 8 = x) ∨ p = x + 8) (X_reach_s σ (X_reach_s σ (X_goOn_j47_s σ s (nI x) b) (nI x - 8) (nI (t + 1)) b) (nI x + 8) (nI (t + 1)) b) := by
    rw [show nI x + 8 = nI (x + 8) from nI_add x 8]
    by_cases d : x + 8 < 64
    · exact reach_q q3 (q := x + 8) d (by unfold adj; omega)
    · rw [reach_hi ((nI_leI (a := 64) (b := x + 8) (by omega) (by omega)).mpr (by omega))]
      exact q3.mono fun q hq z => z.resolve_right (by omega)
  have es : X_goOn_s σ s (s 12 i) b = X_reach_s σ (X_reach_s σ (X_goOn_j47_s σ s (nI x) b) (nI x - 8) (nI (t + 1)) b) (nI x + 8) (nI (t + 1)) b := by
    unfold X_goOn_s
    rw [e12, if_neg (nIlt (by omega)), if_pos lt64, ecnt]
  rw [es]
  generalize X_reach_s σ (X_reach_s σ (X_goOn_j47_s σ s (nI x) b) (nI x - 8) (nI (t + 1)) b) (nI x + 8) (nI (t + 1)) b = s4 at *
  obtain ⟨c', ⟨b1, b2, b3, b4, b5, b6, b7, b8, b9⟩, h2, h3, h4, h5, h6⟩ := q4
  refine ⟨c', b1, b2, b3, b4, b5, ?_, ?_, b8, b9⟩
  · intro j hj hi1
    have a1 := b6 j hj h2
    have a2 := b5 i (i + 1) (by omega) hi1
    omega
  · intro j hj hc q hq ha dk
    by_cases e : j = i
    · subst e
      rw [h3] at ha ⊢
      rw [h5]
      refine h6 q hq ?_ dk
      rcases ha with z | z | z | z
      · exact Or.inl (Or.inl (Or.inl z))
      · exact Or.inl (Or.inl (Or.inr z))
      · exact Or.inl (Or.inr z)
      · exact Or.inr z
    · exact b7 j (by omega) hc q hq ha dk
theorem least_L {σ μ : St} {p1 p2 b : Int32} {g : Nat → Int32} {f : Nat} (K : St → Int32) : ∀ n i c s, i + n = 64 → WB g b f i c s → ∃ s' c' i', X_leastSteps_L23 σ μ p1 p2 b K n i s = K s' ∧ WB g b f i' c' s' ∧ c' ≤ i' := by
  intro n
  induction n with
  | zero =>
    intro i c s hi hB
    rw [X_leastSteps_L23]
    exact ⟨s, c, i, rfl, hB, by have : c ≤ 64 := by (rw [hB.2.1]; exact nz_le _ _)
                                omega⟩
  | succ n ih =>
    intro i c s hi hB
    have c64 : c ≤ 64 := by rw [hB.2.1]; exact nz_le _ _
    rw [X_leastSteps_L23, hB.1]
    by_cases d : c ≤ i
    · rw [if_pos ((nI_leI (a := c) (b := i) (by omega) (by omega)).mpr d)]
      exact ⟨s, c, i, rfl, hB, d⟩
    · rw [if_neg (fun z => d ((nI_leI (a := c) (b := i) (by omega) (by omega)).mp z)), if_neg (show ¬ (64 : Int32) ≤ nI i from fun z => absurd ((nI_leI (a := 64) (b := i) (by omega) (by omega)).mp z) (by omega)), ixn (by omega)]
      obtain ⟨c', hB'⟩ := goOn_q (σ := σ) hB (by omega)
      exact ih (i + 1) c' _ (by omega) hB'
/-- what the search leaves: the steps of the shortest way -/
theorem WB_end {g : Nat → Int32} {b : Int32} {f i c : Nat} {s : St} (hB : WB g b f i c s) (hc : c ≤ i) : ∀ t p, p < 64 → wR (fun q => g q ≤ b) f t p → onS s p ∧ tN s p ≤ t := by
  intro t
  induction t with
  | zero =>
    intro p hp h
    obtain ⟨rfl, dk⟩ := h
    obtain ⟨a1, a2⟩ := hB.2.2.2.2.2.2.2.1 dk
    exact ⟨a1, by omega⟩
  | succ t ih =>
    intro p hp h
    obtain ⟨dk, q, hq, ha, hw⟩ := h
    obtain ⟨o, ht⟩ := ih q hq hw
    obtain ⟨⟨j, hj, e⟩, _⟩ := hB.2.2.2.1 q hq o
    obtain ⟨a1, a2⟩ := hB.2.2.2.2.2.2.1 j (by omega) hj p hp (by rw [e]; exact adj_symm ha) dk
    rw [e] at a2
    exact ⟨a1, by omega⟩
end
