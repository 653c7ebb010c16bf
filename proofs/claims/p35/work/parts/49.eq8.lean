noncomputable section
theorem M_sh_loop {σ : St} {p1 p2 : Int32} : ∀ (n k : Nat) (a : Int32), (a = 0 ∨ a = 1) → (M_isShaded_L72 σ p1 p2 (fun a => a) n k a = 0 ↔ a = 0 ∧ ∀ x, k ≤ x → x < k + n → M_isShaded_j129 σ p1 p2 x 0 = 0) := by
  intro n
  induction n with
  | zero =>
    intro k a _
    rw [M_isShaded_L72]
    exact ⟨fun h => ⟨h, fun x h1 h2 => by omega⟩, fun h => h.1⟩
  | succ n ih =>
    intro k a ha
    rw [M_isShaded_L72, ih (k + 1) _ (M_isShaded_j129_b ..)]
    rcases ha with rfl | rfl
    · constructor
      · rintro ⟨h1, h2⟩
        refine ⟨rfl, fun x h3 h4 => ?_⟩
        rcases Nat.eq_or_lt_of_le h3 with q | q
        · rw [← q]; exact h1
        · exact h2 x q (by omega)
      · rintro ⟨_, h2⟩
        exact ⟨h2 k (Nat.le_refl _) (by omega), fun x h3 h4 => h2 x (by omega) (by omega)⟩
    · have e : M_isShaded_j129 σ p1 p2 k 1 = 1 := by
        unfold M_isShaded_j129
        exact if_neg i10
      rw [e]
      exact ⟨fun h => absurd h.1 i10, fun h => absurd h.1 i10⟩
theorem X_sh65 {σ : St} {i j y : Nat} (hy : y < 8) (K : Unit → Int32) : ∀ (n x : Nat), x + n ≤ 8 → (X_isShaded_L65 σ i j y K n x () = 0 ↔ (∀ x', x ≤ x' → x' < x + n → X_shades σ (8 * y + x') i j = 0) ∧ K () = 0) := by
  intro n
  induction n with
  | zero =>
    intro x _
    rw [X_isShaded_L65]
    exact ⟨fun h => ⟨fun x' h1 h2 => by omega, h⟩, fun h => h.2⟩
  | succ n ih =>
    intro x hx
    rw [X_isShaded_L65]
    have e : (8 : Int32) * nI y + nI x = nI (8 * y + x) := by rw [show (8 : Int32) = nI 8 from rfl, pk_mul, nI_add]
    have g1 : ¬ nI (8 * y + x) < 0 := not_lt32.mpr ((nI_leI (a := 0) (b := 8 * y + x) (by omega) (by omega)).mpr (by omega))
    have g2 : ¬ nI (xL σ 1) ≤ nI (8 * y + x) := fun z => absurd ((nI_leI (a := 64) (b := 8 * y + x) (by omega) (by omega)).mp z) (by omega)
    rw [e, ixn (by omega), if_neg g1, if_neg g2]
    by_cases c : X_shades σ (8 * y + x) i j = 0
    · rw [if_pos c, ih (x + 1) (by omega)]
      constructor
      · rintro ⟨h1, h2⟩
        refine ⟨fun x' h3 h4 => ?_, h2⟩
        rcases Nat.eq_or_lt_of_le h3 with q | q
        · rw [← q]; exact c
        · exact h1 x' q (by omega)
      · rintro ⟨h1, h2⟩
        exact ⟨fun x' h3 h4 => h1 x' (by omega) (by omega), h2⟩
    · rw [if_neg c]
      exact ⟨fun h => absurd h i10, fun h => absurd (h.1 x (Nat.le_refl _) (by omega)) c⟩
theorem mnm {a b : Nat} (ha : a < 8) (hb : b < 8) : ix (iMin (nI a) (nI b)) = min a b ∧ ix (iMax (nI a) (nI b)) = max a b := by
  rw [iMin_nI (by omega) (by omega), iMax_nI (by omega) (by omega), ixn (by omega), ixn (by omega)]
  exact ⟨rfl, rfl⟩
theorem X_sh55 {σ : St} {i j : Nat} (K : Unit → Int32) : ∀ (n y : Nat), y + n ≤ 8 → (X_isShaded_L55 σ i j K n y () = 0 ↔ (∀ y', y ≤ y' → y' < y + n → ∀ x', min (i % 8) (j % 8) ≤ x' → x' ≤ max (i % 8) (j % 8) → X_shades σ (8 * y' + x') i j = 0) ∧ K () = 0) := by
  intro n
  induction n with
  | zero =>
    intro y _
    rw [X_isShaded_L55]
    exact ⟨fun h => ⟨fun x' h1 h2 => by omega, h⟩, fun h => h.2⟩
  | succ n ih =>
    intro y hy
    obtain ⟨m1, m2⟩ := mnm (a := i % 8) (b := j % 8) (by omega) (by omega)
    rw [X_isShaded_L55, m1, m2, X_sh65 (by omega) _ _ _ (by omega), ih (y + 1) (by omega)]
    constructor
    · rintro ⟨h1, h2, h3⟩
      refine ⟨fun y' h4 h5 x' h6 h7 => ?_, h3⟩
      rcases Nat.eq_or_lt_of_le h4 with q | q
      · rw [← q]; exact h1 x' h6 (by omega)
      · exact h2 y' q (by omega) x' h6 h7
    · rintro ⟨h1, h2⟩
      exact ⟨fun x' h6 h7 => h1 y (Nat.le_refl _) (by omega) x' h6 (by omega), fun y' h4 h5 => h1 y' (by omega) (by omega), h2⟩
theorem shaded_iff {σ : St} {p1 : Int32} {l p : Nat} (hl : l < 64) (hp : p < 64) (e : σ 15 (ix p1) = nI l) : X_isShaded σ l p = 0 ↔ M_isShaded σ p1 (nI p) = 0 := by
  obtain ⟨m1, m2⟩ := mnm (a := l / 8) (b := p / 8) (by omega) (by omega)
  unfold X_isShaded M_isShaded
  rw [m1, m2, X_sh55 _ _ _ (by omega), M_sh_loop _ _ _ (Or.inl rfl), n64_eq]
  constructor
  · rintro ⟨h1, _⟩
    refine ⟨rfl, fun k _ hk => (shade_at hl hp (by omega) e).mpr ?_⟩
    rintro ⟨⟨⟨b1, b2⟩, b3, b4⟩, b5⟩
    refine b5 ?_
    have := h1 (k / 8) b3 (by omega) (k % 8) b1 b2
    rw [show 8 * (k / 8) + k % 8 = k by omega] at this
    exact this
  · rintro ⟨_, h1⟩
    refine ⟨fun y h2 h3 x h4 h5 => ?_, rfl⟩
    have hk : 8 * y + x < 64 := by omega
    refine Classical.byContradiction fun q => (shade_at hl hp hk e).mp (h1 (8 * y + x) (by omega) (by omega)) ⟨⟨?_, ?_⟩, q⟩
    · rw [show (8 * y + x) % 8 = x by omega]; exact ⟨h4, h5⟩
    · rw [show (8 * y + x) / 8 = y by omega]; exact ⟨h2, by omega⟩
end
