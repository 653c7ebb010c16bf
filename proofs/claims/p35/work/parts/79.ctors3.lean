noncomputable section
/-- cells by kind and number at their addresses -/
def RG (h : fH) (ρ : Nat → Nat → Nat) (C : Nat → Nat → Option va_E) : Prop := (∀ k i x, C k i = some x → h (ρ k i) = some x) ∧ (∀ k i k' i' x x', C k i = some x → C k' i' = some x' → ρ k i = ρ k' i' → k = k' ∧ i = i')
def r2 (ρ : Nat → Nat → Nat) (k i a : Nat) : Nat → Nat → Nat := fun k' i' => if k' = k ∧ i' = i then a else ρ k' i'
def u2 (C : Nat → Nat → Option va_E) (k i : Nat) (x : va_E) : Nat → Nat → Option va_E := fun k' i' => if k' = k ∧ i' = i then some x else C k' i'
theorem r2_s {ρ : Nat → Nat → Nat} {k i a : Nat} : r2 ρ k i a k i = a := if_pos ⟨rfl, rfl⟩
theorem r2_n {ρ : Nat → Nat → Nat} {k i a k' i' : Nat} (h : ¬ (k' = k ∧ i' = i)) : r2 ρ k i a k' i' = ρ k' i' := if_neg h
theorem u2_s {C : Nat → Nat → Option va_E} {k i : Nat} {x : va_E} : u2 C k i x k i = some x := if_pos ⟨rfl, rfl⟩
theorem u2_n {C : Nat → Nat → Option va_E} {k i k' i' : Nat} {x : va_E} (h : ¬ (k' = k ∧ i' = i)) : u2 C k i x k' i' = C k' i' := if_neg h
theorem RG.new {h : fH} {ρ : Nat → Nat → Nat} {C : Nat → Nat → Option va_E} (hR : RG h ρ C) {k i a : Nat} (x : va_E) (ha : h a = none) : RG (fU h a x) (r2 ρ k i a) (u2 C k i x) := by
  have old : ∀ k' i' y, ¬ (k' = k ∧ i' = i) → u2 C k i x k' i' = some y → ρ k' i' ≠ a := fun k' i' y n hy z => by
    rw [u2_n n] at hy
    have := hR.1 _ _ _ hy
    rw [z, ha] at this
    cases this
  refine ⟨fun k' i' y hy => ?_, fun k1 i1 k3 i3 y1 y2 h1 h2 e => ?_⟩
  · by_cases n : k' = k ∧ i' = i
    · obtain ⟨rfl, rfl⟩ := n
      rw [u2_s] at hy
      rw [r2_s, fU_same]
      exact hy
    · have hne := old k' i' y n hy
      rw [u2_n n] at hy
      rw [r2_n n, fU_ne hne]
      exact hR.1 _ _ _ hy
  · by_cases n1 : k1 = k ∧ i1 = i
    · by_cases n2 : k3 = k ∧ i3 = i
      · exact ⟨n1.1.trans n2.1.symm, n1.2.trans n2.2.symm⟩
      · obtain ⟨rfl, rfl⟩ := n1
        rw [r2_s, r2_n n2] at e
        exact absurd e.symm (old _ _ _ n2 h2)
    · by_cases n2 : k3 = k ∧ i3 = i
      · obtain ⟨rfl, rfl⟩ := n2
        rw [r2_s, r2_n n1] at e
        exact absurd e (old _ _ _ n1 h1)
      · rw [r2_n n1, r2_n n2] at e
        rw [u2_n n1] at h1
        rw [u2_n n2] at h2
        exact hR.2 _ _ _ _ _ _ h1 h2 e
theorem RG.set {h : fH} {ρ : Nat → Nat → Nat} {C : Nat → Nat → Option va_E} (hR : RG h ρ C) {k i : Nat} {y : va_E} (x : va_E) (hy : C k i = some y) : RG (fU h (ρ k i) x) ρ (u2 C k i x) := by
  have dom : ∀ k' i' z, u2 C k i x k' i' = some z → ∃ w, C k' i' = some w := fun k' i' z hz => by
    by_cases n : k' = k ∧ i' = i
    · obtain ⟨rfl, rfl⟩ := n
      exact ⟨_, hy⟩
    · rw [u2_n n] at hz
      exact ⟨_, hz⟩
  refine ⟨fun k' i' z hz => ?_, fun k1 i1 k3 i3 y1 y2 h1 h2 e => ?_⟩
  · by_cases n : k' = k ∧ i' = i
    · obtain ⟨rfl, rfl⟩ := n
      rw [u2_s] at hz
      rw [fU_same]
      exact hz
    · rw [u2_n n] at hz
      rw [fU_ne (fun w => n (hR.2 _ _ _ _ _ _ hz hy w))]
      exact hR.1 _ _ _ hz
  · obtain ⟨w1, q1⟩ := dom _ _ _ h1
    obtain ⟨w2, q2⟩ := dom _ _ _ h2
    exact hR.2 _ _ _ _ _ _ q1 q2 e
theorem RG.sub {h : fH} {ρ : Nat → Nat → Nat} {C C' : Nat → Nat → Option va_E} (hR : RG h ρ C) (hs : ∀ k i x, C' k i = some x → C k i = some x) : RG h ρ C' :=
  ⟨fun k i x hx => hR.1 k i x (hs k i x hx), fun k i k' i' x x' h1 h2 e => hR.2 k i k' i' x x' (hs _ _ _ h1) (hs _ _ _ h2) e⟩
theorem RG.add1 {h h' : fH} {ρ : Nat → Nat → Nat} {C C' : Nat → Nat → Option va_E} {q kd nn e d c capq : Nat} {cell L0 AR LI : va_E} (hR : RG h ρ C) (hc1 : C 1 q = some L0) (hc2 : 0 < capq → ∃ z, C 2 q = some z) (he : h e = none)
    (hd : (d = ρ 2 q ∧ c = capq ∧ 0 < capq) ∨ fU h e cell d = none) (e1 : h' = fU (fU (fU h e cell) d AR) (ρ 1 q) LI) (hkd : kd ≠ 1 ∧ kd ≠ 2)
    (H1 : C' kd nn = some cell) (H2 : ∀ k i, ¬ (k = kd ∧ i = nn) → ¬ (k = 1 ∧ i = q) → ¬ (k = 2 ∧ i = q) → ∀ x, C' k i = some x → C k i = some x) (H3 : C' 1 q = some LI) (H4 : C' 2 q = some AR) : RG h' (gR ρ kd nn e q d) C' := by
  have hL := hR.1 _ _ _ hc1
  have eL : e ≠ ρ 1 q := fun z => by rw [z, hL] at he; cases he
  have hd' : (d = ρ 2 q ∧ ∃ z, C 2 q = some z) ∨ h d = none := by
    rcases hd with ⟨z1, _, z3⟩ | z
    · exact Or.inl ⟨z1, hc2 z3⟩
    · right
      by_cases w : d = e
      · rw [w, fU_same] at z
        cases z
      · rw [fU_ne w] at z
        exact z
  have de : d ≠ e := by
    rcases hd with ⟨z1, _, z3⟩ | z
    · intro w
      obtain ⟨y, hy⟩ := hc2 z3
      have := hR.1 _ _ _ hy
      rw [← z1, w, he] at this
      cases this
    · intro w
      rw [w, fU_same] at z
      cases z
  have dL : d ≠ ρ 1 q := by
    rcases hd' with ⟨z1, y, hy⟩ | z
    · rw [z1]
      exact fun w => absurd (hR.2 _ _ _ _ _ _ hy hc1 w).1 (by decide)
    · exact fun w => by rw [w, hL] at z; cases z
  have r1 : gR ρ kd nn e q d kd nn = e := if_pos ⟨rfl, rfl⟩
  have rd : gR ρ kd nn e q d 2 q = d := (if_neg (fun z => hkd.2 z.1.symm)).trans (if_pos ⟨rfl, rfl⟩)
  have cls : ∀ k i x, C' k i = some x → (k = kd ∧ i = nn ∧ gR ρ kd nn e q d k i = e) ∨ (k = 2 ∧ i = q ∧ gR ρ kd nn e q d k i = d) ∨ (¬ (k = kd ∧ i = nn) ∧ ¬ (k = 2 ∧ i = q) ∧ gR ρ kd nn e q d k i = ρ k i ∧ ∃ y, C k i = some y) := by
    intro k i x hx
    by_cases a1 : k = kd ∧ i = nn
    · obtain ⟨rfl, rfl⟩ := a1
      exact Or.inl ⟨rfl, rfl, r1⟩
    by_cases a3 : k = 2 ∧ i = q
    · obtain ⟨rfl, rfl⟩ := a3
      exact Or.inr (Or.inl ⟨rfl, rfl, rd⟩)
    refine Or.inr (Or.inr ⟨a1, a3, gR_o a1 a3, ?_⟩)
    by_cases a2 : k = 1 ∧ i = q
    · obtain ⟨rfl, rfl⟩ := a2
      exact ⟨_, hc1⟩
    exact ⟨_, H2 k i a1 a2 a3 x hx⟩
  have od : ∀ k i y, ¬ (k = 2 ∧ i = q) → C k i = some y → ρ k i ≠ d := fun k i y a3 hy w => by
    rcases hd' with ⟨z1, z, hz⟩ | z
    · exact a3 (hR.2 _ _ _ _ _ _ hy hz (w.trans z1))
    · have := hR.1 _ _ _ hy
      rw [w, z] at this
      cases this
  have oe : ∀ k i y, C k i = some y → ρ k i ≠ e := fun k i y hy w => by
    have := hR.1 _ _ _ hy
    rw [w, he] at this
    cases this
  refine ⟨fun k i x hx => ?_, fun k i k' i' x x' hx hx' heq => ?_⟩
  · rcases cls k i x hx with ⟨rfl, rfl, z⟩ | ⟨rfl, rfl, z⟩ | ⟨a1, a3, z, y, hy⟩
    · rw [z, e1, fU_ne eL, fU_ne de.symm, fU_same, ← H1]
      exact hx
    · rw [z, e1, fU_ne dL, fU_same, ← H4]
      exact hx
    · rw [z, e1]
      by_cases a2 : k = 1 ∧ i = q
      · obtain ⟨rfl, rfl⟩ := a2
        rw [fU_same, ← H3]
        exact hx
      · rw [fU_ne (fun w => a2 (hR.2 _ _ _ _ _ _ hy hc1 w)), fU_ne (od k i y a3 hy), fU_ne (oe k i y hy)]
        exact hR.1 _ _ _ (H2 k i a1 a2 a3 x hx)
  · rcases cls k i x hx with ⟨rfl, rfl, z⟩ | ⟨rfl, rfl, z⟩ | ⟨a1, a3, z, y, hy⟩
    · rcases cls k' i' x' hx' with ⟨rfl, rfl, z'⟩ | ⟨rfl, rfl, z'⟩ | ⟨_, _, z', y', hy'⟩
      · exact ⟨rfl, rfl⟩
      · rw [z, z'] at heq
        exact absurd heq de.symm
      · rw [z, z'] at heq
        exact absurd heq.symm (oe _ _ _ hy')
    · rcases cls k' i' x' hx' with ⟨rfl, rfl, z'⟩ | ⟨rfl, rfl, z'⟩ | ⟨_, b3, z', y', hy'⟩
      · rw [z, z'] at heq
        exact absurd heq de
      · exact ⟨rfl, rfl⟩
      · rw [z, z'] at heq
        exact absurd heq.symm (od _ _ _ b3 hy')
    · rcases cls k' i' x' hx' with ⟨rfl, rfl, z'⟩ | ⟨rfl, rfl, z'⟩ | ⟨_, _, z', y', hy'⟩
      · rw [z, z'] at heq
        exact absurd heq (oe _ _ _ hy)
      · rw [z, z'] at heq
        exact absurd heq (od _ _ _ a3 hy)
      · rw [z, z'] at heq
        exact hR.2 _ _ _ _ _ _ hy hy' heq
end
