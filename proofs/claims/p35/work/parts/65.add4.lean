noncomputable section
/-- addresses and the like outside the picture don't matter -/
theorem RX.out {ca : Nat → Nat} {h : fH} {ρ ρ' : Nat → Nat → Nat} {μ μ' : Nat → Nat → Int32} {cap cap' : Nat → Nat} {σ : St} (hR : RX ca h ρ μ cap σ) (h1 : ∀ k i, ρ' k i = ρ k i ∨ ((k = 1 ∨ k = 2) ∧ 6 + ix (σ 26 0) ≤ i)) (h2 : ∀ k, k < 6 + ix (σ 26 0) → μ' 0 k = μ 0 k) (h2' : ∀ k, k ≠ 0 → μ' k = μ k) (h3 : ∀ k, k < 6 + ix (σ 26 0) → cap' k = cap k) : RX ca h ρ' μ' cap' σ := by
  have g : ∀ k i, k ≠ 1 → k ≠ 2 → ρ' k i = ρ k i := fun k i a b => (h1 k i).resolve_right (by omega)
  have g1 : ∀ i, i < 6 + ix (σ 26 0) → ρ' 1 i = ρ 1 i := fun i a => (h1 1 i).resolve_right (by omega)
  have g2 : ∀ i, i < 6 + ix (σ 26 0) → ρ' 2 i = ρ 2 i := fun i a => (h1 2 i).resolve_right (by omega)
  have hD : ∀ k, xD ρ' σ k = xD ρ σ k := fun k => by
    unfold xD
    funext i
    have : xE ρ' k i = xE ρ k i := by
      match k with
      | 0 => exact g 6 i (by decide) (by decide)
      | 1 => exact g 8 i (by decide) (by decide)
      | 2 => exact g 9 i (by decide) (by decide)
      | 3 => exact g 10 i (by decide) (by decide)
      | 4 => exact g 11 i (by decide) (by decide)
      | 5 => exact g 13 i (by decide) (by decide)
      | m + 6 => exact g 12 (10 * m + i) (by decide) (by decide)
    rw [this]
  have hC : ∀ k i, xC ca ρ' μ' cap' σ k i = xC ca ρ μ cap σ k i := fun k i => by
    match k with
    | 1 =>
      show (if i < 6 + ix (σ 26 0) then some (Sum.inr (0, xList ρ' μ' σ i)) else none) = (if i < 6 + ix (σ 26 0) then some (Sum.inr (0, xList ρ μ σ i)) else none)
      by_cases v : i < 6 + ix (σ 26 0)
      · rw [if_pos v, if_pos v]
        unfold xList
        rw [g2 i v, h2 i v]
      · rw [if_neg v, if_neg v]
    | 2 =>
      show (if i < 6 + ix (σ 26 0) ∧ 0 < cap' i then some (Sum.inl (ca 2, cap' i, fRefs (xD ρ' σ i))) else none) = (if i < 6 + ix (σ 26 0) ∧ 0 < cap i then some (Sum.inl (ca 2, cap i, fRefs (xD ρ σ i))) else none)
      by_cases v : i < 6 + ix (σ 26 0)
      · rw [hD, h3 i v]
      · rw [if_neg (fun z => v z.1), if_neg (fun z => v z.1)]
    | 11 =>
      show (if i < ix (σ 26 0) then some (Sum.inr (4, xMeter ρ' σ i)) else none) = (if i < ix (σ 26 0) then some (Sum.inr (4, xMeter ρ σ i)) else none)
      by_cases v : i < ix (σ 26 0)
      · rw [if_pos v, if_pos v]
        unfold xMeter
        rw [g1 (i + 6) (by omega), g 8 _ (by decide) (by decide)]
      · rw [if_neg v, if_neg v]
    | 0 =>
      unfold xC
      simp (disch := first | decide | omega) only [xRoot, g, g1]
    | 3 | 4 | 5 | 6 | 7 | 8 | 9 | 10 | 12 | 13 | 14 | 15 =>
      unfold xC
      simp (disch := first | decide | omega) only [xLabel, xWalk, xChoice, xZone, xPlace, xVillage, xLamp, xReading, xSat, g, g1, h2']
    | k + 16 => rw [xC_hi (by omega), xC_hi (by omega)]
  have dm : ∀ k i x, xC ca ρ μ cap σ k i = some x → ρ' k i = ρ k i := fun k i x hx => by
    rcases h1 k i with z | ⟨z | z, w⟩
    · exact z
    · subst z
      have hx' : (if i < 6 + ix (σ 26 0) then some (Sum.inr (0, xList ρ μ σ i)) else none) = some x := hx
      rw [if_neg (by omega)] at hx'
      cases hx'
    · subst z
      have hx' : (if i < 6 + ix (σ 26 0) ∧ 0 < cap i then some (Sum.inl (ca 2, cap i, fRefs (xD ρ σ i))) else none) = some x := hx
      rw [if_neg (by omega)] at hx'
      cases hx'
  refine ⟨fun k i x hx => ?_, fun k i k' i' x x' hx hx' e => ?_, fun k hk => ?_⟩
  · rw [hC] at hx
    rw [dm k i x hx]
    exact hR.1 k i x hx
  · rw [hC] at hx hx'
    rw [dm k i x hx, dm k' i' x' hx'] at e
    exact hR.2.1 k i k' i' x x' hx hx' e
  · rw [h3 k hk, g2 k hk]
    exact hR.2.2 k hk
/-- an object added to a list, beside another new cell -/
theorem RX.addG2 {ca : Nat → Nat} {h h' : fH} {ρ : Nat → Nat → Nat} {μ : Nat → Nat → Int32} {cap : Nat → Nat} {σ σ' : St} {q kd nn n e k2 i2 d c : Nat} {cell c2 : va_E} (hR : RX ca h ρ μ cap σ) (hcap : ∀ k, cap k ≤ 100) (hq : q < 6 + ix (σ 26 0)) (he : h e = none) (he2 : h (ρ k2 i2) = none) (hee : e ≠ ρ k2 i2)
    (hd : (d = ρ 2 q ∧ c = cap q ∧ 0 < cap q) ∨ fU (fU h (ρ k2 i2) c2) e cell d = none) (hnc : n < c) (hc100 : c ≤ 100) (e1 : h' = fU (fU (fU (fU h (ρ k2 i2) c2) e cell) d (.inl (ca 2, c, fRefs (va_up (xD ρ σ q) n (some e))))) (ρ 1 q) (.inr (0, [.int (μ 0 q + 1), .ref d, .int (nI (n + 1))]))) (hkd : kd ≠ 1 ∧ kd ≠ 2 ∧ kd ≠ 0)
    (hk2 : ¬ (k2 = kd ∧ i2 = nn) ∧ ¬ (k2 = 2 ∧ i2 = q) ∧ ¬ (k2 = 1 ∧ i2 = q))
    (H1 : xC ca (gR ρ kd nn e q d) (gM μ q (μ 0 q + 1)) (gC cap q c) σ' kd nn = some cell) (H7 : xC ca (gR ρ kd nn e q d) (gM μ q (μ 0 q + 1)) (gC cap q c) σ' k2 i2 = some c2)
    (H2 : ∀ k i, ¬ (k = kd ∧ i = nn) → ¬ (k = 1 ∧ i = q) → ¬ (k = 2 ∧ i = q) → ¬ (k = k2 ∧ i = i2) → xC ca (gR ρ kd nn e q d) (gM μ q (μ 0 q + 1)) (gC cap q c) σ' k i = xC ca ρ μ cap σ k i)
    (H3 : xC ca (gR ρ kd nn e q d) (gM μ q (μ 0 q + 1)) (gC cap q c) σ' 1 q = some (.inr (0, [.int (μ 0 q + 1), .ref d, .int (nI (n + 1))])))
    (H4 : xC ca (gR ρ kd nn e q d) (gM μ q (μ 0 q + 1)) (gC cap q c) σ' 2 q = some (.inl (ca 2, c, fRefs (va_up (xD ρ σ q) n (some e)))))
    (H5 : ∀ k, k < 6 + ix (σ' 26 0) → xL σ' k ≤ gC cap q c k ∧ gC cap q c k < 1000 ∧ (gC cap q c k = 0 → gR ρ kd nn e q d 2 k = ca 4)) : RA ca h' (ρ 0 0) σ' := by
  have hL : h (ρ 1 q) = some (.inr (0, xList ρ μ σ q)) := hR.list hq
  have eL : e ≠ ρ 1 q := fun z => by rw [z, hL] at he; cases he
  have e2L : ρ k2 i2 ≠ ρ 1 q := fun z => by rw [z, hL] at he2; cases he2
  have hd' : (d = ρ 2 q ∧ 0 < cap q ∧ h d = some (.inl (ca 2, cap q, fRefs (xD ρ σ q)))) ∨ h d = none := by
    rcases hd with ⟨z1, _, z3⟩ | z
    · refine Or.inl ⟨z1, z3, ?_⟩
      rw [z1]
      exact hR.1 2 q _ (if_pos ⟨hq, z3⟩)
    · right
      by_cases w : d = e
      · rw [w, fU_same] at z
        cases z
      · rw [fU_ne w] at z
        by_cases w2 : d = ρ k2 i2
        · rw [w2, fU_same] at z
          cases z
        · rw [fU_ne w2] at z
          exact z
  have de : d ≠ e := by
    rcases hd with ⟨z1, _, z3⟩ | z
    · intro w
      have := hR.1 2 q _ (if_pos ⟨hq, z3⟩)
      rw [← z1, w, he] at this
      cases this
    · intro w
      rw [w, fU_same] at z
      cases z
  have de2 : d ≠ ρ k2 i2 := by
    rcases hd with ⟨z1, _, z3⟩ | z
    · intro w
      have := hR.1 2 q _ (if_pos ⟨hq, z3⟩)
      rw [← z1, w, he2] at this
      cases this
    · intro w
      rw [w, fU_ne hee.symm, fU_same] at z
      cases z
  have dL : d ≠ ρ 1 q := by
    rcases hd' with ⟨z1, z3, _⟩ | z
    · rw [z1]
      exact fun w => absurd (hR.2.1 2 q 1 q _ _ (if_pos ⟨hq, z3⟩) (if_pos hq) w).1 (by decide)
    · exact fun w => by rw [w, hL] at z; cases z
  have r1 : gR ρ kd nn e q d kd nn = e := if_pos ⟨rfl, rfl⟩
  have r2 : gR ρ kd nn e q d 2 q = d := (if_neg (fun z => hkd.2.1 z.1.symm)).trans (if_pos ⟨rfl, rfl⟩)
  have r3 : gR ρ kd nn e q d k2 i2 = ρ k2 i2 := gR_o hk2.1 hk2.2.1
  have cls : ∀ k i x, xC ca (gR ρ kd nn e q d) (gM μ q (μ 0 q + 1)) (gC cap q c) σ' k i = some x → (k = kd ∧ i = nn ∧ gR ρ kd nn e q d k i = e) ∨ (k = 2 ∧ i = q ∧ gR ρ kd nn e q d k i = d) ∨ (k = k2 ∧ i = i2 ∧ gR ρ kd nn e q d k i = ρ k2 i2) ∨ (¬ (k = kd ∧ i = nn) ∧ ¬ (k = 2 ∧ i = q) ∧ ¬ (k = k2 ∧ i = i2) ∧ gR ρ kd nn e q d k i = ρ k i ∧ ∃ y, xC ca ρ μ cap σ k i = some y) := by
    intro k i x hx
    by_cases a1 : k = kd ∧ i = nn
    · obtain ⟨rfl, rfl⟩ := a1
      exact Or.inl ⟨rfl, rfl, r1⟩
    by_cases a3 : k = 2 ∧ i = q
    · obtain ⟨rfl, rfl⟩ := a3
      exact Or.inr (Or.inl ⟨rfl, rfl, r2⟩)
    by_cases a4 : k = k2 ∧ i = i2
    · obtain ⟨rfl, rfl⟩ := a4
      exact Or.inr (Or.inr (Or.inl ⟨rfl, rfl, r3⟩))
    refine Or.inr (Or.inr (Or.inr ⟨a1, a3, a4, gR_o a1 a3, ?_⟩))
    by_cases a2 : k = 1 ∧ i = q
    · obtain ⟨rfl, rfl⟩ := a2
      exact ⟨_, if_pos hq⟩
    rw [H2 k i a1 a2 a3 a4] at hx
    exact ⟨_, hx⟩
  refine ⟨gR ρ kd nn e q d, gM μ q (μ 0 q + 1), gC cap q c, ?_, ?_, ?_⟩
  · refine RX.grow hR ?_ ?_ ?_ H5
    · intro k i x hx
      rcases cls k i x hx with ⟨rfl, rfl, z⟩ | ⟨rfl, rfl, z⟩ | ⟨rfl, rfl, z⟩ | ⟨_, _, _, z, w⟩
      · rw [z]; exact Or.inr he
      · rw [z]
        rcases hd' with ⟨z1, z3, _⟩ | w
        · exact Or.inl ⟨z1, _, if_pos ⟨hq, z3⟩⟩
        · exact Or.inr w
      · rw [z]; exact Or.inr he2
      · exact Or.inl ⟨z, w⟩
    · intro k i k' i' x x' hx hx' hnone heq
      rcases cls k i x hx with ⟨rfl, rfl, z⟩ | ⟨rfl, rfl, z⟩ | ⟨rfl, rfl, z⟩ | ⟨_, _, _, z, y, hy⟩
      · rw [z] at heq hnone
        rcases cls k' i' x' hx' with ⟨rfl, rfl, z'⟩ | ⟨rfl, rfl, z'⟩ | ⟨rfl, rfl, z'⟩ | ⟨_, _, _, z', y', hy'⟩
        · exact ⟨rfl, rfl⟩
        · exact absurd (heq.trans z') de.symm
        · exact absurd (heq.trans z') hee
        · have := hR.1 _ _ _ hy'
          rw [← z', ← heq, he] at this
          cases this
      · rw [z] at heq hnone
        rcases cls k' i' x' hx' with ⟨rfl, rfl, z'⟩ | ⟨rfl, rfl, z'⟩ | ⟨rfl, rfl, z'⟩ | ⟨_, _, _, z', y', hy'⟩
        · exact absurd (heq.trans z') de
        · exact ⟨rfl, rfl⟩
        · exact absurd (heq.trans z') de2
        · have := hR.1 _ _ _ hy'
          rw [← z', ← heq, hnone] at this
          cases this
      · rw [z] at heq hnone
        rcases cls k' i' x' hx' with ⟨rfl, rfl, z'⟩ | ⟨rfl, rfl, z'⟩ | ⟨rfl, rfl, z'⟩ | ⟨_, _, _, z', y', hy'⟩
        · exact absurd (heq.trans z').symm hee
        · exact absurd (heq.trans z').symm de2
        · exact ⟨rfl, rfl⟩
        · have := hR.1 _ _ _ hy'
          rw [← z', ← heq, he2] at this
          cases this
      · rw [z, hR.1 _ _ _ hy] at hnone
        cases hnone
    · intro k i x hx
      rcases cls k i x hx with ⟨rfl, rfl, z⟩ | ⟨rfl, rfl, z⟩ | ⟨rfl, rfl, z⟩ | ⟨a1, a3, a4, z, y, hy⟩
      · rw [z, e1, fU_ne eL, fU_ne de.symm, fU_same, ← H1]
        exact hx
      · rw [z, e1, fU_ne dL, fU_same, ← H4]
        exact hx
      · rw [z, e1, fU_ne e2L, fU_ne de2.symm, fU_ne hee.symm, fU_same, ← H7]
        exact hx
      · rw [z, e1]
        by_cases a2 : k = 1 ∧ i = q
        · obtain ⟨rfl, rfl⟩ := a2
          rw [fU_same, ← H3]
          exact hx
        have hyh := hR.1 k i y hy
        have nL : ρ k i ≠ ρ 1 q := fun w => a2 (hR.2.1 k i 1 q _ _ hy (if_pos hq) w)
        have ne : ρ k i ≠ e := fun w => by rw [w, he] at hyh; cases hyh
        have ne2 : ρ k i ≠ ρ k2 i2 := fun w => by rw [w, he2] at hyh; cases hyh
        have nd : ρ k i ≠ d := by
          rcases hd' with ⟨z1, z3, _⟩ | w
          · rw [z1]
            exact fun w => a3 (hR.2.1 k i 2 q _ _ hy (if_pos ⟨hq, z3⟩) w)
          · exact fun v => by rw [v, w] at hyh; cases hyh
        rw [fU_ne nL, fU_ne nd, fU_ne ne, fU_ne ne2]
        rw [H2 k i a1 a2 a3 a4] at hx
        exact hR.1 k i x hx
  · exact gR_o (fun z => hkd.2.2 z.1.symm) (fun z => absurd z.1 (by decide))
  · intro k
    unfold gC
    split
    · exact hc100
    · exact hcap k
end
