noncomputable section
/-- a meter more -/
def newMet (σ : St) (p1 p2 p3 : Int32) : St := sC (sS (sS (sS σ 27 (ix (σ 26 0)) p1) 28 (ix (σ 26 0)) p2) 29 (ix (σ 26 0)) p3) 26 (σ 26 0 + 1)
theorem RX.addMet0 {ca : Nat → Nat} {h h' : fH} {ρ : Nat → Nat → Nat} {μ : Nat → Nat → Int32} {cap : Nat → Nat} {σ : St} {e e2 : Nat} {p1 p2 p3 : Int32} (hR : RX ca h ρ μ cap σ) (hI : InvX σ) (hcap : ∀ k, cap k ≤ 100) (he : h e = none) (he2 : h e2 = none) (hee : e ≠ e2) (hr1 : ρ 1 (ix (σ 26 0) + 6) = e2) (hr2 : ρ 2 (ix (σ 26 0) + 6) = ca 4) (hm : μ 0 (ix (σ 26 0) + 6) = 0) (hcp : cap (ix (σ 26 0) + 6) = 0)
    (hA : rAdd ca (fU (fU h e2 (.inr (0, [.int 0, .ref (ca 4), .int 0]))) e (.inr (4, [.ref (ρ 8 (ix p1)), .int p2, .int p3, .ref e2, .int 0]))) (ρ 1 4) (ρ 2 4) (cap 4) (ix (σ 26 0)) e (μ 0 4 + 1) (xD ρ σ 4) h') (h8 : ix (σ 26 0) < 8) : RA ca h' (ρ 0 0) (newMet σ p1 p2 p3) := by
  have h26 : newMet σ p1 p2 p3 26 0 = σ 26 0 + 1 := sC_same ..
  have e26 : ix (newMet σ p1 p2 p3 26 0) = ix (σ 26 0) + 1 := by rw [h26]; exact cnt1 (N := 8) (hI.1 26 0) (by decide)
  have cc : ∀ k, k < 26 ∨ 29 < k → newMet σ p1 p2 p3 k = σ k := fun k a => by
    unfold newMet
    rw [sC_col (by omega), sS_col (by omega), sS_col (by omega), sS_col (by omega)]
  have cN : ∀ k i, k ≠ 26 → i ≠ ix (σ 26 0) → newMet σ p1 p2 p3 k i = σ k i := fun k i a hi => by
    unfold newMet
    rw [sC_col a, sS_ne (fun _ => hi), sS_ne (fun _ => hi), sS_ne (fun _ => hi)]
  have d27 : newMet σ p1 p2 p3 27 (ix (σ 26 0)) = p1 := by
    unfold newMet
    rw [sC_col (by decide), sS_col (by decide), sS_col (by decide), sS_same]
  have d28 : newMet σ p1 p2 p3 28 (ix (σ 26 0)) = p2 := by
    unfold newMet
    rw [sC_col (by decide), sS_col (by decide), sS_same]
  have d29 : newMet σ p1 p2 p3 29 (ix (σ 26 0)) = p3 := by
    unfold newMet
    rw [sC_col (by decide), sS_same]
  generalize newMet σ p1 p2 p3 = σ' at *
  obtain ⟨z30, z31⟩ := hI.2.2.2.2.2 (ix (σ 26 0)) (Nat.le_refl _)
  have hL : ∀ k, xL σ' k = if k = 4 then ix (σ 26 0) + 1 else xL σ k := fun k => by
    match k with
    | 0 => rfl
    | 1 => rfl
    | 2 => show ix (σ' 8 0) = ix (σ 8 0); rw [cc 8 (by decide)]
    | 3 => show ix (σ' 13 0) = ix (σ 13 0); rw [cc 13 (by decide)]
    | 4 => exact e26
    | 5 => show ix (σ' 37 0) = ix (σ 37 0); rw [cc 37 (by decide)]
    | m + 6 => rw [if_neg (by omega)]; show ix (σ' 31 m) = ix (σ 31 m); rw [cc 31 (by decide)]
  obtain ⟨d, c, hd, hnc, hc100, e1⟩ := hA
  have g : ∀ k i, k ≠ 11 → k ≠ 2 → gR ρ 11 (ix (σ 26 0)) e 4 d k i = ρ k i := fun k i z1 z2 => gR_o (fun z => z1 z.1) (fun z => z2 z.1)
  have g2 : ∀ i, i ≠ 4 → gR ρ 11 (ix (σ 26 0)) e 4 d 2 i = ρ 2 i := fun i z => gR_o (fun z => absurd z.1 (by decide)) (fun w => z w.2)
  have gk : ∀ i, i ≠ ix (σ 26 0) → gR ρ 11 (ix (σ 26 0)) e 4 d 11 i = ρ 11 i := fun i z => gR_o (fun w => z w.2) (fun z => absurd z.1 (by decide))
  have m0 : ∀ i, i ≠ 4 → gM μ 4 (μ 0 4 + 1) 0 i = μ 0 i := fun i z => if_neg (fun w => z w.2)
  have mk : ∀ k, k ≠ 0 → gM μ 4 (μ 0 4 + 1) k = μ k := fun k z => funext fun i => if_neg (fun w => z w.1)
  have cq : ∀ i, i ≠ 4 → gC cap 4 c i = cap i := fun i z => if_neg z
  have hD : ∀ k, k ≠ 4 → xD (gR ρ 11 (ix (σ 26 0)) e 4 d) σ' k = xD ρ σ k := fun k z => by
    unfold xD
    funext i
    rw [hL, if_neg z]
    have : xE (gR ρ 11 (ix (σ 26 0)) e 4 d) k i = xE ρ k i := by
      match k with
      | 0 => exact g 6 i (by decide) (by decide)
      | 1 => exact g 8 i (by decide) (by decide)
      | 2 => exact g 9 i (by decide) (by decide)
      | 3 => exact g 10 i (by decide) (by decide)
      | 4 => exact absurd rfl z
      | 5 => exact g 13 i (by decide) (by decide)
      | m + 6 => exact g 12 (10 * m + i) (by decide) (by decide)
    rw [this]
  have hF : ∀ z, xF σ' z = xF σ z := fun z => by
    unfold xF
    rw [cc 7 (by decide)]
  refine RX.addG2 (σ' := σ') (q := 4) (kd := 11) (nn := ix (σ 26 0)) (n := ix (σ 26 0)) (k2 := 1) (i2 := ix (σ 26 0) + 6) (d := d) (c := c) (cell := .inr (4, [.ref (ρ 8 (ix p1)), .int p2, .int p3, .ref e2, .int 0])) (c2 := .inr (0, [.int 0, .ref (ca 4), .int 0])) hR hcap (by omega) he (by rw [hr1]; exact he2) (by rw [hr1]; exact hee) (by rw [hr1]; exact hd) hnc hc100 (by rw [hr1]; exact e1) ⟨by decide, by decide, by decide⟩ ⟨fun z => absurd z.1 (by decide), fun z => absurd z.1 (by decide), fun z => by omega⟩ ?_ ?_ ?_ ?_ ?_ ?_
  · show (if ix (σ 26 0) < ix (σ' 26 0) then some (Sum.inr (4, xMeter (gR ρ 11 (ix (σ 26 0)) e 4 d) σ' (ix (σ 26 0)))) else none) = _
    rw [if_pos (by omega)]
    unfold xMeter
    rw [d27, d28, d29, cc 30 (by decide), z30, g 8 _ (by decide) (by decide), g 1 _ (by decide) (by decide), hr1]
  · show (if ix (σ 26 0) + 6 < 6 + ix (σ' 26 0) then some (Sum.inr (0, xList (gR ρ 11 (ix (σ 26 0)) e 4 d) (gM μ 4 (μ 0 4 + 1)) σ' (ix (σ 26 0) + 6))) else none) = _
    rw [if_pos (by omega)]
    unfold xList
    rw [m0 _ (by omega), g2 _ (by omega), hr2, hm, show xL σ' (ix (σ 26 0) + 6) = 0 by show ix (σ' 31 (ix (σ 26 0))) = 0; rw [cc 31 (by decide), z31]; rfl]
    rfl
  · intro k i a1 a2 a3 a4
    match k with
    | 1 =>
      have hi : i ≠ 4 := fun z => a2 ⟨rfl, z⟩
      have hi6 : i ≠ ix (σ 26 0) + 6 := fun z => a4 ⟨rfl, z⟩
      show (if i < 6 + ix (σ' 26 0) then some (Sum.inr (0, xList (gR ρ 11 (ix (σ 26 0)) e 4 d) (gM μ 4 (μ 0 4 + 1)) σ' i)) else none) = (if i < 6 + ix (σ 26 0) then some (Sum.inr (0, xList ρ μ σ i)) else none)
      unfold xList
      rw [g2 i hi, m0 i hi, hL, if_neg hi]
      by_cases v : i < 6 + ix (σ 26 0)
      · rw [if_pos v, if_pos (by omega)]
      · rw [if_neg v, if_neg (by omega)]
    | 2 =>
      have hi : i ≠ 4 := fun z => a3 ⟨rfl, z⟩
      show (if i < 6 + ix (σ' 26 0) ∧ 0 < gC cap 4 c i then some (Sum.inl (ca 2, gC cap 4 c i, fRefs (xD (gR ρ 11 (ix (σ 26 0)) e 4 d) σ' i))) else none) = (if i < 6 + ix (σ 26 0) ∧ 0 < cap i then some (Sum.inl (ca 2, cap i, fRefs (xD ρ σ i))) else none)
      rw [cq i hi, hD i hi]
      by_cases v : i < 6 + ix (σ 26 0) ∧ 0 < cap i
      · rw [if_pos v, if_pos ⟨by omega, v.2⟩]
      · rw [if_neg v, if_neg fun z => v ⟨by
          rcases Nat.lt_or_ge i (6 + ix (σ 26 0)) with w | w
          · exact w
          · have : i = ix (σ 26 0) + 6 := by omega
            rw [this, hcp] at z
            omega, z.2⟩]
    | 11 =>
      have hi : i ≠ ix (σ 26 0) := fun z => a1 ⟨rfl, z⟩
      show (if i < ix (σ' 26 0) then some (Sum.inr (4, xMeter (gR ρ 11 (ix (σ 26 0)) e 4 d) σ' i)) else none) = (if i < ix (σ 26 0) then some (Sum.inr (4, xMeter ρ σ i)) else none)
      unfold xMeter
      rw [cN 27 i (by decide) hi, cN 28 i (by decide) hi, cN 29 i (by decide) hi, cc 30 (by decide), g 8 _ (by decide) (by decide), g 1 _ (by decide) (by decide)]
      by_cases v : i < ix (σ 26 0)
      · rw [if_pos v, if_pos (by omega)]
      · rw [if_neg v, if_neg (by omega)]
    | 12 =>
      show (if i / 10 < ix (σ' 26 0) ∧ i % 10 < ix (σ' 31 (i / 10)) then some (Sum.inr (6, xReading σ' i)) else none) = (if i / 10 < ix (σ 26 0) ∧ i % 10 < ix (σ 31 (i / 10)) then some (Sum.inr (6, xReading σ i)) else none)
      unfold xReading
      rw [cc 31 (by decide), cc 32 (by decide), cc 33 (by decide)]
      by_cases v : i / 10 < ix (σ 26 0) ∧ i % 10 < ix (σ 31 (i / 10))
      · rw [if_pos v, if_pos ⟨by omega, v.2⟩]
      · rw [if_neg v, if_neg fun z => v ⟨by
          rcases Nat.lt_or_ge (i / 10) (ix (σ 26 0)) with w | w
          · exact w
          · have h2 := z.2
            rw [show i / 10 = ix (σ 26 0) by omega, z31] at h2
            exact absurd h2 (Nat.not_lt_zero _), z.2⟩]
    | 0 | 3 | 4 | 5 | 6 | 7 | 8 | 9 | 10 | 13 | 14 | 15 =>
      unfold xC
      simp (disch := first | decide | omega) only [xRoot, xLabel, xWalk, xChoice, xZone, hF, xPlace, xVillage, xLamp, xSat, g, mk, cc]
    | k + 16 => rw [xC_hi (by omega), xC_hi (by omega)]
  · show (if 4 < 6 + ix (σ' 26 0) then some (Sum.inr (0, xList (gR ρ 11 (ix (σ 26 0)) e 4 d) (gM μ 4 (μ 0 4 + 1)) σ' 4)) else none) = _
    rw [if_pos (by omega)]
    unfold xList
    rw [hL, if_pos rfl, show gM μ 4 (μ 0 4 + 1) 0 4 = μ 0 4 + 1 from if_pos ⟨rfl, rfl⟩, show gR ρ 11 (ix (σ 26 0)) e 4 d 2 4 = d from (if_neg (fun z => absurd z.1 (by decide))).trans (if_pos ⟨rfl, rfl⟩)]
  · have hc : 0 < c := by omega
    show (if 4 < 6 + ix (σ' 26 0) ∧ 0 < gC cap 4 c 4 then some (Sum.inl (ca 2, gC cap 4 c 4, fRefs (xD (gR ρ 11 (ix (σ 26 0)) e 4 d) σ' 4))) else none) = _
    have e1 : gC cap 4 c 4 = c := if_pos rfl
    rw [e1, if_pos ⟨by omega, hc⟩]
    have e2 : xD (gR ρ 11 (ix (σ 26 0)) e 4 d) σ' 4 = va_up (xD ρ σ 4) (ix (σ 26 0)) (some e) := by
      funext i
      unfold xD va_up
      rw [hL, if_pos rfl]
      show _ = (if i = (ix (σ 26 0)) then some e else if i < xL σ 4 then some (xE ρ 4 i) else none)
      by_cases w : i = (ix (σ 26 0))
      · subst w
        rw [if_pos (by omega), if_pos rfl]
        exact congrArg some (if_pos ⟨rfl, rfl⟩)
      · rw [if_neg w]
        by_cases v : i < (ix (σ 26 0))
        · rw [if_pos (by omega), if_pos (show i < xL σ 4 from v)]
          exact congrArg some (gR_o (fun z => w z.2) (fun z => absurd z.1 (by decide)))
        · rw [if_neg (by omega), if_neg (show ¬ i < xL σ 4 from v)]
    rw [e2]
  · intro k hk
    rw [hL]
    unfold gC
    by_cases w : k = 4
    · subst w
      rw [if_pos rfl, if_pos rfl]
      exact ⟨by omega, by omega, fun z => by omega⟩
    · rw [if_neg w, if_neg w, g2 k w]
      by_cases v : k = ix (σ 26 0) + 6
      · subst v
        rw [hcp]
        refine ⟨?_, by omega, fun _ => hr2⟩
        show ix (σ 31 (ix (σ 26 0))) ≤ 0
        rw [z31]
        exact Nat.le_refl _
      · exact hR.2.2 k (by omega)
theorem RX.addMet {ca : Nat → Nat} {h h' : fH} {ρ : Nat → Nat → Nat} {μ : Nat → Nat → Int32} {cap : Nat → Nat} {σ : St} {e e2 : Nat} {p1 p2 p3 : Int32} (hR : RX ca h ρ μ cap σ) (hI : InvX σ) (hcap : ∀ k, cap k ≤ 100) (he : h e = none) (he2 : h e2 = none) (hee : e ≠ e2)
    (hA : rAdd ca (fU (fU h e2 (.inr (0, [.int 0, .ref (ca 4), .int 0]))) e (.inr (4, [.ref (ρ 8 (ix p1)), .int p2, .int p3, .ref e2, .int 0]))) (ρ 1 4) (ρ 2 4) (cap 4) (ix (σ 26 0)) e (μ 0 4 + 1) (xD ρ σ 4) h') (h8 : ix (σ 26 0) < 8) : RA ca h' (ρ 0 0) (newMet σ p1 p2 p3) := by
  have hR2 : RX ca h (fun k i => if k = 1 ∧ i = ix (σ 26 0) + 6 then e2 else if k = 2 ∧ i = ix (σ 26 0) + 6 then ca 4 else ρ k i) (gM μ (ix (σ 26 0) + 6) 0) (gC cap (ix (σ 26 0) + 6) 0) σ := by
    refine hR.out (fun k i => ?_) (fun k hk => if_neg (fun z => by omega)) (fun k hk => funext fun i => if_neg (fun z => hk z.1)) (fun k hk => if_neg (by omega))
    by_cases a : k = 1 ∧ i = ix (σ 26 0) + 6
    · exact Or.inr (by omega)
    · by_cases b : k = 2 ∧ i = ix (σ 26 0) + 6
      · exact Or.inr (by omega)
      · exact Or.inl ((if_neg a).trans (if_neg b))
  have o : ∀ k i, k ≠ 1 ∨ i ≠ ix (σ 26 0) + 6 → k ≠ 2 ∨ i ≠ ix (σ 26 0) + 6 → (if k = 1 ∧ i = ix (σ 26 0) + 6 then e2 else if k = 2 ∧ i = ix (σ 26 0) + 6 then ca 4 else ρ k i) = ρ k i := fun k i a b => (if_neg (by omega)).trans (if_neg (by omega))
  have hz := RX.addMet0 (h' := h') (e := e) (e2 := e2) (p1 := p1) (p2 := p2) (p3 := p3) hR2 hI (fun k => by
      unfold gC
      split
      · exact Nat.zero_le _
      · exact hcap k) he he2 hee (if_pos ⟨rfl, rfl⟩) ((if_neg (by omega)).trans (if_pos ⟨rfl, rfl⟩)) (if_pos ⟨rfl, rfl⟩) (if_pos rfl) ?_ h8
  · rw [o 0 0 (by omega) (by omega)] at hz
    exact hz
  · rw [o 8 _ (by omega) (by omega), o 1 4 (by omega) (by omega), o 2 4 (by omega) (by omega), show gC cap (ix (σ 26 0) + 6) 0 4 = cap 4 from if_neg (by omega), show gM μ (ix (σ 26 0) + 6) 0 0 4 = μ 0 4 from if_neg (by omega)]
    have hx : xD (fun k i => if k = 1 ∧ i = ix (σ 26 0) + 6 then e2 else if k = 2 ∧ i = ix (σ 26 0) + 6 then ca 4 else ρ k i) σ 4 = xD ρ σ 4 := by
      unfold xD
      funext i
      have : xE (fun k i => if k = 1 ∧ i = ix (σ 26 0) + 6 then e2 else if k = 2 ∧ i = ix (σ 26 0) + 6 then ca 4 else ρ k i) 4 i = xE ρ 4 i := o 11 i (by omega) (by omega)
      rw [this]
    rw [hx]
    exact hA
end
