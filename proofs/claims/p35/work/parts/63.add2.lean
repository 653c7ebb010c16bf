noncomputable section
/-- a village more -/
def newVil (σ : St) (p1 p2 : Int32) : St := sC (sS (sS σ 9 (ix (σ 8 0)) p1) 10 (ix (σ 8 0)) p2) 8 (σ 8 0 + 1)
theorem cntO_0 {f : Nat → Int32} {v : Int32} : ∀ n, (∀ k, k < n → f k ≠ v) → cntO f v n = 0 := by
  intro n
  induction n with
  | zero => intro _; rfl
  | succ n ih =>
    intro h
    show cntO f v n + (if f n = v then 1 else 0) = 0
    rw [ih (fun k hk => h k (by omega)), if_neg (h n (by omega))]
    rfl
theorem RX.addVil {ca : Nat → Nat} {h h' : fH} {ρ : Nat → Nat → Nat} {μ : Nat → Nat → Int32} {cap : Nat → Nat} {σ : St} {e : Nat} {p1 p2 : Int32} (hR : RX ca h ρ μ cap σ) (hI : InvX σ) (hcap : ∀ k, cap k ≤ 100) (he : h e = none)
    (hA : rAdd ca (fU h e (.inr (8, [.int p1, .int p2, .int 0, .int 0, .int 0]))) (ρ 1 2) (ρ 2 2) (cap 2) (ix (σ 8 0)) e (μ 0 2 + 1) (xD ρ σ 2) h') : RA ca h' (ρ 0 0) (newVil σ p1 p2) := by
  have hv := IX_villages hI
  have h8 : newVil σ p1 p2 8 0 = σ 8 0 + 1 := sC_same ..
  have e8 : ix (newVil σ p1 p2 8 0) = ix (σ 8 0) + 1 := by rw [h8]; exact cnt1 (N := 5) (hI.1 8 0) (by decide)
  have cc : ∀ k, k ≠ 8 → k ≠ 9 → k ≠ 10 → newVil σ p1 p2 k = σ k := fun k a b c => by
    unfold newVil
    rw [sC_col a, sS_col c, sS_col b]
  have c9 : ∀ i, i ≠ ix (σ 8 0) → newVil σ p1 p2 9 i = σ 9 i := fun i hi => by
    unfold newVil
    rw [sC_col (by decide), sS_col (by decide), sS_ne (fun _ => hi)]
  have c10 : ∀ i, i ≠ ix (σ 8 0) → newVil σ p1 p2 10 i = σ 10 i := fun i hi => by
    unfold newVil
    rw [sC_col (by decide), sS_ne (fun _ => hi), sS_col (by decide)]
  have d9 : newVil σ p1 p2 9 (ix (σ 8 0)) = p1 := by
    unfold newVil
    rw [sC_col (by decide), sS_col (by decide), sS_same]
  have d10 : newVil σ p1 p2 10 (ix (σ 8 0)) = p2 := by
    unfold newVil
    rw [sC_col (by decide), sS_same]
  generalize newVil σ p1 p2 = σ' at *
  have hL : ∀ k, xL σ' k = if k = 2 then (ix (σ 8 0)) + 1 else xL σ k := fun k => by
    match k with
    | 0 => rfl
    | 1 => rfl
    | 2 => exact e8
    | 3 => show ix (σ' 13 0) = ix (σ 13 0); rw [cc 13 (by decide) (by decide) (by decide)]
    | 4 => show ix (σ' 26 0) = ix (σ 26 0); rw [cc 26 (by decide) (by decide) (by decide)]
    | 5 => show ix (σ' 37 0) = ix (σ 37 0); rw [cc 37 (by decide) (by decide) (by decide)]
    | m + 6 => rw [if_neg (by omega)]; show ix (σ' 31 m) = ix (σ 31 m); rw [cc 31 (by decide) (by decide) (by decide)]
  refine RX.addP (q := 2) (kd := 9) (nn := ix (σ 8 0)) (n := ix (σ 8 0)) hR hcap (by omega) rfl he hA ⟨by decide, by decide⟩ (Or.inl (by decide)) ?_ ?_ ?_ ?_ hL (by rw [cc 26 (by decide) (by decide) (by decide)])
  · intro d c
    show (if ix (σ 8 0) < ix (σ' 8 0) then some (Sum.inr (8, xVillage σ' (ix (σ 8 0)))) else none) = _
    rw [if_pos (by omega)]
    unfold xVillage
    obtain ⟨z11, z12⟩ := hI.2.2.2.2.1 (ix (σ 8 0)) (Nat.le_refl _)
    rw [d9, d10, cc 11 (by decide) (by decide) (by decide), cc 12 (by decide) (by decide) (by decide), cc 13 (by decide) (by decide) (by decide), cc 14 (by decide) (by decide) (by decide), z11, z12, cntO_0 _ (fun k hk z => by
      have := IX_own hI hk
      rw [z, ixn (by omega)] at this
      omega)]
  · intro d c k i a1 a2 a3
    have g : ∀ k i, k ≠ 9 → k ≠ 2 → gR ρ 9 (ix (σ 8 0)) e 2 d k i = ρ k i := fun k i z1 z2 => gR_o (fun z => z1 z.1) (fun z => z2 z.1)
    have g2 : ∀ i, i ≠ 2 → gR ρ 9 (ix (σ 8 0)) e 2 d 2 i = ρ 2 i := fun i z => gR_o (fun z => absurd z.1 (by decide)) (fun w => z w.2)
    have gk : ∀ i, i ≠ (ix (σ 8 0)) → gR ρ 9 (ix (σ 8 0)) e 2 d 9 i = ρ 9 i := fun i z => gR_o (fun w => z w.2) (fun z => absurd z.1 (by decide))
    have m0 : ∀ i, i ≠ 2 → gM μ 2 (μ 0 2 + 1) 0 i = μ 0 i := fun i z => if_neg (fun w => z w.2)
    have mk : ∀ k, k ≠ 0 → gM μ 2 (μ 0 2 + 1) k = μ k := fun k z => funext fun i => if_neg (fun w => z w.1)
    have cq : ∀ i, i ≠ 2 → gC cap 2 c i = cap i := fun i z => if_neg z
    have hD : ∀ k, k ≠ 2 → xD (gR ρ 9 (ix (σ 8 0)) e 2 d) σ' k = xD ρ σ k := fun k z => by
      unfold xD
      funext i
      rw [hL, if_neg z]
      have : xE (gR ρ 9 (ix (σ 8 0)) e 2 d) k i = xE ρ k i := by
        match k with
        | 0 => exact g 6 i (by decide) (by decide)
        | 1 => exact g 8 i (by decide) (by decide)
        | 2 => exact absurd rfl z
        | 3 => exact g 10 i (by decide) (by decide)
        | 4 => exact g 11 i (by decide) (by decide)
        | 5 => exact g 13 i (by decide) (by decide)
        | m + 6 => exact g 12 (10 * m + i) (by decide) (by decide)
      rw [this]
    have hF : ∀ z, xF σ' z = xF σ z := fun z => by
      unfold xF
      rw [cc 7 (by decide) (by decide) (by decide)]
    match k with
    | 1 =>
      have hi : i ≠ 2 := fun z => a2 ⟨rfl, z⟩
      show (if i < 6 + ix (σ' 26 0) then some (Sum.inr (0, xList (gR ρ 9 (ix (σ 8 0)) e 2 d) (gM μ 2 (μ 0 2 + 1)) σ' i)) else none) = (if i < 6 + ix (σ 26 0) then some (Sum.inr (0, xList ρ μ σ i)) else none)
      unfold xList
      rw [g2 i hi, m0 i hi, hL, if_neg hi, cc 26 (by decide) (by decide) (by decide)]
    | 2 =>
      have hi : i ≠ 2 := fun z => a3 ⟨rfl, z⟩
      show (if i < 6 + ix (σ' 26 0) ∧ 0 < gC cap 2 c i then some (Sum.inl (ca 2, gC cap 2 c i, fRefs (xD (gR ρ 9 (ix (σ 8 0)) e 2 d) σ' i))) else none) = (if i < 6 + ix (σ 26 0) ∧ 0 < cap i then some (Sum.inl (ca 2, cap i, fRefs (xD ρ σ i))) else none)
      rw [cq i hi, hD i hi, cc 26 (by decide) (by decide) (by decide)]
    | 9 =>
      have hi : i ≠ ix (σ 8 0) := fun z => a1 ⟨rfl, z⟩
      show (if i < ix (σ' 8 0) then some (Sum.inr (8, xVillage σ' i)) else none) = (if i < ix (σ 8 0) then some (Sum.inr (8, xVillage σ i)) else none)
      unfold xVillage
      rw [c9 i hi, c10 i hi, cc 11 (by decide) (by decide) (by decide), cc 12 (by decide) (by decide) (by decide), cc 13 (by decide) (by decide) (by decide), cc 14 (by decide) (by decide) (by decide)]
      by_cases v : i < ix (σ 8 0)
      · rw [if_pos v, if_pos (by omega)]
      · rw [if_neg v, if_neg (by omega)]
    | 10 =>
      show (if i < ix (σ' 13 0) then some (Sum.inr (3, xLamp (gR ρ 9 (ix (σ 8 0)) e 2 d) σ' i)) else none) = (if i < ix (σ 13 0) then some (Sum.inr (3, xLamp ρ σ i)) else none)
      rw [cc 13 (by decide) (by decide) (by decide)]
      by_cases v : i < ix (σ 13 0)
      · rw [if_pos v, if_pos v]
        unfold xLamp
        have ho := IX_own hI v
        simp (disch := first | decide | omega) only [g, cc]
        rw [gk _ (by omega)]
      · rw [if_neg v, if_neg v]
    | 0 | 3 | 4 | 5 | 6 | 7 | 8 | 11 | 12 | 13 | 14 | 15 =>
      unfold xC
      simp (disch := first | decide | omega) only [xRoot, xLabel, xWalk, xChoice, xZone, hF, xPlace, xVillage, xLamp, xMeter, xReading, xSat, g, mk, cc]
    | k + 16 => rw [xC_hi (by omega), xC_hi (by omega)]
  · intro d c
    show (if 2 < 6 + ix (σ' 26 0) then some (Sum.inr (0, xList (gR ρ 9 (ix (σ 8 0)) e 2 d) (gM μ 2 (μ 0 2 + 1)) σ' 2)) else none) = _
    rw [if_pos (by omega)]
    unfold xList
    rw [hL, if_pos rfl, show gM μ 2 (μ 0 2 + 1) 0 2 = μ 0 2 + 1 from if_pos ⟨rfl, rfl⟩, show gR ρ 9 (ix (σ 8 0)) e 2 d 2 2 = d from (if_neg (fun z => absurd z.1 (by decide))).trans (if_pos ⟨rfl, rfl⟩)]
  · intro d c hc
    show (if 2 < 6 + ix (σ' 26 0) ∧ 0 < gC cap 2 c 2 then some (Sum.inl (ca 2, gC cap 2 c 2, fRefs (xD (gR ρ 9 (ix (σ 8 0)) e 2 d) σ' 2))) else none) = _
    have e1 : gC cap 2 c 2 = c := if_pos rfl
    rw [e1, if_pos ⟨by omega, hc⟩]
    have e2 : xD (gR ρ 9 (ix (σ 8 0)) e 2 d) σ' 2 = va_up (xD ρ σ 2) (ix (σ 8 0)) (some e) := by
      funext i
      unfold xD va_up
      rw [hL, if_pos rfl]
      show _ = (if i = (ix (σ 8 0)) then some e else if i < xL σ 2 then some (xE ρ 2 i) else none)
      by_cases w : i = (ix (σ 8 0))
      · subst w
        rw [if_pos (by omega), if_pos rfl]
        exact congrArg some (if_pos ⟨rfl, rfl⟩)
      · rw [if_neg w]
        by_cases v : i < (ix (σ 8 0))
        · rw [if_pos (by omega), if_pos (show i < xL σ 2 from v)]
          exact congrArg some (gR_o (fun z => w z.2) (fun z => absurd z.1 (by decide)))
        · rw [if_neg (by omega), if_neg (show ¬ i < xL σ 2 from v)]
    rw [e2]
end
