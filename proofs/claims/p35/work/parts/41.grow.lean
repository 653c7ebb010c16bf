noncomputable section
/-- cells that come new, or at other addresses, beside the old ones -/
theorem RX.grow {ca : Nat → Nat} {h h' : fH} {ρ ρ' : Nat → Nat → Nat} {μ μ' : Nat → Nat → Int32} {cap cap' : Nat → Nat} {σ σ' : St} (hR : RX ca h ρ μ cap σ)
    (hdom : ∀ k i x, xC ca ρ' μ' cap' σ' k i = some x → (ρ' k i = ρ k i ∧ ∃ y, xC ca ρ μ cap σ k i = some y) ∨ h (ρ' k i) = none)
    (hfr : ∀ k i k' i' x x', xC ca ρ' μ' cap' σ' k i = some x → xC ca ρ' μ' cap' σ' k' i' = some x' → h (ρ' k i) = none → ρ' k i = ρ' k' i' → k = k' ∧ i = i')
    (hcell : ∀ k i x, xC ca ρ' μ' cap' σ' k i = some x → h' (ρ' k i) = some x)
    (hcap : ∀ k, k < 6 + ix (σ' 26 0) → xL σ' k ≤ cap' k ∧ cap' k < 1000 ∧ (cap' k = 0 → ρ' 2 k = ca 4)) : RX ca h' ρ' μ' cap' σ' := by
  refine ⟨hcell, fun k i k' i' x x' hx hx' e => ?_, hcap⟩
  rcases hdom k i x hx with ⟨e1, y, hy⟩ | e1
  · rcases hdom k' i' x' hx' with ⟨e2, y', hy'⟩ | e2
    · exact hR.2.1 k i k' i' y y' hy hy' (by rw [← e1, ← e2]; exact e)
    · obtain ⟨a, b⟩ := hfr k' i' k i x' x hx' hx e2 e.symm
      exact ⟨a.symm, b.symm⟩
  · exact hfr k i k' i' x x' hx hx' e1 e
/-- the elements of a list are objects that an Object[] takes -/
theorem cst_in {i : Nat} {w : Cond} (h : NWL[i]? = some w) : w ∈ NWL := List.mem_of_getElem? h
theorem RX.ok {ca : Nat → Nat} {h : fH} {ρ : Nat → Nat → Nat} {μ : Nat → Nat → Int32} {cap : Nat → Nat} {σ : St} (hR : RX ca h ρ μ cap σ) (hI : InvX σ) {q i y : Nat} (hq : q < 6 + ix (σ 26 0)) (hi : i < xL σ q) (hy : xD ρ σ q i = some y) : oK h y := by
  unfold xD at hy
  rw [if_pos hi] at hy
  cases hy
  match q with
  | 0 => exact ⟨10, _, _, hR.zone hi, rfl, cst_in (i := 19) rfl⟩
  | 1 => exact ⟨5, _, _, hR.place hi, rfl, cst_in (i := 20) rfl⟩
  | 2 => exact ⟨8, _, _, hR.village hi, rfl, cst_in (i := 24) rfl⟩
  | 3 => exact ⟨3, _, _, hR.lamp hi, rfl, cst_in (i := 25) rfl⟩
  | 4 => exact ⟨4, _, _, hR.meter hi, rfl, cst_in (i := 26) rfl⟩
  | 5 => exact ⟨7, _, _, hR.sat hi, rfl, cst_in (i := 27) rfl⟩
  | m + 6 =>
    have h1 : i < ix (σ 31 m) := hi
    exact ⟨6, _, _, hR.1 12 (10 * m + i) _ (if_pos (by have h2 := IX_reads hI m; rw [show (10 * m + i) / 10 = m by omega, show (10 * m + i) % 10 = i by omega]; exact ⟨by omega, h1⟩)), rfl, cst_in (i := 27) rfl⟩
end
