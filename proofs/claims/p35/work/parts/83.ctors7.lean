noncomputable section
/-- how the valley begins -/
def isInit (σ : St) : Prop := (∀ k, k < 40 → k ≠ 4 → k ≠ 5 → σ k = fun _ => 0) ∧ (∀ z, z < 4 → σ 4 z = 24 ∧ σ 5 z = 2)
theorem cntF_0 {f : Nat → Int32} : ∀ n, (∀ k, k < n → f k = 0) → cntF f n = 0 := by
  intro n
  induction n with
  | zero => intro _; rfl
  | succ n ih =>
    intro h
    show cntF f n + (if f n = 0 then 0 else 1) = 0
    rw [ih (fun k hk => h k (by omega)), if_pos (h n (by omega))]
    rfl
theorem CX.done {ca : Nat → Nat} {h : fH} {ρ : Nat → Nat → Nat} {μ : Nat → Nat → Int32} {cap : Nat → Nat} {r : Nat} (hC : CX ca h ρ μ cap 4 64 r) {σ : St} (hs : isInit σ) : RA ca h r σ := by
  obtain ⟨hG, hc, hr, hcap⟩ := hC
  obtain ⟨s0, s45⟩ := hs
  have z : ∀ k i, k < 40 → k ≠ 4 → k ≠ 5 → σ k i = 0 := fun k i a b c => by rw [s0 k a b c]
  have hx0 : ix (0 : Int32) = 0 := rfl
  have hL : ∀ k, k < 6 → xL σ k = cL 4 64 k := fun k hk => by
    match k with
    | 0 | 1 => rfl
    | 2 => show ix (σ 8 0) = 0; rw [z 8 0 (by decide) (by decide) (by decide)]; rfl
    | 3 => show ix (σ 13 0) = 0; rw [z 13 0 (by decide) (by decide) (by decide)]; rfl
    | 4 => show ix (σ 26 0) = 0; rw [z 26 0 (by decide) (by decide) (by decide)]; rfl
    | 5 => show ix (σ 37 0) = 0; rw [z 37 0 (by decide) (by decide) (by decide)]; rfl
    | k + 6 => omega
  have z26 : ix (σ 26 0) = 0 := hL 4 (by decide)
  have hsub : ∀ k i x, xC ca ρ (fun k => if k = 0 then μ 0 else fun _ => 0) cap σ k i = some x → cC ca ρ μ cap 4 64 k i = some x := by
    intro k i x hx
    match k with
    | 0 =>
      rw [← hx]
      show _ = (if i = 0 then some (Sum.inr (11, xRoot ρ σ)) else none)
      unfold xRoot
      rw [z 0 0 (by decide) (by decide) (by decide), z 1 0 (by decide) (by decide) (by decide)]
      rfl
    | 1 =>
      have hx' : (if i < 6 + ix (σ 26 0) then some (Sum.inr (0, xList ρ (fun k => if k = 0 then μ 0 else fun _ => 0) σ i)) else none) = some x := hx
      rw [z26] at hx'
      by_cases v : i < 6
      · rw [if_pos v] at hx'
        rw [← hx']
        unfold xList
        rw [hL i v]
        exact if_pos v
      · rw [if_neg v] at hx'
        cases hx'
    | 2 =>
      have hx' : (if i < 6 + ix (σ 26 0) ∧ 0 < cap i then some (Sum.inl (ca 2, cap i, fRefs (xD ρ σ i))) else none) = some x := hx
      rw [z26] at hx'
      by_cases v : i < 6 ∧ 0 < cap i
      · rw [if_pos v] at hx'
        rw [← hx']
        have : xD ρ σ i = cD ρ 4 64 i := by
          unfold xD cD
          rw [hL i v.1]
        rw [this]
        exact if_pos v
      · rw [if_neg v] at hx'
        cases hx'
    | 3 =>
      rw [← hx]
      show _ = (if i = 0 then some (Sum.inr (2, xLabel σ)) else none)
      unfold xLabel
      rw [z 34 0 (by decide) (by decide) (by decide), z 35 0 (by decide) (by decide) (by decide), z 36 0 (by decide) (by decide) (by decide)]
      rfl
    | 4 => exact hx
    | 5 => exact hx
    | 6 =>
      have hx' : (if i < 4 then some (Sum.inr (10, xZone ρ σ i)) else none) = some x := hx
      by_cases v : i < 4
      · rw [if_pos v] at hx'
        rw [← hx']
        unfold xZone
        rw [(s45 i v).1, (s45 i v).2, z 6 i (by decide) (by decide) (by decide), cntF_0 n1000 (fun k _ => z 7 _ (by decide) (by decide) (by decide))]
        exact if_pos v
      · rw [if_neg v] at hx'
        cases hx'
    | 7 =>
      rw [← hx]
      show (if i < 4 then some (zF ca) else none) = (if i < 4 then some (Sum.inl (ca 1, 1000, Sum.inl (xF σ i))) else none)
      have : xF σ i = fun _ => 0 := by
        funext q
        unfold xF
        rw [z 7 _ (by decide) (by decide) (by decide), ite_self]
      rw [this]
    | 8 =>
      rw [← hx]
      show (if i < 64 then some (Sum.inr (5, [Value.int (nI (i % 8)), Value.int (nI (i / 8)), Value.ref (ρ 6 0), Value.int 0])) else none) = (if i < 64 then some (Sum.inr (5, xPlace ρ σ i)) else none)
      unfold xPlace
      rw [z 3 i (by decide) (by decide) (by decide), z 2 i (by decide) (by decide) (by decide)]
      rfl
    | 9 =>
      have hx' : (if i < ix (σ 8 0) then some (Sum.inr (8, xVillage σ i)) else none) = some x := hx
      rw [z 8 0 (by decide) (by decide) (by decide), hx0, if_neg (Nat.not_lt_zero i)] at hx'
      cases hx'
    | 10 =>
      have hx' : (if i < ix (σ 13 0) then some (Sum.inr (3, xLamp ρ σ i)) else none) = some x := hx
      rw [z 13 0 (by decide) (by decide) (by decide), hx0, if_neg (Nat.not_lt_zero i)] at hx'
      cases hx'
    | 11 =>
      have hx' : (if i < ix (σ 26 0) then some (Sum.inr (4, xMeter ρ σ i)) else none) = some x := hx
      rw [z26, if_neg (Nat.not_lt_zero i)] at hx'
      cases hx'
    | 12 =>
      have hx' : (if i / 10 < ix (σ 26 0) ∧ i % 10 < ix (σ 31 (i / 10)) then some (Sum.inr (6, xReading σ i)) else none) = some x := hx
      rw [z26, if_neg (fun w => Nat.not_lt_zero _ w.1)] at hx'
      cases hx'
    | 13 =>
      have hx' : (if i < ix (σ 37 0) then some (Sum.inr (7, xSat σ i)) else none) = some x := hx
      rw [z 37 0 (by decide) (by decide) (by decide), hx0, if_neg (Nat.not_lt_zero i)] at hx'
      cases hx'
    | 14 =>
      rw [← hx]
      show (if i < 3 then some (zI ca 64) else none) = (if i < 3 then some (Sum.inl (ca 0, 64, Sum.inl (if 10 + i = 0 then μ 0 else fun _ => 0))) else none)
      rw [if_neg (show ¬ 10 + i = 0 by omega)]
    | 15 =>
      rw [← hx]
      show (if i < 2 then some (zI ca 10) else none) = (if i < 2 then some (Sum.inl (ca 0, 10, Sum.inl (if 20 + i = 0 then μ 0 else fun _ => 0))) else none)
      rw [if_neg (show ¬ 20 + i = 0 by omega)]
    | k + 16 =>
      rw [xC_hi (by omega)] at hx
      cases hx
  have hg := hG.sub hsub
  refine ⟨ρ, _, cap, ⟨hg.1, hg.2, fun k hk => ?_⟩, hr, hcap⟩
  rw [z26] at hk
  obtain ⟨b1, b2, b3⟩ := hc k hk
  rw [hL k hk]
  exact ⟨b1, by omega, b3⟩
def σz : St := fun _ _ => 0
def σI : St := sS (sS (sS (sS (sS (sS (sS (sS σz 4 (ix 0) 24) 5 (ix 0) 2) 4 (ix 1) 24) 5 (ix 1) 2) 4 (ix 2) 24) 5 (ix 2) 2) 4 (ix 3) 24) 5 (ix 3) 2
end
