noncomputable section
/-- an old cell, after an add to a list -/
theorem RX.keepA {ca : Nat → Nat} {h h' : fH} {ρ : Nat → Nat → Nat} {μ : Nat → Nat → Int32} {cap : Nat → Nat} {σ : St} {q n e k i : Nat} {mc : Int32} {f : Nat → Option Nat} {cell x : va_E} (hR : RX ca h ρ μ cap σ) (hq : q < 6 + ix (σ 26 0)) (he : h e = none)
    (hA : rAdd ca (fU h e cell) (ρ 1 q) (ρ 2 q) (cap q) n e mc f h') (hx : xC ca ρ μ cap σ k i = some x) (h1 : ¬ (k = 1 ∧ i = q)) (h2 : ¬ (k = 2 ∧ i = q)) : h' (ρ k i) = some x := by
  obtain ⟨d, c, hd, _, _, e1⟩ := hA
  have hh := hR.1 k i x hx
  have n1 : ρ k i ≠ ρ 1 q := fun w => h1 (hR.2.1 k i 1 q _ _ hx (if_pos hq) w)
  have ne : ρ k i ≠ e := fun w => by rw [w, he] at hh; cases hh
  have nd : ρ k i ≠ d := by
    rcases hd with ⟨z1, _, z3⟩ | z
    · rw [z1]
      exact fun w => h2 (hR.2.1 k i 2 q _ _ hx (if_pos ⟨hq, z3⟩) w)
    · intro w
      rw [← w, fU_ne ne, hh] at z
      cases z
  rw [e1, fU_ne n1, fU_ne nd, fU_ne ne, hh]
/-- a lamp more -/
def newLamp (σ : St) (p1 p2 p3 p4 p5 : Int32) : St := sC (sS (sS (sS (sS (sS (sS (sS (sS σ 14 (ix (σ 13 0)) p1) 15 (ix (σ 13 0)) p2) 16 (ix (σ 13 0)) p3) 17 (ix (σ 13 0)) p4) 18 (ix (σ 13 0)) p5) 20 (ix (σ 13 0)) 18) 21 (ix (σ 13 0)) 6) 25 (ix (σ 13 0)) (-100000)) 13 (σ 13 0 + 1)
theorem newLamp_c {σ : St} {p1 p2 p3 p4 p5 : Int32} {k : Nat} (h : k < 13 ∨ 25 < k) : newLamp σ p1 p2 p3 p4 p5 k = σ k := by
  unfold newLamp
  rw [sC_col (by omega), sS_col (by omega), sS_col (by omega), sS_col (by omega), sS_col (by omega), sS_col (by omega), sS_col (by omega), sS_col (by omega), sS_col (by omega)]
theorem newLamp_i {σ : St} {p1 p2 p3 p4 p5 : Int32} {k i : Nat} (h : k ≠ 13) (hi : i ≠ ix (σ 13 0)) : newLamp σ p1 p2 p3 p4 p5 k i = σ k i := by
  unfold newLamp
  rw [sC_col h, sS_ne (fun _ => hi), sS_ne (fun _ => hi), sS_ne (fun _ => hi), sS_ne (fun _ => hi), sS_ne (fun _ => hi), sS_ne (fun _ => hi), sS_ne (fun _ => hi), sS_ne (fun _ => hi)]
theorem newLamp_k {σ : St} {p1 p2 p3 p4 p5 : Int32} {k : Nat} (h : k = 19 ∨ k = 22 ∨ k = 23 ∨ k = 24) : newLamp σ p1 p2 p3 p4 p5 k = σ k := by
  unfold newLamp
  rw [sC_col (by omega), sS_col (by omega), sS_col (by omega), sS_col (by omega), sS_col (by omega), sS_col (by omega), sS_col (by omega), sS_col (by omega), sS_col (by omega)]
theorem newLamp_14 {σ : St} {p1 p2 p3 p4 p5 : Int32} : newLamp σ p1 p2 p3 p4 p5 14 (ix (σ 13 0)) = p1 := by
  unfold newLamp
  rw [sC_col (by decide), sS_col (by decide), sS_col (by decide), sS_col (by decide), sS_col (by decide), sS_col (by decide), sS_col (by decide), sS_col (by decide), sS_same]
theorem newLamp_15 {σ : St} {p1 p2 p3 p4 p5 : Int32} : newLamp σ p1 p2 p3 p4 p5 15 (ix (σ 13 0)) = p2 := by
  unfold newLamp
  rw [sC_col (by decide), sS_col (by decide), sS_col (by decide), sS_col (by decide), sS_col (by decide), sS_col (by decide), sS_col (by decide), sS_same]
theorem newLamp_16 {σ : St} {p1 p2 p3 p4 p5 : Int32} : newLamp σ p1 p2 p3 p4 p5 16 (ix (σ 13 0)) = p3 := by
  unfold newLamp
  rw [sC_col (by decide), sS_col (by decide), sS_col (by decide), sS_col (by decide), sS_col (by decide), sS_col (by decide), sS_same]
theorem newLamp_17 {σ : St} {p1 p2 p3 p4 p5 : Int32} : newLamp σ p1 p2 p3 p4 p5 17 (ix (σ 13 0)) = p4 := by
  unfold newLamp
  rw [sC_col (by decide), sS_col (by decide), sS_col (by decide), sS_col (by decide), sS_col (by decide), sS_same]
theorem newLamp_18 {σ : St} {p1 p2 p3 p4 p5 : Int32} : newLamp σ p1 p2 p3 p4 p5 18 (ix (σ 13 0)) = p5 := by
  unfold newLamp
  rw [sC_col (by decide), sS_col (by decide), sS_col (by decide), sS_col (by decide), sS_same]
theorem newLamp_20 {σ : St} {p1 p2 p3 p4 p5 : Int32} : newLamp σ p1 p2 p3 p4 p5 20 (ix (σ 13 0)) = 18 := by
  unfold newLamp
  rw [sC_col (by decide), sS_col (by decide), sS_col (by decide), sS_same]
theorem newLamp_21 {σ : St} {p1 p2 p3 p4 p5 : Int32} : newLamp σ p1 p2 p3 p4 p5 21 (ix (σ 13 0)) = 6 := by
  unfold newLamp
  rw [sC_col (by decide), sS_col (by decide), sS_same]
theorem newLamp_25 {σ : St} {p1 p2 p3 p4 p5 : Int32} : newLamp σ p1 p2 p3 p4 p5 25 (ix (σ 13 0)) = (-100000) := by
  unfold newLamp
  rw [sC_col (by decide), sS_same]
theorem newLamp_13 {σ : St} {p1 p2 p3 p4 p5 : Int32} : newLamp σ p1 p2 p3 p4 p5 13 0 = σ 13 0 + 1 := sC_same ..
theorem cntO_cong {f g : Nat → Int32} {v : Int32} : ∀ n, (∀ k, k < n → f k = g k) → cntO f v n = cntO g v n := by
  intro n
  induction n with
  | zero => intro _; rfl
  | succ n ih =>
    intro h
    show cntO f v n + (if f n = v then 1 else 0) = cntO g v n + (if g n = v then 1 else 0)
    rw [ih (fun k hk => h k (by omega)), h n (by omega)]
theorem RX.addLamp {ca : Nat → Nat} {h h' : fH} {ρ : Nat → Nat → Nat} {μ : Nat → Nat → Int32} {cap : Nat → Nat} {σ : St} {e : Nat} {p1 p2 p3 p4 p5 : Int32} (hR : RX ca h ρ μ cap σ) (hI : InvX σ) (hcap : ∀ k, cap k ≤ 100) (h40 : ix (σ 13 0) < 40) (h1 : vp_in p1 (ix (σ 8 0))) (he : h e = none)
    (hA : rAdd ca (fU h e (.inr (3, [.ref (ρ 9 (ix p1)), .ref (ρ 8 (ix p2)), .int p3, .int p4, .int p5, .int 0, .int 18, .int 6, .int 0, .int 0, .int 0, .int 0]))) (ρ 1 3) (ρ 2 3) (cap 3) (ix (σ 13 0)) e (μ 0 3 + 1) (xD ρ σ 3) h') : RA ca (fU h' (ρ 9 (ix p1)) (.inr (8, [.int (σ 9 (ix p1)), .int (σ 10 (ix p1)), .int (σ 11 (ix p1)), .int (cntO (σ 14) (nI (ix p1)) (ix (σ 13 0)) + 1), .int (σ 12 (ix p1))]))) (ρ 0 0) (newLamp σ p1 p2 p3 p4 p5) := by
  have hv := IX_villages hI
  have hv1 := vp_lt h1
  have ep := vp_nI' h1 (by omega)
  have e13 : ix (newLamp σ p1 p2 p3 p4 p5 13 0) = ix (σ 13 0) + 1 := by rw [newLamp_13]; exact cnt1 (N := 40) (hI.1 13 0) (by decide)
  have cc : ∀ k, k < 13 ∨ 25 < k → newLamp σ p1 p2 p3 p4 p5 k = σ k := fun k => newLamp_c
  have cN : ∀ k i, k ≠ 13 → i ≠ ix (σ 13 0) → newLamp σ p1 p2 p3 p4 p5 k i = σ k i := fun k i => newLamp_i
  have ck : ∀ k, k = 19 ∨ k = 22 ∨ k = 23 ∨ k = 24 → newLamp σ p1 p2 p3 p4 p5 k = σ k := fun k => newLamp_k
  have d14 : newLamp σ p1 p2 p3 p4 p5 14 (ix (σ 13 0)) = p1 := newLamp_14
  have d15 : newLamp σ p1 p2 p3 p4 p5 15 (ix (σ 13 0)) = p2 := newLamp_15
  have d16 : newLamp σ p1 p2 p3 p4 p5 16 (ix (σ 13 0)) = p3 := newLamp_16
  have d17 : newLamp σ p1 p2 p3 p4 p5 17 (ix (σ 13 0)) = p4 := newLamp_17
  have d18 : newLamp σ p1 p2 p3 p4 p5 18 (ix (σ 13 0)) = p5 := newLamp_18
  have d20 : newLamp σ p1 p2 p3 p4 p5 20 (ix (σ 13 0)) = 18 := newLamp_20
  have d21 : newLamp σ p1 p2 p3 p4 p5 21 (ix (σ 13 0)) = 6 := newLamp_21
  have d25 : newLamp σ p1 p2 p3 p4 p5 25 (ix (σ 13 0)) = (-100000) := newLamp_25
  generalize newLamp σ p1 p2 p3 p4 p5 = σ' at *
  have hL : ∀ k, xL σ' k = if k = 3 then (ix (σ 13 0)) + 1 else xL σ k := fun k => by
    match k with
    | 0 => rfl
    | 1 => rfl
    | 2 => show ix (σ' 8 0) = ix (σ 8 0); rw [cc 8 (by decide)]
    | 3 => exact e13
    | 4 => show ix (σ' 26 0) = ix (σ 26 0); rw [cc 26 (by decide)]
    | 5 => show ix (σ' 37 0) = ix (σ 37 0); rw [cc 37 (by decide)]
    | m + 6 => rw [if_neg (by omega)]; show ix (σ' 31 m) = ix (σ 31 m); rw [cc 31 (by decide)]
  have hcnt : ∀ w, cntO (σ' 14) w (ix (σ' 13 0)) = cntO (σ 14) w (ix (σ 13 0)) + (if p1 = w then 1 else 0) := fun w => by
    rw [e13]
    show cntO (σ' 14) w (ix (σ 13 0)) + (if σ' 14 (ix (σ 13 0)) = w then 1 else 0) = _
    rw [d14, cntO_cong (g := σ 14) _ (fun k hk => cN 14 k (by decide) (by omega))]
  obtain ⟨d, c, hd, hnc, hc100, e1⟩ := hA
  have hfin := RX.addG (σ' := σ') (q := 3) (kd := 10) (nn := ix (σ 13 0)) (n := ix (σ 13 0)) (kx := 9) (jx := ix p1) (cx := .inr (8, [.int (σ 9 (ix p1)), .int (σ 10 (ix p1)), .int (σ 11 (ix p1)), .int (cntO (σ 14) (nI (ix p1)) (ix (σ 13 0)) + 1), .int (σ 12 (ix p1))])) hR hcap (by omega) rfl he hd hnc hc100 e1 ⟨by decide, by decide⟩ (Or.inl (by decide)) (if_pos hv1) ⟨fun z => absurd z.1 (by decide), fun z => absurd z.1 (by decide)⟩ ?_ ?_ ?_ ?_ ?_ hL (by rw [cc 26 (by decide)])
  · obtain ⟨ρ', μ', cap', z1, z2, z3⟩ := hfin
    exact ⟨ρ', μ', cap', z1, z2, z3⟩
  · show (if ix (σ 13 0) < ix (σ' 13 0) then some (Sum.inr (3, xLamp (gR ρ 10 (ix (σ 13 0)) e 3 d) σ' (ix (σ 13 0)))) else none) = _
    rw [if_pos (by omega)]
    unfold xLamp
    obtain ⟨z19, z22, z23, z24⟩ := hI.2.2.2.1 (ix (σ 13 0)) (Nat.le_refl _)
    rw [d14, d15, d16, d17, d18, d20, d21, d25, ck 19 (by omega), ck 22 (by omega), ck 23 (by omega), ck 24 (by omega), z19, z22, z23, z24, gR_o (by omega) (by omega), gR_o (by omega) (by omega)]
    rfl
  · intro k i a1 a2 a3 a4
    have g : ∀ k i, k ≠ 10 → k ≠ 2 → gR ρ 10 (ix (σ 13 0)) e 3 d k i = ρ k i := fun k i z1 z2 => gR_o (fun z => z1 z.1) (fun z => z2 z.1)
    have g2 : ∀ i, i ≠ 3 → gR ρ 10 (ix (σ 13 0)) e 3 d 2 i = ρ 2 i := fun i z => gR_o (fun z => absurd z.1 (by decide)) (fun w => z w.2)
    have gk : ∀ i, i ≠ (ix (σ 13 0)) → gR ρ 10 (ix (σ 13 0)) e 3 d 10 i = ρ 10 i := fun i z => gR_o (fun w => z w.2) (fun z => absurd z.1 (by decide))
    have m0 : ∀ i, i ≠ 3 → gM μ 3 (μ 0 3 + 1) 0 i = μ 0 i := fun i z => if_neg (fun w => z w.2)
    have mk : ∀ k, k ≠ 0 → gM μ 3 (μ 0 3 + 1) k = μ k := fun k z => funext fun i => if_neg (fun w => z w.1)
    have cq : ∀ i, i ≠ 3 → gC cap 3 c i = cap i := fun i z => if_neg z
    have hD : ∀ k, k ≠ 3 → xD (gR ρ 10 (ix (σ 13 0)) e 3 d) σ' k = xD ρ σ k := fun k z => by
      unfold xD
      funext i
      rw [hL, if_neg z]
      have : xE (gR ρ 10 (ix (σ 13 0)) e 3 d) k i = xE ρ k i := by
        match k with
        | 0 => exact g 6 i (by decide) (by decide)
        | 1 => exact g 8 i (by decide) (by decide)
        | 2 => exact g 9 i (by decide) (by decide)
        | 3 => exact absurd rfl z
        | 4 => exact g 11 i (by decide) (by decide)
        | 5 => exact g 13 i (by decide) (by decide)
        | m + 6 => exact g 12 (10 * m + i) (by decide) (by decide)
      rw [this]
    have hF : ∀ z, xF σ' z = xF σ z := fun z => by
      unfold xF
      rw [cc 7 (by decide)]
    match k with
    | 1 =>
      have hi : i ≠ 3 := fun z => a2 ⟨rfl, z⟩
      show (if i < 6 + ix (σ' 26 0) then some (Sum.inr (0, xList (gR ρ 10 (ix (σ 13 0)) e 3 d) (gM μ 3 (μ 0 3 + 1)) σ' i)) else none) = (if i < 6 + ix (σ 26 0) then some (Sum.inr (0, xList ρ μ σ i)) else none)
      unfold xList
      rw [g2 i hi, m0 i hi, hL, if_neg hi, cc 26 (by decide)]
    | 2 =>
      have hi : i ≠ 3 := fun z => a3 ⟨rfl, z⟩
      show (if i < 6 + ix (σ' 26 0) ∧ 0 < gC cap 3 c i then some (Sum.inl (ca 2, gC cap 3 c i, fRefs (xD (gR ρ 10 (ix (σ 13 0)) e 3 d) σ' i))) else none) = (if i < 6 + ix (σ 26 0) ∧ 0 < cap i then some (Sum.inl (ca 2, cap i, fRefs (xD ρ σ i))) else none)
      rw [cq i hi, hD i hi, cc 26 (by decide)]
    | 10 =>
      have hi : i ≠ ix (σ 13 0) := fun z => a1 ⟨rfl, z⟩
      show (if i < ix (σ' 13 0) then some (Sum.inr (3, xLamp (gR ρ 10 (ix (σ 13 0)) e 3 d) σ' i)) else none) = (if i < ix (σ 13 0) then some (Sum.inr (3, xLamp ρ σ i)) else none)
      unfold xLamp
      simp (disch := first | decide | omega) only [g, cN _ i _ hi]
      by_cases v : i < ix (σ 13 0)
      · rw [if_pos v, if_pos (by omega)]
      · rw [if_neg v, if_neg (by omega)]
    | 9 =>
      have hi : i ≠ ix p1 := fun z => a4 ⟨rfl, z⟩
      show (if i < ix (σ' 8 0) then some (Sum.inr (8, xVillage σ' i)) else none) = (if i < ix (σ 8 0) then some (Sum.inr (8, xVillage σ i)) else none)
      unfold xVillage
      rw [cc 8 (by decide), cc 9 (by decide), cc 10 (by decide), cc 11 (by decide), cc 12 (by decide), hcnt]
      by_cases v : i < ix (σ 8 0)
      · rw [if_pos v, if_pos v, if_neg (fun z => hi (by rw [z, ixn (by omega)])), Int32.add_zero]
      · rw [if_neg v, if_neg v]
    | 0 | 3 | 4 | 5 | 6 | 7 | 8 | 11 | 12 | 13 | 14 | 15 =>
      unfold xC
      simp (disch := first | decide | omega) only [xRoot, xLabel, xWalk, xChoice, xZone, hF, xPlace, xVillage, xLamp, xMeter, xReading, xSat, g, mk, cc]
    | k + 16 => rw [xC_hi (by omega), xC_hi (by omega)]
  · show (if 3 < 6 + ix (σ' 26 0) then some (Sum.inr (0, xList (gR ρ 10 (ix (σ 13 0)) e 3 d) (gM μ 3 (μ 0 3 + 1)) σ' 3)) else none) = _
    rw [if_pos (by omega)]
    unfold xList
    rw [hL, if_pos rfl, show gM μ 3 (μ 0 3 + 1) 0 3 = μ 0 3 + 1 from if_pos ⟨rfl, rfl⟩, show gR ρ 10 (ix (σ 13 0)) e 3 d 2 3 = d from (if_neg (fun z => absurd z.1 (by decide))).trans (if_pos ⟨rfl, rfl⟩)]
  · have hc : 0 < c := by omega
    show (if 3 < 6 + ix (σ' 26 0) ∧ 0 < gC cap 3 c 3 then some (Sum.inl (ca 2, gC cap 3 c 3, fRefs (xD (gR ρ 10 (ix (σ 13 0)) e 3 d) σ' 3))) else none) = _
    have e1 : gC cap 3 c 3 = c := if_pos rfl
    rw [e1, if_pos ⟨by omega, hc⟩]
    have e2 : xD (gR ρ 10 (ix (σ 13 0)) e 3 d) σ' 3 = va_up (xD ρ σ 3) (ix (σ 13 0)) (some e) := by
      funext i
      unfold xD va_up
      rw [hL, if_pos rfl]
      show _ = (if i = (ix (σ 13 0)) then some e else if i < xL σ 3 then some (xE ρ 3 i) else none)
      by_cases w : i = (ix (σ 13 0))
      · subst w
        rw [if_pos (by omega), if_pos rfl]
        exact congrArg some (if_pos ⟨rfl, rfl⟩)
      · rw [if_neg w]
        by_cases v : i < (ix (σ 13 0))
        · rw [if_pos (by omega), if_pos (show i < xL σ 3 from v)]
          exact congrArg some (gR_o (fun z => w z.2) (fun z => absurd z.1 (by decide)))
        · rw [if_neg (by omega), if_neg (show ¬ i < xL σ 3 from v)]
    rw [e2]
  · show (if ix p1 < ix (σ' 8 0) then some (Sum.inr (8, xVillage σ' (ix p1))) else none) = _
    unfold xVillage
    rw [cc 8 (by decide), cc 9 (by decide), cc 10 (by decide), cc 11 (by decide), cc 12 (by decide), hcnt, if_pos hv1, if_pos ep]
end
