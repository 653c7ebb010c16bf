noncomputable section
/-- a meter's readings moved down by one, over n places from k -/
def shL : Nat → Nat → St → St
  | 0, _, s => s
  | n + 1, k, s => shL n (k + 1) (sS (sS s 32 k (s 32 (k + 1))) 33 k (s 33 (k + 1)))
theorem shL_col {c : Nat} (h2 : c ≠ 32) (h3 : c ≠ 33) : ∀ n k s, shL n k s c = s c := by
  intro n
  induction n with
  | zero => intro k s; rfl
  | succ n ih =>
    intro k s
    show shL n (k + 1) _ c = s c
    rw [ih, sS_col h3, sS_col h2]
theorem shL_at {c : Nat} (h : c = 32 ∨ c = 33) : ∀ n k s i, shL n k s c i = (if k ≤ i ∧ i < k + n then s c (i + 1) else s c i) := by
  intro n
  induction n with
  | zero => intro k s i; rw [if_neg (by omega)]; rfl
  | succ n ih =>
    intro k s i
    show shL n (k + 1) _ c i = _
    rw [ih]
    have e : ∀ j, sS (sS s 32 k (s 32 (k + 1))) 33 k (s 33 (k + 1)) c j = if j = k then s c (k + 1) else s c j := fun j => by
      rcases h with rfl | rfl
      · rw [sS_col (by decide)]
        by_cases w : j = k
        · rw [w, sS_same, if_pos rfl]
        · rw [sS_ne (fun _ => w), if_neg w]
      · by_cases w : j = k
        · rw [w, sS_same, if_pos rfl]
        · rw [sS_ne (fun _ => w), if_neg w, sS_col (by decide)]
    rw [e, e]
    by_cases a : k + 1 ≤ i ∧ i < k + 1 + n
    · rw [if_pos a, if_neg (show ¬ i + 1 = k by omega), if_pos (show k ≤ i ∧ i < k + (n + 1) by omega)]
    · rw [if_neg a]
      by_cases b : i = k
      · rw [if_pos b, if_pos (show k ≤ i ∧ i < k + (n + 1) by omega), b]
      · rw [if_neg b, if_neg (show ¬ (k ≤ i ∧ i < k + (n + 1)) by omega)]
/-- the oldest of a meter's ten readings gone -/
def remRd (σ : St) (m : Nat) : St := sS (shL 9 (10 * m) σ) 31 m (σ 31 m - 1)
theorem remRd_c {σ : St} {m c : Nat} (h1 : c ≠ 31) (h2 : c ≠ 32) (h3 : c ≠ 33) : remRd σ m c = σ c := by
  unfold remRd
  rw [sS_col h1, shL_col h2 h3]
theorem remRd_at {σ : St} {m c i : Nat} (h : c = 32 ∨ c = 33) : remRd σ m c i = (if 10 * m ≤ i ∧ i < 10 * m + 9 then σ c (i + 1) else σ c i) := by
  unfold remRd
  rw [sS_col (by omega), shL_at h]
theorem remRd_31 {σ : St} {m j : Nat} (h : j ≠ m) : remRd σ m 31 j = σ 31 j := by
  unfold remRd
  rw [sS_ne (fun _ => h), shL_col (by decide) (by decide)]
theorem remRd_31m {σ : St} {m : Nat} : remRd σ m 31 m = σ 31 m - 1 := sS_same ..
def rF (ρ : Nat → Nat → Nat) (m : Nat) : Nat → Nat → Nat := fun k i => if k = 12 ∧ 10 * m ≤ i ∧ i < 10 * m + 9 then ρ 12 (i + 1) else ρ k i
theorem RX.remR {ca : Nat → Nat} {h : fH} {ρ : Nat → Nat → Nat} {μ : Nat → Nat → Int32} {cap : Nat → Nat} {σ : St} {m : Nat} (hR : RX ca h ρ μ cap σ) (hI : InvX σ) (hm : m < ix (σ 26 0)) (h10 : σ 31 m = 10) : RX ca (fU (fU h (ρ 2 (m + 6)) (.inl (ca 2, cap (m + 6), fRefs (rmF (xD ρ σ (m + 6)) 10)))) (ρ 1 (m + 6)) (.inr (0, [.int (μ 0 (m + 6) + 1), .ref (ρ 2 (m + 6)), .int (nI 9)]))) (rF ρ m) (gM μ (m + 6) (μ 0 (m + 6) + 1)) cap (remRd σ m) := by
  have i10 : ix (σ 31 m) = 10 := by rw [h10]; rfl
  have i9 : ix (remRd σ m 31 m) = 9 := by rw [remRd_31m, h10]; rfl
  have cc : ∀ c, c ≠ 31 → c ≠ 32 → c ≠ 33 → remRd σ m c = σ c := fun c => remRd_c
  have c31 : ∀ j, j ≠ m → remRd σ m 31 j = σ 31 j := fun j => remRd_31
  have cat : ∀ c i, c = 32 ∨ c = 33 → remRd σ m c i = (if 10 * m ≤ i ∧ i < 10 * m + 9 then σ c (i + 1) else σ c i) := fun c i => remRd_at
  generalize remRd σ m = σ' at *
  have hcap : 0 < cap (m + 6) := by
    have := (hR.2.2 (m + 6) (by omega)).1
    have e : xL σ (m + 6) = 10 := i10
    omega
  have hL : ∀ k, k ≠ m + 6 → xL σ' k = xL σ k := fun k hk => by
    match k with
    | 0 => rfl
    | 1 => rfl
    | 2 => show ix (σ' 8 0) = ix (σ 8 0); rw [cc 8 (by decide) (by decide) (by decide)]
    | 3 => show ix (σ' 13 0) = ix (σ 13 0); rw [cc 13 (by decide) (by decide) (by decide)]
    | 4 => show ix (σ' 26 0) = ix (σ 26 0); rw [cc 26 (by decide) (by decide) (by decide)]
    | 5 => show ix (σ' 37 0) = ix (σ 37 0); rw [cc 37 (by decide) (by decide) (by decide)]
    | j + 6 => show ix (σ' 31 j) = ix (σ 31 j); rw [c31 j (by omega)]
  have g : ∀ k i, k ≠ 12 → rF ρ m k i = ρ k i := fun k i z => if_neg (fun w => z w.1)
  have mk : ∀ k, k ≠ 0 → gM μ (m + 6) (μ 0 (m + 6) + 1) k = μ k := fun k z => funext fun i => if_neg (fun w => z w.1)
  have hF : ∀ z, xF σ' z = xF σ z := fun z => by
    unfold xF
    rw [cc 7 (by decide) (by decide) (by decide)]
  have hD : ∀ k, k < 6 + ix (σ 26 0) → k ≠ m + 6 → (xL σ k ≤ 10 ∨ k < 6) → xD (rF ρ m) σ' k = xD ρ σ k := fun k _ z hb => by
    unfold xD
    funext i
    rw [hL k z]
    by_cases v : i < xL σ k
    · rw [if_pos v, if_pos v]
      have : xE (rF ρ m) k i = xE ρ k i := by
        match k with
        | 0 => exact g 6 i (by decide)
        | 1 => exact g 8 i (by decide)
        | 2 => exact g 9 i (by decide)
        | 3 => exact g 10 i (by decide)
        | 4 => exact g 11 i (by decide)
        | 5 => exact g 13 i (by decide)
        | j + 6 =>
          show rF ρ m 12 (10 * j + i) = ρ 12 (10 * j + i)
          exact if_neg (by omega)
      rw [this]
    · rw [if_neg v, if_neg v]
  have hq : m + 6 < 6 + ix (σ 26 0) := by omega
  have x1 : xC ca ρ μ cap σ 1 (m + 6) = some (.inr (0, xList ρ μ σ (m + 6))) := if_pos hq
  have x2 : xC ca ρ μ cap σ 2 (m + 6) = some (.inl (ca 2, cap (m + 6), fRefs (xD ρ σ (m + 6)))) := if_pos ⟨hq, hcap⟩
  have y1 : xC ca (rF ρ m) (gM μ (m + 6) (μ 0 (m + 6) + 1)) cap σ' 1 (m + 6) = some (.inr (0, [.int (μ 0 (m + 6) + 1), .ref (ρ 2 (m + 6)), .int (nI 9)])) := by
    show (if m + 6 < 6 + ix (σ' 26 0) then some (Sum.inr (0, xList (rF ρ m) (gM μ (m + 6) (μ 0 (m + 6) + 1)) σ' (m + 6))) else none) = _
    rw [cc 26 (by decide) (by decide) (by decide), if_pos hq]
    unfold xList
    rw [show xL σ' (m + 6) = 9 from i9, g 2 _ (by decide), show gM μ (m + 6) (μ 0 (m + 6) + 1) 0 (m + 6) = μ 0 (m + 6) + 1 from if_pos ⟨rfl, rfl⟩]
  have y2 : xC ca (rF ρ m) (gM μ (m + 6) (μ 0 (m + 6) + 1)) cap σ' 2 (m + 6) = some (.inl (ca 2, cap (m + 6), fRefs (rmF (xD ρ σ (m + 6)) 10))) := by
    show (if m + 6 < 6 + ix (σ' 26 0) ∧ 0 < cap (m + 6) then some (Sum.inl (ca 2, cap (m + 6), fRefs (xD (rF ρ m) σ' (m + 6)))) else none) = _
    rw [cc 26 (by decide) (by decide) (by decide), if_pos ⟨hq, hcap⟩]
    have : xD (rF ρ m) σ' (m + 6) = rmF (xD ρ σ (m + 6)) 10 := by
      funext i
      unfold xD rmF va_up va_cpy
      rw [show xL σ' (m + 6) = 9 from i9, show xL σ (m + 6) = 10 from i10]
      show (if i < 9 then some (rF ρ m 12 (10 * m + i)) else none) = (if i = 9 then none else if 0 ≤ i ∧ i < 0 + 9 then (if 1 + (i - 0) < 10 then some (ρ 12 (10 * m + (1 + (i - 0)))) else none) else (if i < 10 then some (ρ 12 (10 * m + i)) else none))
      by_cases a : i < 9
      · rw [if_pos a, if_neg (by omega), if_pos (by omega), if_pos (by omega)]
        refine congrArg some ((if_pos ⟨rfl, by omega, by omega⟩).trans ?_)
        rw [show 10 * m + i + 1 = 10 * m + (1 + (i - 0)) by omega]
      · rw [if_neg a]
        by_cases b : i = 9
        · rw [if_pos b]
        · rw [if_neg b, if_neg (by omega), if_neg (by omega)]
    rw [this]
  have oth : ∀ k i, ¬ (k = 1 ∧ i = m + 6) → ¬ (k = 2 ∧ i = m + 6) → xC ca (rF ρ m) (gM μ (m + 6) (μ 0 (m + 6) + 1)) cap σ' k i = (if k = 12 ∧ i / 10 = m ∧ 9 ≤ i % 10 then none else xC ca ρ μ cap σ k (if k = 12 ∧ 10 * m ≤ i ∧ i < 10 * m + 9 then i + 1 else i)) := by
    intro k i a1 a2
    by_cases k12 : k = 12
    · subst k12
      show (if i / 10 < ix (σ' 26 0) ∧ i % 10 < ix (σ' 31 (i / 10)) then some (Sum.inr (6, xReading σ' i)) else none) = _
      rw [cc 26 (by decide) (by decide) (by decide)]
      by_cases e : i / 10 = m
      · rw [e, i9]
        by_cases v : i % 10 < 9
        · rw [if_pos ⟨hm, v⟩, if_neg (by omega), if_pos (by omega)]
          show _ = (if (i + 1) / 10 < ix (σ 26 0) ∧ (i + 1) % 10 < ix (σ 31 ((i + 1) / 10)) then some (Sum.inr (6, xReading σ (i + 1))) else none)
          rw [show (i + 1) / 10 = m by omega, i10, if_pos ⟨hm, by omega⟩]
          unfold xReading
          rw [cat 32 i (Or.inl rfl), cat 33 i (Or.inr rfl), if_pos (by omega), if_pos (by omega)]
        · rw [if_neg (fun z => v z.2), if_pos ⟨rfl, rfl, by omega⟩]
      · rw [c31 _ e, if_neg (show ¬ ((12 : Nat) = 12 ∧ i / 10 = m ∧ 9 ≤ i % 10) from fun z => e z.2.1), if_neg (show ¬ ((12 : Nat) = 12 ∧ 10 * m ≤ i ∧ i < 10 * m + 9) by omega)]
        show _ = (if i / 10 < ix (σ 26 0) ∧ i % 10 < ix (σ 31 (i / 10)) then some (Sum.inr (6, xReading σ i)) else none)
        unfold xReading
        rw [cat 32 i (Or.inl rfl), cat 33 i (Or.inr rfl), if_neg (show ¬ (10 * m ≤ i ∧ i < 10 * m + 9) by omega), if_neg (show ¬ (10 * m ≤ i ∧ i < 10 * m + 9) by omega)]
    rw [if_neg (fun z => k12 z.1), if_neg (fun z => k12 z.1)]
    match k with
    | 1 =>
      have hi : i ≠ m + 6 := fun z => a1 ⟨rfl, z⟩
      show (if i < 6 + ix (σ' 26 0) then some (Sum.inr (0, xList (rF ρ m) (gM μ (m + 6) (μ 0 (m + 6) + 1)) σ' i)) else none) = (if i < 6 + ix (σ 26 0) then some (Sum.inr (0, xList ρ μ σ i)) else none)
      unfold xList
      rw [g 2 _ (by decide), hL i hi, cc 26 (by decide) (by decide) (by decide), show gM μ (m + 6) (μ 0 (m + 6) + 1) 0 i = μ 0 i from if_neg (fun z => hi z.2)]
    | 2 =>
      have hi : i ≠ m + 6 := fun z => a2 ⟨rfl, z⟩
      show (if i < 6 + ix (σ' 26 0) ∧ 0 < cap i then some (Sum.inl (ca 2, cap i, fRefs (xD (rF ρ m) σ' i))) else none) = (if i < 6 + ix (σ 26 0) ∧ 0 < cap i then some (Sum.inl (ca 2, cap i, fRefs (xD ρ σ i))) else none)
      rw [cc 26 (by decide) (by decide) (by decide)]
      by_cases v : i < 6 + ix (σ 26 0) ∧ 0 < cap i
      · rw [if_pos v, if_pos v, hD i v.1 hi (by
          match i with
          | 0 | 1 | 2 | 3 | 4 | 5 => exact Or.inr (by omega)
          | j + 6 => exact Or.inl (IX_reads hI j))]
      · rw [if_neg v, if_neg v]
    | 12 => exact absurd rfl k12
    | 0 | 3 | 4 | 5 | 6 | 7 | 8 | 9 | 10 | 11 | 13 | 14 | 15 =>
      unfold xC
      simp (disch := first | decide | omega) only [xRoot, xLabel, xWalk, xChoice, xZone, hF, xPlace, xVillage, xLamp, xMeter, xSat, g, mk, cc]
    | k + 16 => rw [xC_hi (by omega), xC_hi (by omega)]
  have adr : ∀ k i, rF ρ m k i = ρ k (if k = 12 ∧ 10 * m ≤ i ∧ i < 10 * m + 9 then i + 1 else i) := fun k i => by
    unfold rF
    by_cases w : k = 12 ∧ 10 * m ≤ i ∧ i < 10 * m + 9
    · rw [if_pos w, if_pos w, w.1]
    · rw [if_neg w, if_neg w]
  have cls : ∀ k i x, xC ca (rF ρ m) (gM μ (m + 6) (μ 0 (m + 6) + 1)) cap σ' k i = some x → ¬ (k = 12 ∧ i / 10 = m ∧ 9 ≤ i % 10) ∧ (∃ y, xC ca ρ μ cap σ k (if k = 12 ∧ 10 * m ≤ i ∧ i < 10 * m + 9 then i + 1 else i) = some y) := by
    intro k i x hx
    by_cases a1 : k = 1 ∧ i = m + 6
    · obtain ⟨rfl, rfl⟩ := a1
      exact ⟨fun z => absurd z.1 (by decide), _, x1⟩
    by_cases a2 : k = 2 ∧ i = m + 6
    · obtain ⟨rfl, rfl⟩ := a2
      exact ⟨fun z => absurd z.1 (by decide), _, x2⟩
    rw [oth k i a1 a2] at hx
    by_cases v : k = 12 ∧ i / 10 = m ∧ 9 ≤ i % 10
    · rw [if_pos v] at hx
      cases hx
    · rw [if_neg v] at hx
      exact ⟨v, _, hx⟩
  have L12 : ρ 2 (m + 6) ≠ ρ 1 (m + 6) := fun z => absurd (hR.2.1 2 _ 1 _ _ _ x2 x1 z).1 (by decide)
  refine ⟨fun k i x hx => ?_, fun k i k' i' x x' hx hx' e => ?_, fun k hk => ?_⟩
  · by_cases a1 : k = 1 ∧ i = m + 6
    · obtain ⟨rfl, rfl⟩ := a1
      rw [g 1 _ (by decide), fU_same, ← y1, hx]
    by_cases a2 : k = 2 ∧ i = m + 6
    · obtain ⟨rfl, rfl⟩ := a2
      rw [g 2 _ (by decide), fU_ne L12, fU_same, ← y2, hx]
    obtain ⟨v, y, hy⟩ := cls k i x hx
    rw [oth k i a1 a2, if_neg v] at hx
    rw [adr]
    rw [fU_ne (fun z => by
      have := hR.2.1 _ _ _ _ _ _ hx x1 z
      by_cases w : k = 12
      · omega
      · rw [if_neg (fun z => w z.1)] at this
        exact a1 this), fU_ne (fun z => by
      have := hR.2.1 _ _ _ _ _ _ hx x2 z
      by_cases w : k = 12
      · omega
      · rw [if_neg (fun z => w z.1)] at this
        exact a2 this)]
    exact hR.1 _ _ _ hx
  · obtain ⟨v, y, hy⟩ := cls k i x hx
    obtain ⟨v', y', hy'⟩ := cls k' i' x' hx'
    rw [adr, adr] at e
    obtain ⟨q1, q2⟩ := hR.2.1 _ _ _ _ _ _ hy hy' e
    subst q1
    refine ⟨rfl, ?_⟩
    by_cases w : k = 12
    · subst w
      by_cases a : 10 * m ≤ i ∧ i < 10 * m + 9
      · rw [if_pos ⟨rfl, a⟩] at q2
        by_cases b : 10 * m ≤ i' ∧ i' < 10 * m + 9
        · rw [if_pos ⟨rfl, b⟩] at q2
          omega
        · rw [if_neg (fun z => b z.2)] at q2
          omega
      · rw [if_neg (fun z => a z.2)] at q2
        by_cases b : 10 * m ≤ i' ∧ i' < 10 * m + 9
        · rw [if_pos ⟨rfl, b⟩] at q2
          omega
        · rw [if_neg (fun z => b z.2)] at q2
          exact q2
    · rw [if_neg (fun z => w z.1), if_neg (fun z => w z.1)] at q2
      exact q2
  · rw [cc 26 (by decide) (by decide) (by decide)] at hk
    obtain ⟨b1, b2, b3⟩ := hR.2.2 k hk
    rw [g 2 _ (by decide)]
    refine ⟨?_, b2, b3⟩
    by_cases w : k = m + 6
    · subst w
      have e : xL σ (m + 6) = 10 := i10
      rw [show xL σ' (m + 6) = 9 from i9]
      omega
    · rw [hL k w]
      exact b1
end
