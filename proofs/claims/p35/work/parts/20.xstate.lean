noncomputable section
/-! the class's picture: cells by kind and number, at ρ kind number; μ: numbers of no meaning; cap: the lists' arrays' lengths -/
def xL (σ : St) (k : Nat) : Nat := match k with
  | 0 => 4
  | 1 => 64
  | 2 => ix (σ 8 0)
  | 3 => ix (σ 13 0)
  | 4 => ix (σ 26 0)
  | 5 => ix (σ 37 0)
  | m + 6 => ix (σ 31 m)
def xE (ρ : Nat → Nat → Nat) (k i : Nat) : Nat := match k with
  | 0 => ρ 6 i
  | 1 => ρ 8 i
  | 2 => ρ 9 i
  | 3 => ρ 10 i
  | 4 => ρ 11 i
  | 5 => ρ 13 i
  | m + 6 => ρ 12 (10 * m + i)
def xD (ρ : Nat → Nat → Nat) (σ : St) (k : Nat) : Nat → Option Nat := fun i => if i < xL σ k then some (xE ρ k i) else none
def nextFine (v : Int32) : Int32 := if v = (-100000) then 0 else v + 720
def cntF (f : Nat → Int32) : Nat → Int32
  | 0 => 0
  | n + 1 => cntF f n + (if f n = 0 then 0 else 1)
def cntO (f : Nat → Int32) (v : Int32) : Nat → Int32
  | 0 => 0
  | n + 1 => cntO f v n + (if f n = v then 1 else 0)
def xRoot (ρ : Nat → Nat → Nat) (σ : St) : List Value := [.ref (ρ 1 0), .ref (ρ 1 1), .ref (ρ 1 2), .ref (ρ 1 3), .ref (ρ 1 4), .ref (ρ 1 5), .ref (ρ 3 0), .ref (ρ 4 0), .ref (ρ 5 0), .int (σ 0 0), .int (σ 1 0)]
def xList (ρ : Nat → Nat → Nat) (μ : Nat → Nat → Int32) (σ : St) (k : Nat) : List Value := [.int (μ 0 k), .ref (ρ 2 k), .int (nI (xL σ k))]
def xLabel (σ : St) : List Value := [.int (if σ 34 0 = 0 then 1 else 0), .int (σ 36 0), .int (σ 35 0)]
def xWalk (ρ : Nat → Nat → Nat) (μ : Nat → Nat → Int32) : List Value := [.ref (ρ 14 0), .ref (ρ 14 1), .ref (ρ 14 2), .int (μ 1 0)]
def xChoice (ρ : Nat → Nat → Nat) (μ : Nat → Nat → Int32) : List Value := [.ref (ρ 15 0), .ref (ρ 15 1), .int (μ 2 0)]
def xZone (ρ : Nat → Nat → Nat) (σ : St) (z : Nat) : List Value := [.int (nI z), .ref (ρ 7 z), .int (cntF (fun d => σ 7 (1000 * z + d)) n1000), .int (σ 4 z), .int (σ 5 z), .int (σ 6 z)]
def xPlace (ρ : Nat → Nat → Nat) (σ : St) (p : Nat) : List Value := [.int (nI (p % 8)), .int (nI (p / 8)), .ref (ρ 6 (ix (σ 3 p))), .int (σ 2 p)]
def xVillage (σ : St) (v : Nat) : List Value := [.int (σ 9 v), .int (σ 10 v), .int (σ 11 v), .int (cntO (σ 14) (nI v) (ix (σ 13 0))), .int (σ 12 v)]
def xLamp (ρ : Nat → Nat → Nat) (σ : St) (i : Nat) : List Value := [.ref (ρ 9 (ix (σ 14 i))), .ref (ρ 8 (ix (σ 15 i))), .int (σ 16 i), .int (σ 17 i), .int (σ 18 i), .int (σ 19 i), .int (σ 20 i), .int (σ 21 i), .int (σ 22 i), .int (σ 23 i), .int (σ 24 i), .int (nextFine (σ 25 i))]
def xMeter (ρ : Nat → Nat → Nat) (σ : St) (m : Nat) : List Value := [.ref (ρ 8 (ix (σ 27 m))), .int (σ 28 m), .int (σ 29 m), .ref (ρ 1 (m + 6)), .int (σ 30 m)]
def xReading (σ : St) (r : Nat) : List Value := [.int (σ 32 r), .int (σ 33 r)]
def xSat (σ : St) (s : Nat) : List Value := [.int (σ 38 s), .int (σ 39 s)]
def xF (σ : St) (z : Nat) : Nat → Int32 := fun d => if d < 1000 then σ 7 (1000 * z + d) else 0
def xC (ca : Nat → Nat) (ρ : Nat → Nat → Nat) (μ : Nat → Nat → Int32) (cap : Nat → Nat) (σ : St) (k i : Nat) : Option va_E := match k with
  | 0 => if i = 0 then some (.inr (11, xRoot ρ σ)) else none
  | 1 => if i < 6 + ix (σ 26 0) then some (.inr (0, xList ρ μ σ i)) else none
  | 2 => if i < 6 + ix (σ 26 0) ∧ 0 < cap i then some (.inl (ca 2, cap i, fRefs (xD ρ σ i))) else none
  | 3 => if i = 0 then some (.inr (2, xLabel σ)) else none
  | 4 => if i = 0 then some (.inr (9, xWalk ρ μ)) else none
  | 5 => if i = 0 then some (.inr (1, xChoice ρ μ)) else none
  | 6 => if i < 4 then some (.inr (10, xZone ρ σ i)) else none
  | 7 => if i < 4 then some (.inl (ca 1, 1000, .inl (xF σ i))) else none
  | 8 => if i < 64 then some (.inr (5, xPlace ρ σ i)) else none
  | 9 => if i < ix (σ 8 0) then some (.inr (8, xVillage σ i)) else none
  | 10 => if i < ix (σ 13 0) then some (.inr (3, xLamp ρ σ i)) else none
  | 11 => if i < ix (σ 26 0) then some (.inr (4, xMeter ρ σ i)) else none
  | 12 => if i / 10 < ix (σ 26 0) ∧ i % 10 < ix (σ 31 (i / 10)) then some (.inr (6, xReading σ i)) else none
  | 13 => if i < ix (σ 37 0) then some (.inr (7, xSat σ i)) else none
  | 14 => if i < 3 then some (.inl (ca 0, 64, .inl (μ (10 + i)))) else none
  | 15 => if i < 2 then some (.inl (ca 0, 10, .inl (μ (20 + i)))) else none
  | _ => none
/-- the class's object ρ 0 0 holds the state σ -/
def RX (ca : Nat → Nat) (h : fH) (ρ : Nat → Nat → Nat) (μ : Nat → Nat → Int32) (cap : Nat → Nat) (σ : St) : Prop :=
  (∀ k i e, xC ca ρ μ cap σ k i = some e → h (ρ k i) = some e) ∧
  (∀ k i k' i' e e', xC ca ρ μ cap σ k i = some e → xC ca ρ μ cap σ k' i' = some e' → ρ k i = ρ k' i' → k = k' ∧ i = i') ∧
  ∀ k, k < 6 + ix (σ 26 0) → xL σ k ≤ cap k ∧ cap k < 1000 ∧ (cap k = 0 → ρ 2 k = ca 4)
theorem xC_ext {σ σ' : St} (h : ∀ k, k < 40 → σ' k = σ k) (ca : Nat → Nat) (ρ : Nat → Nat → Nat) (μ : Nat → Nat → Int32) (cap : Nat → Nat) : xC ca ρ μ cap σ' = xC ca ρ μ cap σ := by
  have hL : ∀ k, xL σ' k = xL σ k := fun k => by
    unfold xL
    split <;> simp only [h 8 (by decide), h 13 (by decide), h 26 (by decide), h 37 (by decide), h 31 (by decide)]
  have hD : ∀ k, xD ρ σ' k = xD ρ σ k := fun k => by
    unfold xD
    funext i
    rw [hL]
  have hF : ∀ z, xF σ' z = xF σ z := fun z => by
    unfold xF
    rw [h 7 (by decide)]
  funext k i
  unfold xC
  simp only [hF, xRoot, xList, xLabel, xZone, xPlace, xVillage, xLamp, xMeter, xReading, xSat, hL, hD, h 0 (by decide), h 1 (by decide), h 2 (by decide), h 3 (by decide), h 4 (by decide), h 5 (by decide), h 6 (by decide), h 7 (by decide), h 8 (by decide), h 9 (by decide), h 10 (by decide), h 11 (by decide), h 12 (by decide), h 13 (by decide), h 14 (by decide), h 15 (by decide), h 16 (by decide), h 17 (by decide), h 18 (by decide), h 19 (by decide), h 20 (by decide), h 21 (by decide), h 22 (by decide), h 23 (by decide), h 24 (by decide), h 25 (by decide), h 26 (by decide), h 27 (by decide), h 28 (by decide), h 29 (by decide), h 30 (by decide), h 31 (by decide), h 32 (by decide), h 33 (by decide), h 34 (by decide), h 35 (by decide), h 36 (by decide), h 37 (by decide), h 38 (by decide), h 39 (by decide)]
theorem RX.ext {ca : Nat → Nat} {h : fH} {ρ : Nat → Nat → Nat} {μ : Nat → Nat → Int32} {cap : Nat → Nat} {σ σ' : St} (hR : RX ca h ρ μ cap σ) (he : ∀ k, k < 40 → σ' k = σ k) : RX ca h ρ μ cap σ' := by
  have h1 := xC_ext he ca ρ μ cap
  have hL : ∀ k, xL σ' k = xL σ k := fun k => by
    unfold xL
    split <;> simp only [he 8 (by decide), he 13 (by decide), he 26 (by decide), he 37 (by decide), he 31 (by decide)]
  unfold RX
  rw [h1, he 26 (by decide)]
  refine ⟨hR.1, hR.2.1, fun k hk => ?_⟩
  rw [hL]
  exact hR.2.2 k hk
/-- one cell written -/
theorem RX.upd {ca : Nat → Nat} {h : fH} {ρ : Nat → Nat → Nat} {μ μ' : Nat → Nat → Int32} {cap : Nat → Nat} {σ σ' : St} (hR : RX ca h ρ μ cap σ) {k i : Nat} {e0 e1 : va_E} (h0 : xC ca ρ μ cap σ k i = some e0) (h1 : xC ca ρ μ' cap σ' k i = some e1)
    (ho : ∀ k' i', ¬ (k' = k ∧ i' = i) → xC ca ρ μ' cap σ' k' i' = xC ca ρ μ cap σ k' i') (hL : ∀ k, xL σ' k = xL σ k) (hM : ix (σ' 26 0) = ix (σ 26 0)) : RX ca (fU h (ρ k i) e1) ρ μ' cap σ' := by
  have dom : ∀ k' i' e, xC ca ρ μ' cap σ' k' i' = some e → ∃ e2, xC ca ρ μ cap σ k' i' = some e2 := fun k' i' e hx => by
    by_cases q : k' = k ∧ i' = i
    · obtain ⟨rfl, rfl⟩ := q
      exact ⟨_, h0⟩
    · rw [ho k' i' q] at hx
      exact ⟨_, hx⟩
  refine ⟨fun k' i' e hx => ?_, fun k1 i1 k2 i2 a b ha hb hab => ?_, fun q hq => ?_⟩
  · by_cases q : k' = k ∧ i' = i
    · obtain ⟨rfl, rfl⟩ := q
      rw [h1] at hx
      cases hx
      exact fU_same _ _ _
    · have hx' := hx
      rw [ho k' i' q] at hx'
      rw [fU_ne (fun z => q (hR.2.1 k' i' k i _ _ hx' h0 z))]
      exact hR.1 k' i' e hx'
  · obtain ⟨a2, ha2⟩ := dom _ _ _ ha
    obtain ⟨b2, hb2⟩ := dom _ _ _ hb
    exact hR.2.1 _ _ _ _ _ _ ha2 hb2 hab
  · rw [hM] at hq
    rw [hL]
    exact hR.2.2 q hq
section RXR
variable {ca : Nat → Nat} {h : fH} {ρ : Nat → Nat → Nat} {μ : Nat → Nat → Int32} {cap : Nat → Nat} {σ : St}
theorem RX.root (hR : RX ca h ρ μ cap σ) : h (ρ 0 0) = some (.inr (11, xRoot ρ σ)) := hR.1 0 0 _ rfl
theorem RX.list (hR : RX ca h ρ μ cap σ) {k : Nat} (hk : k < 6 + ix (σ 26 0)) : h (ρ 1 k) = some (.inr (0, xList ρ μ σ k)) := hR.1 1 k _ (if_pos hk)
theorem RX.data (hR : RX ca h ρ μ cap σ) {k i : Nat} (hk : k < 6 + ix (σ 26 0)) (hi : i < xL σ k) : h (ρ 2 k) = some (.inl (ca 2, cap k, fRefs (xD ρ σ k))) := hR.1 2 k _ (if_pos ⟨hk, Nat.lt_of_lt_of_le (Nat.lt_of_le_of_lt (Nat.zero_le _) hi) (hR.2.2 k hk).1⟩)
theorem RX.label (hR : RX ca h ρ μ cap σ) : h (ρ 3 0) = some (.inr (2, xLabel σ)) := hR.1 3 0 _ rfl
theorem RX.walk (hR : RX ca h ρ μ cap σ) : h (ρ 4 0) = some (.inr (9, xWalk ρ μ)) := hR.1 4 0 _ rfl
theorem RX.choice (hR : RX ca h ρ μ cap σ) : h (ρ 5 0) = some (.inr (1, xChoice ρ μ)) := hR.1 5 0 _ rfl
theorem RX.zone (hR : RX ca h ρ μ cap σ) {i : Nat} (hi : i < 4) : h (ρ 6 i) = some (.inr (10, xZone ρ σ i)) := hR.1 6 i _ (if_pos hi)
theorem RX.feasts (hR : RX ca h ρ μ cap σ) {i : Nat} (hi : i < 4) : h (ρ 7 i) = some (.inl (ca 1, 1000, .inl (xF σ i))) := hR.1 7 i _ (if_pos hi)
theorem RX.place (hR : RX ca h ρ μ cap σ) {i : Nat} (hi : i < 64) : h (ρ 8 i) = some (.inr (5, xPlace ρ σ i)) := hR.1 8 i _ (if_pos hi)
theorem RX.village (hR : RX ca h ρ μ cap σ) {i : Nat} (hi : i < ix (σ 8 0)) : h (ρ 9 i) = some (.inr (8, xVillage σ i)) := hR.1 9 i _ (if_pos hi)
theorem RX.lamp (hR : RX ca h ρ μ cap σ) {i : Nat} (hi : i < ix (σ 13 0)) : h (ρ 10 i) = some (.inr (3, xLamp ρ σ i)) := hR.1 10 i _ (if_pos hi)
theorem RX.meter (hR : RX ca h ρ μ cap σ) {i : Nat} (hi : i < ix (σ 26 0)) : h (ρ 11 i) = some (.inr (4, xMeter ρ σ i)) := hR.1 11 i _ (if_pos hi)
theorem RX.reading (hR : RX ca h ρ μ cap σ) {i : Nat} (hi : i / 10 < ix (σ 26 0) ∧ i % 10 < ix (σ 31 (i / 10))) : h (ρ 12 i) = some (.inr (6, xReading σ i)) := hR.1 12 i _ (if_pos hi)
theorem RX.sat (hR : RX ca h ρ μ cap σ) {i : Nat} (hi : i < ix (σ 37 0)) : h (ρ 13 i) = some (.inr (7, xSat σ i)) := hR.1 13 i _ (if_pos hi)
theorem RX.warr (hR : RX ca h ρ μ cap σ) {i : Nat} (hi : i < 3) : h (ρ 14 i) = some (.inl (ca 0, 64, .inl (μ (10 + i)))) := hR.1 14 i _ (if_pos hi)
theorem RX.carr (hR : RX ca h ρ μ cap σ) {i : Nat} (hi : i < 2) : h (ρ 15 i) = some (.inl (ca 0, 10, .inl (μ (20 + i)))) := hR.1 15 i _ (if_pos hi)
theorem RX.place_eq (hR : RX ca h ρ μ cap σ) {i j : Nat} (hi : i < 64) (hj : j < 64) : ρ 8 i = ρ 8 j ↔ i = j := ⟨fun e => (hR.2.1 8 i 8 j _ _ (if_pos hi) (if_pos hj) e).2, fun e => by rw [e]⟩
theorem RX.zone_eq (hR : RX ca h ρ μ cap σ) {i j : Nat} (hi : i < 4) (hj : j < 4) : ρ 6 i = ρ 6 j ↔ i = j := ⟨fun e => (hR.2.1 6 i 6 j _ _ (if_pos hi) (if_pos hj) e).2, fun e => by rw [e]⟩
theorem RX.village_eq (hR : RX ca h ρ μ cap σ) {i j : Nat} (hi : i < ix (σ 8 0)) (hj : j < ix (σ 8 0)) : ρ 9 i = ρ 9 j ↔ i = j := ⟨fun e => (hR.2.1 9 i 9 j _ _ (if_pos hi) (if_pos hj) e).2, fun e => by rw [e]⟩
end RXR
/-- what holds of every state that calls come to, beside Inv -/
def InvX (σ : St) : Prop := Inv σ ∧ (∀ i, i < ix (σ 13 0) → ix (σ 14 i) < ix (σ 8 0)) ∧ (∀ j, j < ix (σ 37 0) → 0 < (σ 38 j).toInt) ∧
  (∀ j, ix (σ 13 0) ≤ j → σ 19 j = 0 ∧ σ 22 j = 0 ∧ σ 23 j = 0 ∧ σ 24 j = 0) ∧ (∀ j, ix (σ 8 0) ≤ j → σ 11 j = 0 ∧ σ 12 j = 0) ∧ (∀ j, ix (σ 26 0) ≤ j → σ 30 j = 0 ∧ σ 31 j = 0)
section IXR
variable {σ : St}
theorem IX_own (hI : InvX σ) {i : Nat} (hi : i < ix (σ 13 0)) : ix (σ 14 i) < ix (σ 8 0) := hI.2.1 i hi
theorem IX_place (hI : InvX σ) (i : Nat) : ix (σ 15 i) < 64 := vp_lt (hI.1 15 i)
theorem IX_zone (hI : InvX σ) (i : Nat) : ix (σ 3 i) < 4 := vp_lt (hI.1 3 i)
theorem IX_at (hI : InvX σ) (i : Nat) : ix (σ 27 i) < 64 := vp_lt (hI.1 27 i)
theorem IX_lamps (hI : InvX σ) : ix (σ 13 0) ≤ 40 := (cnt (N := 40) (hI.1 13 0) (by decide)).2
theorem IX_villages (hI : InvX σ) : ix (σ 8 0) ≤ 5 := (cnt (N := 5) (hI.1 8 0) (by decide)).2
theorem IX_meters (hI : InvX σ) : ix (σ 26 0) ≤ 8 := (cnt (N := 8) (hI.1 26 0) (by decide)).2
theorem IX_sats (hI : InvX σ) : ix (σ 37 0) ≤ 10 := (cnt (N := 10) (hI.1 37 0) (by decide)).2
theorem IX_reads (hI : InvX σ) (m : Nat) : ix (σ 31 m) ≤ 10 := (cnt (N := 10) (hI.1 31 m) (by decide)).2
theorem IX_L (hI : InvX σ) (k : Nat) : xL σ k ≤ 64 := by
  unfold xL
  split
  · decide
  · decide
  · have := IX_villages hI; omega
  · have := IX_lamps hI; omega
  · have := IX_meters hI; omega
  · have := IX_sats hI; omega
  · rename_i m
    have := IX_reads hI m
    omega
end IXR
end
