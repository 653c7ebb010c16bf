noncomputable section
theorem sS_ne {σ : St} {k i c j : Nat} {v : Int32} (h : c = k → j ≠ i) : sS σ k i v c j = σ c j := by
  unfold sS
  by_cases e : c = k
  · subst e
    rw [sU_same]
    exact if_neg (h rfl)
  · rw [sU_ne e]
theorem sS_col {σ : St} {k i c : Nat} {v : Int32} (h : c ≠ k) : sS σ k i v c = σ c := by
  unfold sS
  rw [sU_ne h]
theorem sC_col {σ : St} {k c : Nat} {v : Int32} (h : c ≠ k) : sC σ k v c = σ c := by
  unfold sC
  rw [sU_ne h]
theorem sC_same (σ : St) (k i : Nat) (v : Int32) : sC σ k v k i = v := by unfold sC; rw [sU_same]
def okC (σ : St) (k i : Nat) : Prop := match k with
  | 19 => i < ix (σ 13 0)
  | 22 => i < ix (σ 13 0)
  | 23 => i < ix (σ 13 0)
  | 24 => i < ix (σ 13 0)
  | 11 => i < ix (σ 8 0)
  | 12 => i < ix (σ 8 0)
  | 30 => i < ix (σ 26 0)
  | 31 => i < ix (σ 26 0)
  | 8 => False
  | 13 => False
  | 14 => False
  | 26 => False
  | 37 => False
  | 38 => False
  | _ => True
theorem InvX_sS {σ : St} {k i : Nat} {v : Int32} (hI : InvX σ) (hcv : cOK k v) (ho : okC σ k i) : InvX (sS σ k i v) := by
  obtain ⟨h1, h2, h3, h4, h5, h6⟩ := hI
  have n8 : 8 ≠ k := fun e => by subst e; exact ho
  have n13 : 13 ≠ k := fun e => by subst e; exact ho
  have n14 : 14 ≠ k := fun e => by subst e; exact ho
  have n26 : 26 ≠ k := fun e => by subst e; exact ho
  have n37 : 37 ≠ k := fun e => by subst e; exact ho
  have n38 : 38 ≠ k := fun e => by subst e; exact ho
  refine ⟨Inv_sS h1 hcv, ?_, ?_, ?_, ?_, ?_⟩
  · rw [sS_col n13, sS_col n14, sS_col n8]; exact h2
  · rw [sS_col n37, sS_col n38]; exact h3
  · rw [sS_col n13]
    intro j hj
    have q : ∀ c, (c = 19 ∨ c = 22 ∨ c = 23 ∨ c = 24) → c = k → j ≠ i := fun c hc e => by
      subst e
      have : i < ix (σ 13 0) := by rcases hc with rfl | rfl | rfl | rfl <;> exact ho
      omega
    rw [sS_ne (q 19 (Or.inl rfl)), sS_ne (q 22 (Or.inr (Or.inl rfl))), sS_ne (q 23 (Or.inr (Or.inr (Or.inl rfl)))), sS_ne (q 24 (Or.inr (Or.inr (Or.inr rfl))))]
    exact h4 j hj
  · rw [sS_col n8]
    intro j hj
    have q : ∀ c, (c = 11 ∨ c = 12) → c = k → j ≠ i := fun c hc e => by
      subst e
      have : i < ix (σ 8 0) := by rcases hc with rfl | rfl <;> exact ho
      omega
    rw [sS_ne (q 11 (Or.inl rfl)), sS_ne (q 12 (Or.inr rfl))]
    exact h5 j hj
  · rw [sS_col n26]
    intro j hj
    have q : ∀ c, (c = 30 ∨ c = 31) → c = k → j ≠ i := fun c hc e => by
      subst e
      have : i < ix (σ 26 0) := by rcases hc with rfl | rfl <;> exact ho
      omega
    rw [sS_ne (q 30 (Or.inl rfl)), sS_ne (q 31 (Or.inr rfl))]
    exact h6 j hj
theorem InvX_sC {σ : St} {k : Nat} {v : Int32} (hI : InvX σ) (hc : cOK k v) (ho : k = 0 ∨ k = 1 ∨ k = 34 ∨ k = 35 ∨ k = 36 ∨ k = 41) : InvX (sC σ k v) := by
  obtain ⟨h1, h2, h3, h4, h5, h6⟩ := hI
  have q : ∀ c, c ≠ 0 → c ≠ 1 → c ≠ 34 → c ≠ 35 → c ≠ 36 → c ≠ 41 → c ≠ k := by omega
  refine ⟨Inv_sC h1 hc, ?_, ?_, ?_, ?_, ?_⟩
  · rw [sC_col (q 13 (by decide) (by decide) (by decide) (by decide) (by decide) (by decide)), sC_col (q 14 (by decide) (by decide) (by decide) (by decide) (by decide) (by decide)), sC_col (q 8 (by decide) (by decide) (by decide) (by decide) (by decide) (by decide))]; exact h2
  · rw [sC_col (q 37 (by decide) (by decide) (by decide) (by decide) (by decide) (by decide)), sC_col (q 38 (by decide) (by decide) (by decide) (by decide) (by decide) (by decide))]; exact h3
  · rw [sC_col (q 13 (by decide) (by decide) (by decide) (by decide) (by decide) (by decide)), sC_col (q 19 (by decide) (by decide) (by decide) (by decide) (by decide) (by decide)), sC_col (q 22 (by decide) (by decide) (by decide) (by decide) (by decide) (by decide)), sC_col (q 23 (by decide) (by decide) (by decide) (by decide) (by decide) (by decide)), sC_col (q 24 (by decide) (by decide) (by decide) (by decide) (by decide) (by decide))]; exact h4
  · rw [sC_col (q 8 (by decide) (by decide) (by decide) (by decide) (by decide) (by decide)), sC_col (q 11 (by decide) (by decide) (by decide) (by decide) (by decide) (by decide)), sC_col (q 12 (by decide) (by decide) (by decide) (by decide) (by decide) (by decide))]; exact h5
  · rw [sC_col (q 26 (by decide) (by decide) (by decide) (by decide) (by decide) (by decide)), sC_col (q 30 (by decide) (by decide) (by decide) (by decide) (by decide) (by decide)), sC_col (q 31 (by decide) (by decide) (by decide) (by decide) (by decide) (by decide))]; exact h6
theorem IX_nf {σ : St} (hI : InvX σ) : nextFine (σ 0 0) = σ 0 0 + 720 := by
  unfold nextFine
  rw [if_neg]
  intro e
  have h : vp_in (σ 0 0) 20001 := hI.1 0 0
  rw [e] at h
  exact h (Or.inl (by decide))
section PUTS
variable {K : KT} {mn own : String} {cc : ByteArray} {n : Nat} {ret : Option FieldType} {tb : List ExceptionTableEntry} {w0 : Cond} {rm : Room} {h0 : fH} {post : Option Value → fH → Prop} {px : String → fH → Prop}
variable {h : fH} {lv : LV} {st : List Value} {pc cells slots : Nat} {ca : Nat → Nat} {ρ : Nat → Nat → Nat} {μ : Nat → Nat → Int32} {cap : Nat → Nat} {σ : St}
theorem RXp_8_3 (hR : RX ca h ρ μ cap σ) {i : Nat} {v : Int32} (hi : i < 64) : RX ca (fU h (ρ 8 i) (.inr (5, (xPlace ρ σ i).set 3 (.int v)))) ρ μ cap (sS σ 2 i v) := by
  have e1 : xPlace ρ (sS σ 2 i v) i = (xPlace ρ σ i).set 3 (.int v) := by
    unfold xPlace
    rw [sS_same]
    rfl
  have x0 : xC ca ρ μ cap σ 8 i = some (.inr (5, xPlace ρ σ i)) := if_pos hi
  have x1 : xC ca ρ μ cap (sS σ 2 i v) 8 i = some (.inr (5, (xPlace ρ σ i).set 3 (.int v))) := by
    rw [← e1]
    exact if_pos hi
  refine hR.upd x0 x1 (fun k' i' q => ?_) (fun _ => rfl) rfl
  match k' with
  | 0 => exact rfl
  | 1 => exact rfl
  | 2 => exact rfl
  | 3 => exact rfl
  | 4 => exact rfl
  | 5 => exact rfl
  | 6 => exact rfl
  | 7 => exact rfl
  | 8 =>
    have e2 : xPlace ρ (sS σ 2 i v) i' = xPlace ρ σ i' := by
      unfold xPlace
      rw [sS_ne (σ := σ) (k := 2) (i := i) (c := 2) (j := i') (v := v) (fun _ z => q ⟨rfl, z⟩)]
      rfl
    show (if i' < 64 then some (Sum.inr (5, xPlace ρ (sS σ 2 i v) i')) else none) = (if i' < 64 then some (Sum.inr (5, xPlace ρ σ i')) else none)
    rw [e2]
  | 9 => exact rfl
  | 10 => exact rfl
  | 11 => exact rfl
  | 12 => exact rfl
  | 13 => exact rfl
  | 14 => exact rfl
  | 15 => exact rfl
  | _ + 16 => exact rfl
theorem JX_p8_3 (X : JX K mn own cc n ret tb w0 rm h0 post px) (hR : RX (kca K) h ρ μ cap σ) {iz : Nat} {i : Nat} {v : Int32} (hi : i < 64) (hz : v = 0 ∨ v = 1) (hl : Cond.fieldLink own iz "NightValley$Place" "ridge" "Z" ∈ GW) (d : decode cc pc = .ok (.putfield iz, 3)) (kk : ∀ h', RX (kca K) h' ρ μ cap (sS σ 2 i v) → J K h' lv st (pc + 3) cells slots) : J K h lv (.int v :: .ref (ρ 8 i) :: st) pc cells slots := by
  exact J_put X (C := RX4) (T := TX4) (N := 4) (ref := "NightValley$Place") (hR.place hi) rfl 3 (by decide) (show 3 < (xPlace ρ σ i).length from (by decide : 3 < 4)) in_X4 tyX4 tyX4_ok nmX4 rfl (nar01 hz) (fit01 hz) hl (fun _ z => z) d (kk _ (RXp_8_3 hR hi))
theorem RXq_e1 {i : Nat} {v : Int32} : xPlace ρ (sS σ 3 i v) i = (xPlace ρ σ i).set 2 (.ref (ρ 6 (ix v))) := by
  unfold xPlace
  rw [sS_same]
  rfl
theorem RXq_e2 {i j : Nat} {v : Int32} (q : j ≠ i) : xPlace ρ (sS σ 3 i v) j = xPlace ρ σ j := by
  unfold xPlace
  rw [sS_ne (σ := σ) (k := 3) (i := i) (c := 3) (j := j) (v := v) (fun _ => q)]
  rfl
theorem RXq_L' {σ' : St} (hc : ∀ c, c ≠ 3 → σ' c = σ c) (k : Nat) : xL σ' k = xL σ k := by
  unfold xL
  split <;> simp only [hc 8 (by decide), hc 13 (by decide), hc 26 (by decide), hc 37 (by decide), hc 31 (by decide)]
theorem RXq_g' {σ' : St} (hc : ∀ c, c ≠ 3 → σ' c = σ c) {k' i' : Nat} (h8 : k' ≠ 8) : xC ca ρ μ cap σ' k' i' = xC ca ρ μ cap σ k' i' := by
  have hL := RXq_L' hc
  have hD : ∀ k, xD ρ σ' k = xD ρ σ k := fun k => by
    unfold xD
    funext i
    rw [hL]
  have hF : ∀ z, xF σ' z = xF σ z := fun z => by
    unfold xF
    rw [hc 7 (by decide)]
  unfold xC
  split
  case h_9 => exact absurd rfl h8
  all_goals simp only [hF, xRoot, xList, xLabel, xZone, xVillage, xLamp, xMeter, xReading, xSat, hL, hD, hc 0 (by decide), hc 1 (by decide), hc 2 (by decide), hc 4 (by decide), hc 5 (by decide), hc 6 (by decide), hc 7 (by decide), hc 8 (by decide), hc 9 (by decide), hc 10 (by decide), hc 11 (by decide), hc 12 (by decide), hc 13 (by decide), hc 14 (by decide), hc 15 (by decide), hc 16 (by decide), hc 17 (by decide), hc 18 (by decide), hc 19 (by decide), hc 20 (by decide), hc 21 (by decide), hc 22 (by decide), hc 23 (by decide), hc 24 (by decide), hc 25 (by decide), hc 26 (by decide), hc 27 (by decide), hc 28 (by decide), hc 29 (by decide), hc 30 (by decide), hc 31 (by decide), hc 32 (by decide), hc 33 (by decide), hc 34 (by decide), hc 35 (by decide), hc 36 (by decide), hc 37 (by decide), hc 38 (by decide), hc 39 (by decide)]
theorem RXq_c {i : Nat} {v : Int32} : ∀ c, c ≠ 3 → sS σ 3 i v c = σ c := fun c h => sS_col h
theorem RXq_x1 {i : Nat} {v : Int32} (hi : i < 64) : xC ca ρ μ cap (sS σ 3 i v) 8 i = some (.inr (5, (xPlace ρ σ i).set 2 (.ref (ρ 6 (ix v))))) := by
  rw [← RXq_e1]
  exact if_pos hi
theorem RXq_x2 {i j : Nat} {v : Int32} (q : j ≠ i) : xC ca ρ μ cap (sS σ 3 i v) 8 j = xC ca ρ μ cap σ 8 j := by
  show (if j < 64 then some (Sum.inr (5, xPlace ρ (sS σ 3 i v) j)) else none) = (if j < 64 then some (Sum.inr (5, xPlace ρ σ j)) else none)
  rw [RXq_e2 q]
theorem RXq_L {i : Nat} {v : Int32} (k : Nat) : xL (sS σ 3 i v) k = xL σ k := rfl
theorem RXq_M {i : Nat} {v : Int32} : ix ((sS σ 3 i v) 26 0) = ix (σ 26 0) := rfl
theorem RXp_8_2 (hR : RX ca h ρ μ cap σ) {i : Nat} {v : Int32} (hi : i < 64) : RX ca (fU h (ρ 8 i) (.inr (5, (xPlace ρ σ i).set 2 (.ref (ρ 6 (ix v)))))) ρ μ cap (sS σ 3 i v) := by
  refine hR.upd (e0 := .inr (5, xPlace ρ σ i)) (if_pos hi) (RXq_x1 hi) (fun k' i' q => ?_) RXq_L RXq_M
  by_cases h8 : k' = 8
  · subst h8
    exact RXq_x2 (fun z => q ⟨rfl, z⟩)
  · exact RXq_g' RXq_c h8
theorem JX_p8_2 (X : JX K mn own cc n ret tb w0 rm h0 post px) (hR : RX (kca K) h ρ μ cap σ) {iz : Nat} {i : Nat} {v : Int32} (hi : i < 64) (hl : Cond.fieldLink own iz "NightValley$Place" "zone" "LNightValley$Zone;" ∈ GW) (d : decode cc pc = .ok (.putfield iz, 3)) (kk : ∀ h', RX (kca K) h' ρ μ cap (sS σ 3 i v) → J K h' lv st (pc + 3) cells slots) : J K h lv (.ref (ρ 6 (ix v)) :: .ref (ρ 8 i) :: st) pc cells slots := by
  exact J_put X (C := RX4) (T := TX4) (N := 4) (ref := "NightValley$Place") (hR.place hi) rfl 2 (by decide) (show 2 < (xPlace ρ σ i).length from (by decide : 2 < 4)) in_X4 tyX4 tyX4_ok nmX4 rfl rfl rfl hl (fun _ z => z) d (kk _ (RXp_8_2 hR hi))
theorem RXp_6_3 (hR : RX ca h ρ μ cap σ) {i : Nat} {v : Int32} (hi : i < 4) : RX ca (fU h (ρ 6 i) (.inr (10, (xZone ρ σ i).set 3 (.int v)))) ρ μ cap (sS σ 4 i v) := by
  have e1 : xZone ρ (sS σ 4 i v) i = (xZone ρ σ i).set 3 (.int v) := by
    unfold xZone
    rw [sS_same]
    rfl
  have x0 : xC ca ρ μ cap σ 6 i = some (.inr (10, xZone ρ σ i)) := if_pos hi
  have x1 : xC ca ρ μ cap (sS σ 4 i v) 6 i = some (.inr (10, (xZone ρ σ i).set 3 (.int v))) := by
    rw [← e1]
    exact if_pos hi
  refine hR.upd x0 x1 (fun k' i' q => ?_) (fun _ => rfl) rfl
  match k' with
  | 0 => exact rfl
  | 1 => exact rfl
  | 2 => exact rfl
  | 3 => exact rfl
  | 4 => exact rfl
  | 5 => exact rfl
  | 6 =>
    have e2 : xZone ρ (sS σ 4 i v) i' = xZone ρ σ i' := by
      unfold xZone
      rw [sS_ne (σ := σ) (k := 4) (i := i) (c := 4) (j := i') (v := v) (fun _ z => q ⟨rfl, z⟩)]
      rfl
    show (if i' < 4 then some (Sum.inr (10, xZone ρ (sS σ 4 i v) i')) else none) = (if i' < 4 then some (Sum.inr (10, xZone ρ σ i')) else none)
    rw [e2]
  | 7 => exact rfl
  | 8 => exact rfl
  | 9 => exact rfl
  | 10 => exact rfl
  | 11 => exact rfl
  | 12 => exact rfl
  | 13 => exact rfl
  | 14 => exact rfl
  | 15 => exact rfl
  | _ + 16 => exact rfl
theorem JX_p6_3 (X : JX K mn own cc n ret tb w0 rm h0 post px) (hR : RX (kca K) h ρ μ cap σ) {iz : Nat} {i : Nat} {v : Int32} (hi : i < 4) (hl : Cond.fieldLink own iz "NightValley$Zone" "curfew" "I" ∈ GW) (d : decode cc pc = .ok (.putfield iz, 3)) (kk : ∀ h', RX (kca K) h' ρ μ cap (sS σ 4 i v) → J K h' lv st (pc + 3) cells slots) : J K h lv (.int v :: .ref (ρ 6 i) :: st) pc cells slots := by
  exact J_put X (C := RX9) (T := TX9) (N := 6) (ref := "NightValley$Zone") (hR.zone hi) rfl 3 (by decide) (show 3 < (xZone ρ σ i).length from (by decide : 3 < 6)) in_X9 tyX9 tyX9_ok nmX9 rfl rfl rfl hl (fun _ z => z) d (kk _ (RXp_6_3 hR hi))
theorem RXp_6_4 (hR : RX ca h ρ μ cap σ) {i : Nat} {v : Int32} (hi : i < 4) : RX ca (fU h (ρ 6 i) (.inr (10, (xZone ρ σ i).set 4 (.int v)))) ρ μ cap (sS σ 5 i v) := by
  have e1 : xZone ρ (sS σ 5 i v) i = (xZone ρ σ i).set 4 (.int v) := by
    unfold xZone
    rw [sS_same]
    rfl
  have x0 : xC ca ρ μ cap σ 6 i = some (.inr (10, xZone ρ σ i)) := if_pos hi
  have x1 : xC ca ρ μ cap (sS σ 5 i v) 6 i = some (.inr (10, (xZone ρ σ i).set 4 (.int v))) := by
    rw [← e1]
    exact if_pos hi
  refine hR.upd x0 x1 (fun k' i' q => ?_) (fun _ => rfl) rfl
  match k' with
  | 0 => exact rfl
  | 1 => exact rfl
  | 2 => exact rfl
  | 3 => exact rfl
  | 4 => exact rfl
  | 5 => exact rfl
  | 6 =>
    have e2 : xZone ρ (sS σ 5 i v) i' = xZone ρ σ i' := by
      unfold xZone
      rw [sS_ne (σ := σ) (k := 5) (i := i) (c := 5) (j := i') (v := v) (fun _ z => q ⟨rfl, z⟩)]
      rfl
    show (if i' < 4 then some (Sum.inr (10, xZone ρ (sS σ 5 i v) i')) else none) = (if i' < 4 then some (Sum.inr (10, xZone ρ σ i')) else none)
    rw [e2]
  | 7 => exact rfl
  | 8 => exact rfl
  | 9 => exact rfl
  | 10 => exact rfl
  | 11 => exact rfl
  | 12 => exact rfl
  | 13 => exact rfl
  | 14 => exact rfl
  | 15 => exact rfl
  | _ + 16 => exact rfl
theorem JX_p6_4 (X : JX K mn own cc n ret tb w0 rm h0 post px) (hR : RX (kca K) h ρ μ cap σ) {iz : Nat} {i : Nat} {v : Int32} (hi : i < 4) (hl : Cond.fieldLink own iz "NightValley$Zone" "greatestColour" "I" ∈ GW) (d : decode cc pc = .ok (.putfield iz, 3)) (kk : ∀ h', RX (kca K) h' ρ μ cap (sS σ 5 i v) → J K h' lv st (pc + 3) cells slots) : J K h lv (.int v :: .ref (ρ 6 i) :: st) pc cells slots := by
  exact J_put X (C := RX9) (T := TX9) (N := 6) (ref := "NightValley$Zone") (hR.zone hi) rfl 4 (by decide) (show 4 < (xZone ρ σ i).length from (by decide : 4 < 6)) in_X9 tyX9 tyX9_ok nmX9 rfl rfl rfl hl (fun _ z => z) d (kk _ (RXp_6_4 hR hi))
theorem RXp_6_5 (hR : RX ca h ρ μ cap σ) {i : Nat} {v : Int32} (hi : i < 4) : RX ca (fU h (ρ 6 i) (.inr (10, (xZone ρ σ i).set 5 (.int v)))) ρ μ cap (sS σ 6 i v) := by
  have e1 : xZone ρ (sS σ 6 i v) i = (xZone ρ σ i).set 5 (.int v) := by
    unfold xZone
    rw [sS_same]
    rfl
  have x0 : xC ca ρ μ cap σ 6 i = some (.inr (10, xZone ρ σ i)) := if_pos hi
  have x1 : xC ca ρ μ cap (sS σ 6 i v) 6 i = some (.inr (10, (xZone ρ σ i).set 5 (.int v))) := by
    rw [← e1]
    exact if_pos hi
  refine hR.upd x0 x1 (fun k' i' q => ?_) (fun _ => rfl) rfl
  match k' with
  | 0 => exact rfl
  | 1 => exact rfl
  | 2 => exact rfl
  | 3 => exact rfl
  | 4 => exact rfl
  | 5 => exact rfl
  | 6 =>
    have e2 : xZone ρ (sS σ 6 i v) i' = xZone ρ σ i' := by
      unfold xZone
      rw [sS_ne (σ := σ) (k := 6) (i := i) (c := 6) (j := i') (v := v) (fun _ z => q ⟨rfl, z⟩)]
      rfl
    show (if i' < 4 then some (Sum.inr (10, xZone ρ (sS σ 6 i v) i')) else none) = (if i' < 4 then some (Sum.inr (10, xZone ρ σ i')) else none)
    rw [e2]
  | 7 => exact rfl
  | 8 => exact rfl
  | 9 => exact rfl
  | 10 => exact rfl
  | 11 => exact rfl
  | 12 => exact rfl
  | 13 => exact rfl
  | 14 => exact rfl
  | 15 => exact rfl
  | _ + 16 => exact rfl
theorem JX_p6_5 (X : JX K mn own cc n ret tb w0 rm h0 post px) (hR : RX (kca K) h ρ μ cap σ) {iz : Nat} {i : Nat} {v : Int32} (hi : i < 4) (hl : Cond.fieldLink own iz "NightValley$Zone" "leastShield" "I" ∈ GW) (d : decode cc pc = .ok (.putfield iz, 3)) (kk : ∀ h', RX (kca K) h' ρ μ cap (sS σ 6 i v) → J K h' lv st (pc + 3) cells slots) : J K h lv (.int v :: .ref (ρ 6 i) :: st) pc cells slots := by
  exact J_put X (C := RX9) (T := TX9) (N := 6) (ref := "NightValley$Zone") (hR.zone hi) rfl 5 (by decide) (show 5 < (xZone ρ σ i).length from (by decide : 5 < 6)) in_X9 tyX9 tyX9_ok nmX9 rfl rfl rfl hl (fun _ z => z) d (kk _ (RXp_6_5 hR hi))
theorem RXp_10_4 (hR : RX ca h ρ μ cap σ) {i : Nat} {v : Int32} (hi : i < ix (σ 13 0)) : RX ca (fU h (ρ 10 i) (.inr (3, (xLamp ρ σ i).set 4 (.int v)))) ρ μ cap (sS σ 18 i v) := by
  have e1 : xLamp ρ (sS σ 18 i v) i = (xLamp ρ σ i).set 4 (.int v) := by
    unfold xLamp
    rw [sS_same]
    rfl
  have x0 : xC ca ρ μ cap σ 10 i = some (.inr (3, xLamp ρ σ i)) := if_pos hi
  have x1 : xC ca ρ μ cap (sS σ 18 i v) 10 i = some (.inr (3, (xLamp ρ σ i).set 4 (.int v))) := by
    rw [← e1]
    exact if_pos hi
  refine hR.upd x0 x1 (fun k' i' q => ?_) (fun _ => rfl) rfl
  match k' with
  | 0 => exact rfl
  | 1 => exact rfl
  | 2 => exact rfl
  | 3 => exact rfl
  | 4 => exact rfl
  | 5 => exact rfl
  | 6 => exact rfl
  | 7 => exact rfl
  | 8 => exact rfl
  | 9 => exact rfl
  | 10 =>
    have e2 : xLamp ρ (sS σ 18 i v) i' = xLamp ρ σ i' := by
      unfold xLamp
      rw [sS_ne (σ := σ) (k := 18) (i := i) (c := 18) (j := i') (v := v) (fun _ z => q ⟨rfl, z⟩)]
      rfl
    show (if i' < ix (σ 13 0) then some (Sum.inr (3, xLamp ρ (sS σ 18 i v) i')) else none) = (if i' < ix (σ 13 0) then some (Sum.inr (3, xLamp ρ σ i')) else none)
    rw [e2]
  | 11 => exact rfl
  | 12 => exact rfl
  | 13 => exact rfl
  | 14 => exact rfl
  | 15 => exact rfl
  | _ + 16 => exact rfl
theorem JX_p10_4 (X : JX K mn own cc n ret tb w0 rm h0 post px) (hR : RX (kca K) h ρ μ cap σ) {iz : Nat} {i : Nat} {v : Int32} (hi : i < ix (σ 13 0)) (hl : Cond.fieldLink own iz "NightValley$Lamp" "shield" "I" ∈ GW) (d : decode cc pc = .ok (.putfield iz, 3)) (kk : ∀ h', RX (kca K) h' ρ μ cap (sS σ 18 i v) → J K h' lv st (pc + 3) cells slots) : J K h lv (.int v :: .ref (ρ 10 i) :: st) pc cells slots := by
  exact J_put X (C := RX2) (T := TX2) (N := 12) (ref := "NightValley$Lamp") (hR.lamp hi) rfl 4 (by decide) (show 4 < (xLamp ρ σ i).length from (by decide : 4 < 12)) in_X2 tyX2 tyX2_ok nmX2 rfl rfl rfl hl (fun _ z => z) d (kk _ (RXp_10_4 hR hi))
theorem RXp_10_5 (hR : RX ca h ρ μ cap σ) {i : Nat} {v : Int32} (hi : i < ix (σ 13 0)) : RX ca (fU h (ρ 10 i) (.inr (3, (xLamp ρ σ i).set 5 (.int v)))) ρ μ cap (sS σ 19 i v) := by
  have e1 : xLamp ρ (sS σ 19 i v) i = (xLamp ρ σ i).set 5 (.int v) := by
    unfold xLamp
    rw [sS_same]
    rfl
  have x0 : xC ca ρ μ cap σ 10 i = some (.inr (3, xLamp ρ σ i)) := if_pos hi
  have x1 : xC ca ρ μ cap (sS σ 19 i v) 10 i = some (.inr (3, (xLamp ρ σ i).set 5 (.int v))) := by
    rw [← e1]
    exact if_pos hi
  refine hR.upd x0 x1 (fun k' i' q => ?_) (fun _ => rfl) rfl
  match k' with
  | 0 => exact rfl
  | 1 => exact rfl
  | 2 => exact rfl
  | 3 => exact rfl
  | 4 => exact rfl
  | 5 => exact rfl
  | 6 => exact rfl
  | 7 => exact rfl
  | 8 => exact rfl
  | 9 => exact rfl
  | 10 =>
    have e2 : xLamp ρ (sS σ 19 i v) i' = xLamp ρ σ i' := by
      unfold xLamp
      rw [sS_ne (σ := σ) (k := 19) (i := i) (c := 19) (j := i') (v := v) (fun _ z => q ⟨rfl, z⟩)]
      rfl
    show (if i' < ix (σ 13 0) then some (Sum.inr (3, xLamp ρ (sS σ 19 i v) i')) else none) = (if i' < ix (σ 13 0) then some (Sum.inr (3, xLamp ρ σ i')) else none)
    rw [e2]
  | 11 => exact rfl
  | 12 => exact rfl
  | 13 => exact rfl
  | 14 => exact rfl
  | 15 => exact rfl
  | _ + 16 => exact rfl
theorem JX_p10_5 (X : JX K mn own cc n ret tb w0 rm h0 post px) (hR : RX (kca K) h ρ μ cap σ) {iz : Nat} {i : Nat} {v : Int32} (hi : i < ix (σ 13 0)) (hl : Cond.fieldLink own iz "NightValley$Lamp" "dim" "I" ∈ GW) (d : decode cc pc = .ok (.putfield iz, 3)) (kk : ∀ h', RX (kca K) h' ρ μ cap (sS σ 19 i v) → J K h' lv st (pc + 3) cells slots) : J K h lv (.int v :: .ref (ρ 10 i) :: st) pc cells slots := by
  exact J_put X (C := RX2) (T := TX2) (N := 12) (ref := "NightValley$Lamp") (hR.lamp hi) rfl 5 (by decide) (show 5 < (xLamp ρ σ i).length from (by decide : 5 < 12)) in_X2 tyX2 tyX2_ok nmX2 rfl rfl rfl hl (fun _ z => z) d (kk _ (RXp_10_5 hR hi))
theorem RXp_10_6 (hR : RX ca h ρ μ cap σ) {i : Nat} {v : Int32} (hi : i < ix (σ 13 0)) : RX ca (fU h (ρ 10 i) (.inr (3, (xLamp ρ σ i).set 6 (.int v)))) ρ μ cap (sS σ 20 i v) := by
  have e1 : xLamp ρ (sS σ 20 i v) i = (xLamp ρ σ i).set 6 (.int v) := by
    unfold xLamp
    rw [sS_same]
    rfl
  have x0 : xC ca ρ μ cap σ 10 i = some (.inr (3, xLamp ρ σ i)) := if_pos hi
  have x1 : xC ca ρ μ cap (sS σ 20 i v) 10 i = some (.inr (3, (xLamp ρ σ i).set 6 (.int v))) := by
    rw [← e1]
    exact if_pos hi
  refine hR.upd x0 x1 (fun k' i' q => ?_) (fun _ => rfl) rfl
  match k' with
  | 0 => exact rfl
  | 1 => exact rfl
  | 2 => exact rfl
  | 3 => exact rfl
  | 4 => exact rfl
  | 5 => exact rfl
  | 6 => exact rfl
  | 7 => exact rfl
  | 8 => exact rfl
  | 9 => exact rfl
  | 10 =>
    have e2 : xLamp ρ (sS σ 20 i v) i' = xLamp ρ σ i' := by
      unfold xLamp
      rw [sS_ne (σ := σ) (k := 20) (i := i) (c := 20) (j := i') (v := v) (fun _ z => q ⟨rfl, z⟩)]
      rfl
    show (if i' < ix (σ 13 0) then some (Sum.inr (3, xLamp ρ (sS σ 20 i v) i')) else none) = (if i' < ix (σ 13 0) then some (Sum.inr (3, xLamp ρ σ i')) else none)
    rw [e2]
  | 11 => exact rfl
  | 12 => exact rfl
  | 13 => exact rfl
  | 14 => exact rfl
  | 15 => exact rfl
  | _ + 16 => exact rfl
theorem JX_p10_6 (X : JX K mn own cc n ret tb w0 rm h0 post px) (hR : RX (kca K) h ρ μ cap σ) {iz : Nat} {i : Nat} {v : Int32} (hi : i < ix (σ 13 0)) (hl : Cond.fieldLink own iz "NightValley$Lamp" "from" "I" ∈ GW) (d : decode cc pc = .ok (.putfield iz, 3)) (kk : ∀ h', RX (kca K) h' ρ μ cap (sS σ 20 i v) → J K h' lv st (pc + 3) cells slots) : J K h lv (.int v :: .ref (ρ 10 i) :: st) pc cells slots := by
  exact J_put X (C := RX2) (T := TX2) (N := 12) (ref := "NightValley$Lamp") (hR.lamp hi) rfl 6 (by decide) (show 6 < (xLamp ρ σ i).length from (by decide : 6 < 12)) in_X2 tyX2 tyX2_ok nmX2 rfl rfl rfl hl (fun _ z => z) d (kk _ (RXp_10_6 hR hi))
theorem RXp_10_7 (hR : RX ca h ρ μ cap σ) {i : Nat} {v : Int32} (hi : i < ix (σ 13 0)) : RX ca (fU h (ρ 10 i) (.inr (3, (xLamp ρ σ i).set 7 (.int v)))) ρ μ cap (sS σ 21 i v) := by
  have e1 : xLamp ρ (sS σ 21 i v) i = (xLamp ρ σ i).set 7 (.int v) := by
    unfold xLamp
    rw [sS_same]
    rfl
  have x0 : xC ca ρ μ cap σ 10 i = some (.inr (3, xLamp ρ σ i)) := if_pos hi
  have x1 : xC ca ρ μ cap (sS σ 21 i v) 10 i = some (.inr (3, (xLamp ρ σ i).set 7 (.int v))) := by
    rw [← e1]
    exact if_pos hi
  refine hR.upd x0 x1 (fun k' i' q => ?_) (fun _ => rfl) rfl
  match k' with
  | 0 => exact rfl
  | 1 => exact rfl
  | 2 => exact rfl
  | 3 => exact rfl
  | 4 => exact rfl
  | 5 => exact rfl
  | 6 => exact rfl
  | 7 => exact rfl
  | 8 => exact rfl
  | 9 => exact rfl
  | 10 =>
    have e2 : xLamp ρ (sS σ 21 i v) i' = xLamp ρ σ i' := by
      unfold xLamp
      rw [sS_ne (σ := σ) (k := 21) (i := i) (c := 21) (j := i') (v := v) (fun _ z => q ⟨rfl, z⟩)]
      rfl
    show (if i' < ix (σ 13 0) then some (Sum.inr (3, xLamp ρ (sS σ 21 i v) i')) else none) = (if i' < ix (σ 13 0) then some (Sum.inr (3, xLamp ρ σ i')) else none)
    rw [e2]
  | 11 => exact rfl
  | 12 => exact rfl
  | 13 => exact rfl
  | 14 => exact rfl
  | 15 => exact rfl
  | _ + 16 => exact rfl
theorem JX_p10_7 (X : JX K mn own cc n ret tb w0 rm h0 post px) (hR : RX (kca K) h ρ μ cap σ) {iz : Nat} {i : Nat} {v : Int32} (hi : i < ix (σ 13 0)) (hl : Cond.fieldLink own iz "NightValley$Lamp" "to" "I" ∈ GW) (d : decode cc pc = .ok (.putfield iz, 3)) (kk : ∀ h', RX (kca K) h' ρ μ cap (sS σ 21 i v) → J K h' lv st (pc + 3) cells slots) : J K h lv (.int v :: .ref (ρ 10 i) :: st) pc cells slots := by
  exact J_put X (C := RX2) (T := TX2) (N := 12) (ref := "NightValley$Lamp") (hR.lamp hi) rfl 7 (by decide) (show 7 < (xLamp ρ σ i).length from (by decide : 7 < 12)) in_X2 tyX2 tyX2_ok nmX2 rfl rfl rfl hl (fun _ z => z) d (kk _ (RXp_10_7 hR hi))
theorem RXp_10_8 (hR : RX ca h ρ μ cap σ) {i : Nat} {v : Int32} (hi : i < ix (σ 13 0)) : RX ca (fU h (ρ 10 i) (.inr (3, (xLamp ρ σ i).set 8 (.int v)))) ρ μ cap (sS σ 22 i v) := by
  have e1 : xLamp ρ (sS σ 22 i v) i = (xLamp ρ σ i).set 8 (.int v) := by
    unfold xLamp
    rw [sS_same]
    rfl
  have x0 : xC ca ρ μ cap σ 10 i = some (.inr (3, xLamp ρ σ i)) := if_pos hi
  have x1 : xC ca ρ μ cap (sS σ 22 i v) 10 i = some (.inr (3, (xLamp ρ σ i).set 8 (.int v))) := by
    rw [← e1]
    exact if_pos hi
  refine hR.upd x0 x1 (fun k' i' q => ?_) (fun _ => rfl) rfl
  match k' with
  | 0 => exact rfl
  | 1 => exact rfl
  | 2 => exact rfl
  | 3 => exact rfl
  | 4 => exact rfl
  | 5 => exact rfl
  | 6 => exact rfl
  | 7 => exact rfl
  | 8 => exact rfl
  | 9 => exact rfl
  | 10 =>
    have e2 : xLamp ρ (sS σ 22 i v) i' = xLamp ρ σ i' := by
      unfold xLamp
      rw [sS_ne (σ := σ) (k := 22) (i := i) (c := 22) (j := i') (v := v) (fun _ z => q ⟨rfl, z⟩)]
      rfl
    show (if i' < ix (σ 13 0) then some (Sum.inr (3, xLamp ρ (sS σ 22 i v) i')) else none) = (if i' < ix (σ 13 0) then some (Sum.inr (3, xLamp ρ σ i')) else none)
    rw [e2]
  | 11 => exact rfl
  | 12 => exact rfl
  | 13 => exact rfl
  | 14 => exact rfl
  | 15 => exact rfl
  | _ + 16 => exact rfl
theorem JX_p10_8 (X : JX K mn own cc n ret tb w0 rm h0 post px) (hR : RX (kca K) h ρ μ cap σ) {iz : Nat} {i : Nat} {v : Int32} (hi : i < ix (σ 13 0)) (hz : v = 0 ∨ v = 1) (hl : Cond.fieldLink own iz "NightValley$Lamp" "exempt" "Z" ∈ GW) (d : decode cc pc = .ok (.putfield iz, 3)) (kk : ∀ h', RX (kca K) h' ρ μ cap (sS σ 22 i v) → J K h' lv st (pc + 3) cells slots) : J K h lv (.int v :: .ref (ρ 10 i) :: st) pc cells slots := by
  exact J_put X (C := RX2) (T := TX2) (N := 12) (ref := "NightValley$Lamp") (hR.lamp hi) rfl 8 (by decide) (show 8 < (xLamp ρ σ i).length from (by decide : 8 < 12)) in_X2 tyX2 tyX2_ok nmX2 rfl (nar01 hz) (fit01 hz) hl (fun _ z => z) d (kk _ (RXp_10_8 hR hi))
theorem RXp_10_9 (hR : RX ca h ρ μ cap σ) {i : Nat} {v : Int32} (hi : i < ix (σ 13 0)) : RX ca (fU h (ρ 10 i) (.inr (3, (xLamp ρ σ i).set 9 (.int v)))) ρ μ cap (sS σ 23 i v) := by
  have e1 : xLamp ρ (sS σ 23 i v) i = (xLamp ρ σ i).set 9 (.int v) := by
    unfold xLamp
    rw [sS_same]
    rfl
  have x0 : xC ca ρ μ cap σ 10 i = some (.inr (3, xLamp ρ σ i)) := if_pos hi
  have x1 : xC ca ρ μ cap (sS σ 23 i v) 10 i = some (.inr (3, (xLamp ρ σ i).set 9 (.int v))) := by
    rw [← e1]
    exact if_pos hi
  refine hR.upd x0 x1 (fun k' i' q => ?_) (fun _ => rfl) rfl
  match k' with
  | 0 => exact rfl
  | 1 => exact rfl
  | 2 => exact rfl
  | 3 => exact rfl
  | 4 => exact rfl
  | 5 => exact rfl
  | 6 => exact rfl
  | 7 => exact rfl
  | 8 => exact rfl
  | 9 => exact rfl
  | 10 =>
    have e2 : xLamp ρ (sS σ 23 i v) i' = xLamp ρ σ i' := by
      unfold xLamp
      rw [sS_ne (σ := σ) (k := 23) (i := i) (c := 23) (j := i') (v := v) (fun _ z => q ⟨rfl, z⟩)]
      rfl
    show (if i' < ix (σ 13 0) then some (Sum.inr (3, xLamp ρ (sS σ 23 i v) i')) else none) = (if i' < ix (σ 13 0) then some (Sum.inr (3, xLamp ρ σ i')) else none)
    rw [e2]
  | 11 => exact rfl
  | 12 => exact rfl
  | 13 => exact rfl
  | 14 => exact rfl
  | 15 => exact rfl
  | _ + 16 => exact rfl
theorem JX_p10_9 (X : JX K mn own cc n ret tb w0 rm h0 post px) (hR : RX (kca K) h ρ μ cap σ) {iz : Nat} {i : Nat} {v : Int32} (hi : i < ix (σ 13 0)) (hl : Cond.fieldLink own iz "NightValley$Lamp" "age" "I" ∈ GW) (d : decode cc pc = .ok (.putfield iz, 3)) (kk : ∀ h', RX (kca K) h' ρ μ cap (sS σ 23 i v) → J K h' lv st (pc + 3) cells slots) : J K h lv (.int v :: .ref (ρ 10 i) :: st) pc cells slots := by
  exact J_put X (C := RX2) (T := TX2) (N := 12) (ref := "NightValley$Lamp") (hR.lamp hi) rfl 9 (by decide) (show 9 < (xLamp ρ σ i).length from (by decide : 9 < 12)) in_X2 tyX2 tyX2_ok nmX2 rfl rfl rfl hl (fun _ z => z) d (kk _ (RXp_10_9 hR hi))
theorem RXp_10_10 (hR : RX ca h ρ μ cap σ) {i : Nat} {v : Int32} (hi : i < ix (σ 13 0)) : RX ca (fU h (ρ 10 i) (.inr (3, (xLamp ρ σ i).set 10 (.int v)))) ρ μ cap (sS σ 24 i v) := by
  have e1 : xLamp ρ (sS σ 24 i v) i = (xLamp ρ σ i).set 10 (.int v) := by
    unfold xLamp
    rw [sS_same]
    rfl
  have x0 : xC ca ρ μ cap σ 10 i = some (.inr (3, xLamp ρ σ i)) := if_pos hi
  have x1 : xC ca ρ μ cap (sS σ 24 i v) 10 i = some (.inr (3, (xLamp ρ σ i).set 10 (.int v))) := by
    rw [← e1]
    exact if_pos hi
  refine hR.upd x0 x1 (fun k' i' q => ?_) (fun _ => rfl) rfl
  match k' with
  | 0 => exact rfl
  | 1 => exact rfl
  | 2 => exact rfl
  | 3 => exact rfl
  | 4 => exact rfl
  | 5 => exact rfl
  | 6 => exact rfl
  | 7 => exact rfl
  | 8 => exact rfl
  | 9 => exact rfl
  | 10 =>
    have e2 : xLamp ρ (sS σ 24 i v) i' = xLamp ρ σ i' := by
      unfold xLamp
      rw [sS_ne (σ := σ) (k := 24) (i := i) (c := 24) (j := i') (v := v) (fun _ z => q ⟨rfl, z⟩)]
      rfl
    show (if i' < ix (σ 13 0) then some (Sum.inr (3, xLamp ρ (sS σ 24 i v) i')) else none) = (if i' < ix (σ 13 0) then some (Sum.inr (3, xLamp ρ σ i')) else none)
    rw [e2]
  | 11 => exact rfl
  | 12 => exact rfl
  | 13 => exact rfl
  | 14 => exact rfl
  | 15 => exact rfl
  | _ + 16 => exact rfl
theorem JX_p10_10 (X : JX K mn own cc n ret tb w0 rm h0 post px) (hR : RX (kca K) h ρ μ cap σ) {iz : Nat} {i : Nat} {v : Int32} (hi : i < ix (σ 13 0)) (hl : Cond.fieldLink own iz "NightValley$Lamp" "boundEnd" "I" ∈ GW) (d : decode cc pc = .ok (.putfield iz, 3)) (kk : ∀ h', RX (kca K) h' ρ μ cap (sS σ 24 i v) → J K h' lv st (pc + 3) cells slots) : J K h lv (.int v :: .ref (ρ 10 i) :: st) pc cells slots := by
  exact J_put X (C := RX2) (T := TX2) (N := 12) (ref := "NightValley$Lamp") (hR.lamp hi) rfl 10 (by decide) (show 10 < (xLamp ρ σ i).length from (by decide : 10 < 12)) in_X2 tyX2 tyX2_ok nmX2 rfl rfl rfl hl (fun _ z => z) d (kk _ (RXp_10_10 hR hi))
theorem RXp_10_11 (hR : RX ca h ρ μ cap σ) {i : Nat} {v : Int32} (hi : i < ix (σ 13 0)) : RX ca (fU h (ρ 10 i) (.inr (3, (xLamp ρ σ i).set 11 (.int (nextFine v))))) ρ μ cap (sS σ 25 i v) := by
  have e1 : xLamp ρ (sS σ 25 i v) i = (xLamp ρ σ i).set 11 (.int (nextFine v)) := by
    unfold xLamp
    rw [sS_same]
    rfl
  have x0 : xC ca ρ μ cap σ 10 i = some (.inr (3, xLamp ρ σ i)) := if_pos hi
  have x1 : xC ca ρ μ cap (sS σ 25 i v) 10 i = some (.inr (3, (xLamp ρ σ i).set 11 (.int (nextFine v)))) := by
    rw [← e1]
    exact if_pos hi
  refine hR.upd x0 x1 (fun k' i' q => ?_) (fun _ => rfl) rfl
  match k' with
  | 0 => exact rfl
  | 1 => exact rfl
  | 2 => exact rfl
  | 3 => exact rfl
  | 4 => exact rfl
  | 5 => exact rfl
  | 6 => exact rfl
  | 7 => exact rfl
  | 8 => exact rfl
  | 9 => exact rfl
  | 10 =>
    have e2 : xLamp ρ (sS σ 25 i v) i' = xLamp ρ σ i' := by
      unfold xLamp
      rw [sS_ne (σ := σ) (k := 25) (i := i) (c := 25) (j := i') (v := v) (fun _ z => q ⟨rfl, z⟩)]
      rfl
    show (if i' < ix (σ 13 0) then some (Sum.inr (3, xLamp ρ (sS σ 25 i v) i')) else none) = (if i' < ix (σ 13 0) then some (Sum.inr (3, xLamp ρ σ i')) else none)
    rw [e2]
  | 11 => exact rfl
  | 12 => exact rfl
  | 13 => exact rfl
  | 14 => exact rfl
  | 15 => exact rfl
  | _ + 16 => exact rfl
theorem JX_p10_11 (X : JX K mn own cc n ret tb w0 rm h0 post px) (hR : RX (kca K) h ρ μ cap σ) {iz : Nat} {i : Nat} {v : Int32} (hi : i < ix (σ 13 0)) {w : Int32} (hw : nextFine v = w) (hl : Cond.fieldLink own iz "NightValley$Lamp" "nextFine" "I" ∈ GW) (d : decode cc pc = .ok (.putfield iz, 3)) (kk : ∀ h', RX (kca K) h' ρ μ cap (sS σ 25 i v) → J K h' lv st (pc + 3) cells slots) : J K h lv (.int w :: .ref (ρ 10 i) :: st) pc cells slots := by
  subst hw
  exact J_put X (C := RX2) (T := TX2) (N := 12) (ref := "NightValley$Lamp") (hR.lamp hi) rfl 11 (by decide) (show 11 < (xLamp ρ σ i).length from (by decide : 11 < 12)) in_X2 tyX2 tyX2_ok nmX2 rfl rfl rfl hl (fun _ z => z) d (kk _ (RXp_10_11 hR hi))
theorem RXp_9_1 (hR : RX ca h ρ μ cap σ) {i : Nat} {v : Int32} (hi : i < ix (σ 8 0)) : RX ca (fU h (ρ 9 i) (.inr (8, (xVillage σ i).set 1 (.int v)))) ρ μ cap (sS σ 10 i v) := by
  have e1 : xVillage (sS σ 10 i v) i = (xVillage σ i).set 1 (.int v) := by
    unfold xVillage
    rw [sS_same]
    rfl
  have x0 : xC ca ρ μ cap σ 9 i = some (.inr (8, xVillage σ i)) := if_pos hi
  have x1 : xC ca ρ μ cap (sS σ 10 i v) 9 i = some (.inr (8, (xVillage σ i).set 1 (.int v))) := by
    rw [← e1]
    exact if_pos hi
  refine hR.upd x0 x1 (fun k' i' q => ?_) (fun _ => rfl) rfl
  match k' with
  | 0 => exact rfl
  | 1 => exact rfl
  | 2 => exact rfl
  | 3 => exact rfl
  | 4 => exact rfl
  | 5 => exact rfl
  | 6 => exact rfl
  | 7 => exact rfl
  | 8 => exact rfl
  | 9 =>
    have e2 : xVillage (sS σ 10 i v) i' = xVillage σ i' := by
      unfold xVillage
      rw [sS_ne (σ := σ) (k := 10) (i := i) (c := 10) (j := i') (v := v) (fun _ z => q ⟨rfl, z⟩)]
      rfl
    show (if i' < ix (σ 8 0) then some (Sum.inr (8, xVillage (sS σ 10 i v) i')) else none) = (if i' < ix (σ 8 0) then some (Sum.inr (8, xVillage σ i')) else none)
    rw [e2]
  | 10 => exact rfl
  | 11 => exact rfl
  | 12 => exact rfl
  | 13 => exact rfl
  | 14 => exact rfl
  | 15 => exact rfl
  | _ + 16 => exact rfl
theorem JX_p9_1 (X : JX K mn own cc n ret tb w0 rm h0 post px) (hR : RX (kca K) h ρ μ cap σ) {iz : Nat} {i : Nat} {v : Int32} (hi : i < ix (σ 8 0)) (hl : Cond.fieldLink own iz "NightValley$Village" "coins" "I" ∈ GW) (d : decode cc pc = .ok (.putfield iz, 3)) (kk : ∀ h', RX (kca K) h' ρ μ cap (sS σ 10 i v) → J K h' lv st (pc + 3) cells slots) : J K h lv (.int v :: .ref (ρ 9 i) :: st) pc cells slots := by
  exact J_put X (C := RX7) (T := TX7) (N := 5) (ref := "NightValley$Village") (hR.village hi) rfl 1 (by decide) (show 1 < (xVillage σ i).length from (by decide : 1 < 5)) in_X7 tyX7 tyX7_ok nmX7 rfl rfl rfl hl (fun _ z => z) d (kk _ (RXp_9_1 hR hi))
theorem RXp_9_2 (hR : RX ca h ρ μ cap σ) {i : Nat} {v : Int32} (hi : i < ix (σ 8 0)) : RX ca (fU h (ρ 9 i) (.inr (8, (xVillage σ i).set 2 (.int v)))) ρ μ cap (sS σ 11 i v) := by
  have e1 : xVillage (sS σ 11 i v) i = (xVillage σ i).set 2 (.int v) := by
    unfold xVillage
    rw [sS_same]
    rfl
  have x0 : xC ca ρ μ cap σ 9 i = some (.inr (8, xVillage σ i)) := if_pos hi
  have x1 : xC ca ρ μ cap (sS σ 11 i v) 9 i = some (.inr (8, (xVillage σ i).set 2 (.int v))) := by
    rw [← e1]
    exact if_pos hi
  refine hR.upd x0 x1 (fun k' i' q => ?_) (fun _ => rfl) rfl
  match k' with
  | 0 => exact rfl
  | 1 => exact rfl
  | 2 => exact rfl
  | 3 => exact rfl
  | 4 => exact rfl
  | 5 => exact rfl
  | 6 => exact rfl
  | 7 => exact rfl
  | 8 => exact rfl
  | 9 =>
    have e2 : xVillage (sS σ 11 i v) i' = xVillage σ i' := by
      unfold xVillage
      rw [sS_ne (σ := σ) (k := 11) (i := i) (c := 11) (j := i') (v := v) (fun _ z => q ⟨rfl, z⟩)]
      rfl
    show (if i' < ix (σ 8 0) then some (Sum.inr (8, xVillage (sS σ 11 i v) i')) else none) = (if i' < ix (σ 8 0) then some (Sum.inr (8, xVillage σ i')) else none)
    rw [e2]
  | 10 => exact rfl
  | 11 => exact rfl
  | 12 => exact rfl
  | 13 => exact rfl
  | 14 => exact rfl
  | 15 => exact rfl
  | _ + 16 => exact rfl
theorem JX_p9_2 (X : JX K mn own cc n ret tb w0 rm h0 post px) (hR : RX (kca K) h ρ μ cap σ) {iz : Nat} {i : Nat} {v : Int32} (hi : i < ix (σ 8 0)) (hl : Cond.fieldLink own iz "NightValley$Village" "fined" "I" ∈ GW) (d : decode cc pc = .ok (.putfield iz, 3)) (kk : ∀ h', RX (kca K) h' ρ μ cap (sS σ 11 i v) → J K h' lv st (pc + 3) cells slots) : J K h lv (.int v :: .ref (ρ 9 i) :: st) pc cells slots := by
  exact J_put X (C := RX7) (T := TX7) (N := 5) (ref := "NightValley$Village") (hR.village hi) rfl 2 (by decide) (show 2 < (xVillage σ i).length from (by decide : 2 < 5)) in_X7 tyX7 tyX7_ok nmX7 rfl rfl rfl hl (fun _ z => z) d (kk _ (RXp_9_2 hR hi))
theorem RXp_9_4 (hR : RX ca h ρ μ cap σ) {i : Nat} {v : Int32} (hi : i < ix (σ 8 0)) : RX ca (fU h (ρ 9 i) (.inr (8, (xVillage σ i).set 4 (.int v)))) ρ μ cap (sS σ 12 i v) := by
  have e1 : xVillage (sS σ 12 i v) i = (xVillage σ i).set 4 (.int v) := by
    unfold xVillage
    rw [sS_same]
    rfl
  have x0 : xC ca ρ μ cap σ 9 i = some (.inr (8, xVillage σ i)) := if_pos hi
  have x1 : xC ca ρ μ cap (sS σ 12 i v) 9 i = some (.inr (8, (xVillage σ i).set 4 (.int v))) := by
    rw [← e1]
    exact if_pos hi
  refine hR.upd x0 x1 (fun k' i' q => ?_) (fun _ => rfl) rfl
  match k' with
  | 0 => exact rfl
  | 1 => exact rfl
  | 2 => exact rfl
  | 3 => exact rfl
  | 4 => exact rfl
  | 5 => exact rfl
  | 6 => exact rfl
  | 7 => exact rfl
  | 8 => exact rfl
  | 9 =>
    have e2 : xVillage (sS σ 12 i v) i' = xVillage σ i' := by
      unfold xVillage
      rw [sS_ne (σ := σ) (k := 12) (i := i) (c := 12) (j := i') (v := v) (fun _ z => q ⟨rfl, z⟩)]
      rfl
    show (if i' < ix (σ 8 0) then some (Sum.inr (8, xVillage (sS σ 12 i v) i')) else none) = (if i' < ix (σ 8 0) then some (Sum.inr (8, xVillage σ i')) else none)
    rw [e2]
  | 10 => exact rfl
  | 11 => exact rfl
  | 12 => exact rfl
  | 13 => exact rfl
  | 14 => exact rfl
  | 15 => exact rfl
  | _ + 16 => exact rfl
theorem JX_p9_4 (X : JX K mn own cc n ret tb w0 rm h0 post px) (hR : RX (kca K) h ρ μ cap σ) {iz : Nat} {i : Nat} {v : Int32} (hi : i < ix (σ 8 0)) (hl : Cond.fieldLink own iz "NightValley$Village" "outageEnd" "I" ∈ GW) (d : decode cc pc = .ok (.putfield iz, 3)) (kk : ∀ h', RX (kca K) h' ρ μ cap (sS σ 12 i v) → J K h' lv st (pc + 3) cells slots) : J K h lv (.int v :: .ref (ρ 9 i) :: st) pc cells slots := by
  exact J_put X (C := RX7) (T := TX7) (N := 5) (ref := "NightValley$Village") (hR.village hi) rfl 4 (by decide) (show 4 < (xVillage σ i).length from (by decide : 4 < 5)) in_X7 tyX7 tyX7_ok nmX7 rfl rfl rfl hl (fun _ z => z) d (kk _ (RXp_9_4 hR hi))
theorem RXp_11_4 (hR : RX ca h ρ μ cap σ) {i : Nat} {v : Int32} (hi : i < ix (σ 26 0)) : RX ca (fU h (ρ 11 i) (.inr (4, (xMeter ρ σ i).set 4 (.int v)))) ρ μ cap (sS σ 30 i v) := by
  have e1 : xMeter ρ (sS σ 30 i v) i = (xMeter ρ σ i).set 4 (.int v) := by
    unfold xMeter
    rw [sS_same]
    rfl
  have x0 : xC ca ρ μ cap σ 11 i = some (.inr (4, xMeter ρ σ i)) := if_pos hi
  have x1 : xC ca ρ μ cap (sS σ 30 i v) 11 i = some (.inr (4, (xMeter ρ σ i).set 4 (.int v))) := by
    rw [← e1]
    exact if_pos hi
  refine hR.upd x0 x1 (fun k' i' q => ?_) (fun _ => rfl) rfl
  match k' with
  | 0 => exact rfl
  | 1 => exact rfl
  | 2 => exact rfl
  | 3 => exact rfl
  | 4 => exact rfl
  | 5 => exact rfl
  | 6 => exact rfl
  | 7 => exact rfl
  | 8 => exact rfl
  | 9 => exact rfl
  | 10 => exact rfl
  | 11 =>
    have e2 : xMeter ρ (sS σ 30 i v) i' = xMeter ρ σ i' := by
      unfold xMeter
      rw [sS_ne (σ := σ) (k := 30) (i := i) (c := 30) (j := i') (v := v) (fun _ z => q ⟨rfl, z⟩)]
      rfl
    show (if i' < ix (σ 26 0) then some (Sum.inr (4, xMeter ρ (sS σ 30 i v) i')) else none) = (if i' < ix (σ 26 0) then some (Sum.inr (4, xMeter ρ σ i')) else none)
    rw [e2]
  | 12 => exact rfl
  | 13 => exact rfl
  | 14 => exact rfl
  | 15 => exact rfl
  | _ + 16 => exact rfl
theorem JX_p11_4 (X : JX K mn own cc n ret tb w0 rm h0 post px) (hR : RX (kca K) h ρ μ cap σ) {iz : Nat} {i : Nat} {v : Int32} (hi : i < ix (σ 26 0)) (hl : Cond.fieldLink own iz "NightValley$Meter" "toldZero" "I" ∈ GW) (d : decode cc pc = .ok (.putfield iz, 3)) (kk : ∀ h', RX (kca K) h' ρ μ cap (sS σ 30 i v) → J K h' lv st (pc + 3) cells slots) : J K h lv (.int v :: .ref (ρ 11 i) :: st) pc cells slots := by
  exact J_put X (C := RX3) (T := TX3) (N := 5) (ref := "NightValley$Meter") (hR.meter hi) rfl 4 (by decide) (show 4 < (xMeter ρ σ i).length from (by decide : 4 < 5)) in_X3 tyX3 tyX3_ok nmX3 rfl rfl rfl hl (fun _ z => z) d (kk _ (RXp_11_4 hR hi))
theorem RXp_0_9 (hR : RX ca h ρ μ cap σ) {v : Int32} : RX ca (fU h (ρ 0 0) (.inr (11, (xRoot ρ σ).set 9 (.int v)))) ρ μ cap (sC σ 0 v) := by
  have e1 : xRoot ρ (sC σ 0 v) = (xRoot ρ σ).set 9 (.int v) := by
    unfold xRoot
    rw [sC_same]
    rfl
  have x0 : xC ca ρ μ cap σ 0 0 = some (.inr (11, xRoot ρ σ)) := rfl
  have x1 : xC ca ρ μ cap (sC σ 0 v) 0 0 = some (.inr (11, (xRoot ρ σ).set 9 (.int v))) := by
    rw [← e1]
    exact rfl
  refine hR.upd x0 x1 (fun k' i' q => ?_) (fun _ => rfl) rfl
  match k' with
  | 0 =>
    have e2 : ¬ i' = 0 := fun z => q ⟨rfl, z⟩
    show (if i' = 0 then some (Sum.inr (11, xRoot ρ (sC σ 0 v))) else none) = (if i' = 0 then some (Sum.inr (11, xRoot ρ σ)) else none)
    rw [if_neg e2, if_neg e2]
  | 1 => exact rfl
  | 2 => exact rfl
  | 3 => exact rfl
  | 4 => exact rfl
  | 5 => exact rfl
  | 6 => exact rfl
  | 7 => exact rfl
  | 8 => exact rfl
  | 9 => exact rfl
  | 10 => exact rfl
  | 11 => exact rfl
  | 12 => exact rfl
  | 13 => exact rfl
  | 14 => exact rfl
  | 15 => exact rfl
  | _ + 16 => exact rfl
theorem JX_p0_9 (X : JX K mn own cc n ret tb w0 rm h0 post px) (hR : RX (kca K) h ρ μ cap σ) {iz : Nat} {v : Int32} (hl : Cond.fieldLink own iz "NightValley" "time" "I" ∈ GW) (d : decode cc pc = .ok (.putfield iz, 3)) (kk : ∀ h', RX (kca K) h' ρ μ cap (sC σ 0 v) → J K h' lv st (pc + 3) cells slots) : J K h lv (.int v :: .ref (ρ 0 0) :: st) pc cells slots := by
  exact J_put X (C := RX10) (T := TX10) (N := 11) (ref := "NightValley") (hR.root) rfl 9 (by decide) (show 9 < (xRoot ρ σ).length from (by decide : 9 < 11)) in_X10 tyX10 tyX10_ok nmX10 rfl rfl rfl hl (fun _ z => z) d (kk _ (RXp_0_9 hR))
theorem RXp_0_10 (hR : RX ca h ρ μ cap σ) {v : Int32} : RX ca (fU h (ρ 0 0) (.inr (11, (xRoot ρ σ).set 10 (.int v)))) ρ μ cap (sC σ 1 v) := by
  have e1 : xRoot ρ (sC σ 1 v) = (xRoot ρ σ).set 10 (.int v) := by
    unfold xRoot
    rw [sC_same]
    rfl
  have x0 : xC ca ρ μ cap σ 0 0 = some (.inr (11, xRoot ρ σ)) := rfl
  have x1 : xC ca ρ μ cap (sC σ 1 v) 0 0 = some (.inr (11, (xRoot ρ σ).set 10 (.int v))) := by
    rw [← e1]
    exact rfl
  refine hR.upd x0 x1 (fun k' i' q => ?_) (fun _ => rfl) rfl
  match k' with
  | 0 =>
    have e2 : ¬ i' = 0 := fun z => q ⟨rfl, z⟩
    show (if i' = 0 then some (Sum.inr (11, xRoot ρ (sC σ 1 v))) else none) = (if i' = 0 then some (Sum.inr (11, xRoot ρ σ)) else none)
    rw [if_neg e2, if_neg e2]
  | 1 => exact rfl
  | 2 => exact rfl
  | 3 => exact rfl
  | 4 => exact rfl
  | 5 => exact rfl
  | 6 => exact rfl
  | 7 => exact rfl
  | 8 => exact rfl
  | 9 => exact rfl
  | 10 => exact rfl
  | 11 => exact rfl
  | 12 => exact rfl
  | 13 => exact rfl
  | 14 => exact rfl
  | 15 => exact rfl
  | _ + 16 => exact rfl
theorem JX_p0_10 (X : JX K mn own cc n ret tb w0 rm h0 post px) (hR : RX (kca K) h ρ μ cap σ) {iz : Nat} {v : Int32} (hl : Cond.fieldLink own iz "NightValley" "air" "I" ∈ GW) (d : decode cc pc = .ok (.putfield iz, 3)) (kk : ∀ h', RX (kca K) h' ρ μ cap (sC σ 1 v) → J K h' lv st (pc + 3) cells slots) : J K h lv (.int v :: .ref (ρ 0 0) :: st) pc cells slots := by
  exact J_put X (C := RX10) (T := TX10) (N := 11) (ref := "NightValley") (hR.root) rfl 10 (by decide) (show 10 < (xRoot ρ σ).length from (by decide : 10 < 11)) in_X10 tyX10 tyX10_ok nmX10 rfl rfl rfl hl (fun _ z => z) d (kk _ (RXp_0_10 hR))
end PUTS
end
