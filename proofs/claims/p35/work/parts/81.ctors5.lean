noncomputable section
def cL (nz np k : Nat) : Nat := match k with
  | 0 => nz
  | 1 => np
  | _ => 0
def cD (ρ : Nat → Nat → Nat) (nz np k : Nat) : Nat → Option Nat := fun i => if i < cL nz np k then some (xE ρ k i) else none
/-- the class's picture while its constructor runs: nz zones, np places -/
def cC (ca : Nat → Nat) (ρ : Nat → Nat → Nat) (μ : Nat → Nat → Int32) (cap : Nat → Nat) (nz np k i : Nat) : Option va_E := match k with
  | 0 => if i = 0 then some (.inr (11, [.ref (ρ 1 0), .ref (ρ 1 1), .ref (ρ 1 2), .ref (ρ 1 3), .ref (ρ 1 4), .ref (ρ 1 5), .ref (ρ 3 0), .ref (ρ 4 0), .ref (ρ 5 0), .int 0, .int 0])) else none
  | 1 => if i < 6 then some (.inr (0, [.int (μ 0 i), .ref (ρ 2 i), .int (nI (cL nz np i))])) else none
  | 2 => if i < 6 ∧ 0 < cap i then some (.inl (ca 2, cap i, fRefs (cD ρ nz np i))) else none
  | 3 => if i = 0 then some (.inr (2, [.int 1, .int 0, .int 0])) else none
  | 4 => if i = 0 then some (.inr (9, [.ref (ρ 14 0), .ref (ρ 14 1), .ref (ρ 14 2), .int 0])) else none
  | 5 => if i = 0 then some (.inr (1, [.ref (ρ 15 0), .ref (ρ 15 1), .int 0])) else none
  | 6 => if i < nz then some (zZ (nI i) (ρ 7 i)) else none
  | 7 => if i < nz then some (zF ca) else none
  | 8 => if i < np then some (.inr (5, [.int (nI (i % 8)), .int (nI (i / 8)), .ref (ρ 6 0), .int 0])) else none
  | 14 => if i < 3 then some (zI ca 64) else none
  | 15 => if i < 2 then some (zI ca 10) else none
  | _ => none
theorem cC_hi {ca : Nat → Nat} {ρ : Nat → Nat → Nat} {μ : Nat → Nat → Int32} {cap : Nat → Nat} {nz np k i : Nat} (h : 16 ≤ k ∨ (9 ≤ k ∧ k < 14)) : cC ca ρ μ cap nz np k i = none := by
  unfold cC
  split <;> first | omega | rfl
def CX (ca : Nat → Nat) (h : fH) (ρ : Nat → Nat → Nat) (μ : Nat → Nat → Int32) (cap : Nat → Nat) (nz np r : Nat) : Prop := RG h ρ (cC ca ρ μ cap nz np) ∧ (∀ k, k < 6 → cL nz np k ≤ cap k ∧ cap k ≤ 100 ∧ (cap k = 0 → ρ 2 k = ca 4)) ∧ ρ 0 0 = r ∧ ∀ k, cap k ≤ 100
theorem CX.list {ca : Nat → Nat} {h : fH} {ρ : Nat → Nat → Nat} {μ : Nat → Nat → Int32} {cap : Nat → Nat} {nz np r : Nat} (hC : CX ca h ρ μ cap nz np r) {q : Nat} (hq : q < 6) : h (ρ 1 q) = some (.inr (0, [.int (μ 0 q), .ref (ρ 2 q), .int (nI (cL nz np q))])) := hC.1.1 1 q _ (if_pos hq)
theorem CX.root {ca : Nat → Nat} {h : fH} {ρ : Nat → Nat → Nat} {μ : Nat → Nat → Int32} {cap : Nat → Nat} {nz np r : Nat} (hC : CX ca h ρ μ cap nz np r) : h r = some (.inr (11, [.ref (ρ 1 0), .ref (ρ 1 1), .ref (ρ 1 2), .ref (ρ 1 3), .ref (ρ 1 4), .ref (ρ 1 5), .ref (ρ 3 0), .ref (ρ 4 0), .ref (ρ 5 0), .int 0, .int 0])) := by
  rw [← hC.2.2.1]
  exact hC.1.1 0 0 _ rfl
/-- add, on a list of the class that is being made; new cells beside it -/
theorem c_addC {l : Launch} {D : va_G} {ca : Nat → Nat} {h hh : fH} {ρ : Nat → Nat → Nat} {μ : Nat → Nat → Int32} {cap : Nat → Nat} {nz np r : Nat} (hC : CX ca h ρ μ cap nz np r) {q e ci : Nat} {vs : List Value} {rr : vw_C} (hq : q = 0 ∨ q = 1) (hz : nz ≤ 4) (hp : np ≤ 64) (hle : ∀ a x, h a = some x → hh a = some x) (he : hh e = some (.inr (ci, vs))) (he0 : h e = none) (hc : vwCl[ci]? = some rr) (hca : Cond.castable rr.1 "java/lang/Object" ∈ NWL) : FM l D ca yJx4a65c_add_9ea2d (.code yJx4a65c_add_9ea2d cJx4a65c_add_9ea2d 2 (some .boolean)) { frames := 6, cells := 1, slots := 100, locals := 250 } [.ref (ρ 1 q), .ref e] hh (fun v h' => v = some (.int 1) ∧ rAdd ca hh (ρ 1 q) (ρ 2 q) (cap q) (cL nz np q) e (μ 0 q + 1) (cD ρ nz np q) h') noX := by
  have hq6 : q < 6 := by omega
  have hL := hC.list hq6
  have hl64 : cL nz np q ≤ 64 := by
    rcases hq with rfl | rfl
    · exact Nat.le_trans hz (by decide)
    · exact hp
  have el : ∀ i, i < cL nz np q → ∀ y, cD ρ nz np q i = some y → ∃ cj ws r', h y = some (.inr (cj, ws)) ∧ vwCl[cj]? = some r' ∧ Cond.castable r'.1 "java/lang/Object" ∈ NWL ∧ cj ≠ 0 := by
    intro i hi y hy
    unfold cD at hy
    rw [if_pos hi] at hy
    cases hy
    rcases hq with rfl | rfl
    · exact ⟨10, _, _, hC.1.1 6 i _ (if_pos hi), rfl, cst_in (i := 19) rfl, by decide⟩
    · exact ⟨5, _, _, hC.1.1 8 i _ (if_pos hi), rfl, cst_in (i := 20) rfl, by decide⟩
  refine c_add1 (hle _ _ hL) ?_ (hC.2.1 q hq6).1 (hC.2.2.2 q) hl64 ?_ ?_ ⟨ci, vs, rr, he, hc, hca⟩ (fun z => by rw [z, hL] at he0; cases he0) ?_
  · by_cases w : 0 < cap q
    · exact Or.inr ⟨w, hle _ _ (hC.1.1 2 q _ (if_pos ⟨hq6, w⟩))⟩
    · exact Or.inl ⟨by omega, (hC.2.1 q hq6).2.2 (by omega)⟩
  · intro i hi y hy
    obtain ⟨cj, ws, r', o1, o2, o3, _⟩ := el i hi y hy
    exact ⟨cj, ws, r', hle _ _ o1, o2, o3⟩
  · intro i hi
    unfold cD
    exact if_neg (by omega)
  · intro i hi z
    obtain ⟨cj, ws, r', o1, _, _, o4⟩ := el i hi _ z
    rw [hL] at o1
    cases o1
    exact o4 rfl
theorem CX.addZ {ca : Nat → Nat} {h h' : fH} {ρ : Nat → Nat → Nat} {μ : Nat → Nat → Int32} {cap : Nat → Nat} {nz r e b : Nat} (hC : CX ca h ρ μ cap nz 0 r) (he : h e = none) (hb : h b = none) (hbe : b ≠ e)
    (hA : rAdd ca (fU (fU h b (zF ca)) e (zZ (nI nz) b)) (ρ 1 0) (ρ 2 0) (cap 0) nz e (μ 0 0 + 1) (cD ρ nz 0 0) h') : ∃ ρ' μ' cap', CX ca h' ρ' μ' cap' (nz + 1) 0 r ∧ ρ' 6 nz = e ∧ ∀ i, i < nz → ρ' 6 i = ρ 6 i := by
  obtain ⟨d, c, hd, hnc, hc100, e1⟩ := hA
  have hG := hC.1.new (k := 7) (i := nz) (zF ca) hb
  have q1 : r2 ρ 7 nz b 1 0 = ρ 1 0 := r2_n (by omega)
  have q2 : r2 ρ 7 nz b 2 0 = ρ 2 0 := r2_n (by omega)
  refine ⟨gR (r2 ρ 7 nz b) 6 nz e 0 d, gM μ 0 (μ 0 0 + 1), gC cap 0 c, ?_, if_pos ⟨rfl, rfl⟩, fun i hi => (gR_o (by omega) (by omega)).trans (r2_n (by omega))⟩
  have g : ∀ k i, k ≠ 6 → k ≠ 7 → k ≠ 2 → gR (r2 ρ 7 nz b) 6 nz e 0 d k i = ρ k i := fun k i z1 z2 z3 => (gR_o (fun z => z1 z.1) (fun z => z3 z.1)).trans (r2_n (fun z => z2 z.1))
  have g6 : ∀ i, i ≠ nz → gR (r2 ρ 7 nz b) 6 nz e 0 d 6 i = ρ 6 i := fun i z => (gR_o (fun w => z w.2) (fun z => absurd z.1 (by decide))).trans (r2_n (fun z => absurd z.1 (by decide)))
  have g7 : ∀ i, i ≠ nz → gR (r2 ρ 7 nz b) 6 nz e 0 d 7 i = ρ 7 i := fun i z => (gR_o (fun z => absurd z.1 (by decide)) (fun z => absurd z.1 (by decide))).trans (r2_n (fun w => z w.2))
  have g7n : gR (r2 ρ 7 nz b) 6 nz e 0 d 7 nz = b := (gR_o (fun z => absurd z.1 (by decide)) (fun z => absurd z.1 (by decide))).trans r2_s
  have g2 : ∀ i, i ≠ 0 → gR (r2 ρ 7 nz b) 6 nz e 0 d 2 i = ρ 2 i := fun i z => (gR_o (fun z => absurd z.1 (by decide)) (fun w => z w.2)).trans (r2_n (fun z => absurd z.1 (by decide)))
  have g20 : gR (r2 ρ 7 nz b) 6 nz e 0 d 2 0 = d := (if_neg (fun z => absurd z.1 (by decide))).trans (if_pos ⟨rfl, rfl⟩)
  have mm : ∀ i, i ≠ 0 → gM μ 0 (μ 0 0 + 1) 0 i = μ 0 i := fun i z => if_neg (fun w => z w.2)
  have cq : ∀ i, i ≠ 0 → gC cap 0 c i = cap i := fun i z => if_neg z
  refine ⟨?_, ?_, ?_, ?_⟩
  · refine RG.add1 (q := 0) (kd := 6) (nn := nz) (d := d) (c := c) (capq := cap 0) (cell := zZ (nI nz) b) (L0 := .inr (0, [.int (μ 0 0), .ref (ρ 2 0), .int (nI (cL nz 0 0))])) hG (by rw [u2_n (by omega)]; rfl) (fun hw => ⟨_, by rw [u2_n (by omega)]; exact if_pos (show 0 < 6 ∧ 0 < cap 0 from ⟨by decide, hw⟩)⟩) (by rw [fU_ne hbe.symm]; exact he) (by rw [q2]; exact hd) (by rw [q1]; exact e1) ⟨by decide, by decide⟩ ?_ ?_ ?_ ?_
    · show (if nz < nz + 1 then some (zZ (nI nz) (gR (r2 ρ 7 nz b) 6 nz e 0 d 7 nz)) else none) = _
      rw [if_pos (by omega), g7n]
    · intro k i a1 a2 a3 x hx
      match k with
      | 0 =>
        rw [u2_n (by omega), ← hx]
        unfold cC
        simp (disch := decide) only [g]
      | 1 =>
        have hi : i ≠ 0 := fun z => a2 ⟨rfl, z⟩
        rw [u2_n (by omega), ← hx]
        show (if i < 6 then some (Sum.inr (0, [Value.int (μ 0 i), Value.ref (ρ 2 i), Value.int (nI (cL nz 0 i))])) else none) = (if i < 6 then some (Sum.inr (0, [Value.int (gM μ 0 (μ 0 0 + 1) 0 i), Value.ref (gR (r2 ρ 7 nz b) 6 nz e 0 d 2 i), Value.int (nI (cL (nz + 1) 0 i))])) else none)
        rw [mm i hi, g2 i hi, show cL (nz + 1) 0 i = cL nz 0 i by unfold cL; split <;> first | rfl | exact absurd rfl hi]
      | 2 =>
        have hi : i ≠ 0 := fun z => a3 ⟨rfl, z⟩
        rw [u2_n (by omega), ← hx]
        show (if i < 6 ∧ 0 < cap i then some (Sum.inl (ca 2, cap i, fRefs (cD ρ nz 0 i))) else none) = (if i < 6 ∧ 0 < gC cap 0 c i then some (Sum.inl (ca 2, gC cap 0 c i, fRefs (cD (gR (r2 ρ 7 nz b) 6 nz e 0 d) (nz + 1) 0 i))) else none)
        rw [cq i hi]
        have ed : cD ρ nz 0 i = cD (gR (r2 ρ 7 nz b) 6 nz e 0 d) (nz + 1) 0 i := by
          have e0 : ∀ n, cL n 0 i = 0 := fun n => by unfold cL; split <;> first | rfl | exact absurd rfl hi
          funext j
          unfold cD
          rw [e0 nz, e0 (nz + 1), if_neg (Nat.not_lt_zero _), if_neg (Nat.not_lt_zero _)]
        rw [ed]
      | 3 =>
        rw [u2_n (by omega)]
        exact hx
      | 4 =>
        rw [u2_n (by omega), ← hx]
        unfold cC
        simp (disch := decide) only [g]
      | 5 =>
        rw [u2_n (by omega), ← hx]
        unfold cC
        simp (disch := decide) only [g]
      | 6 =>
        have hi : i ≠ nz := fun z => a1 ⟨rfl, z⟩
        rw [u2_n (by omega), ← hx]
        show (if i < nz then some (zZ (nI i) (ρ 7 i)) else none) = (if i < nz + 1 then some (zZ (nI i) (gR (r2 ρ 7 nz b) 6 nz e 0 d 7 i)) else none)
        rw [g7 i hi]
        by_cases v : i < nz
        · rw [if_pos v, if_pos (by omega)]
        · rw [if_neg v, if_neg (by omega)]
      | 7 =>
        have hx' : (if i < nz + 1 then some (zF ca) else none) = some x := hx
        by_cases w : i = nz
        · rw [w, u2_s, ← hx', if_pos (by omega)]
        · rw [u2_n (fun z => w z.2), ← hx']
          show (if i < nz then some (zF ca) else none) = _
          by_cases v : i < nz
          · rw [if_pos v, if_pos (by omega)]
          · rw [if_neg v, if_neg (by omega)]
      | 8 =>
        have hx' : (if i < 0 then some (Sum.inr (5, [Value.int (nI (i % 8)), Value.int (nI (i / 8)), Value.ref (gR (r2 ρ 7 nz b) 6 nz e 0 d 6 0), Value.int 0])) else none) = some x := hx
        rw [if_neg (Nat.not_lt_zero _)] at hx'
        cases hx'
      | 14 =>
        rw [u2_n (by omega)]
        exact hx
      | 15 =>
        rw [u2_n (by omega)]
        exact hx
      | 9 | 10 | 11 | 12 | 13 =>
        rw [cC_hi (by omega)] at hx
        cases hx
      | k + 16 =>
        rw [cC_hi (by omega)] at hx
        cases hx
    · show (if 0 < 6 then some (Sum.inr (0, [Value.int (gM μ 0 (μ 0 0 + 1) 0 0), Value.ref (gR (r2 ρ 7 nz b) 6 nz e 0 d 2 0), Value.int (nI (cL (nz + 1) 0 0))])) else none) = _
      rw [if_pos (by decide), g20, show gM μ 0 (μ 0 0 + 1) 0 0 = μ 0 0 + 1 from if_pos ⟨rfl, rfl⟩]
      rfl
    · show (if 0 < 6 ∧ 0 < gC cap 0 c 0 then some (Sum.inl (ca 2, gC cap 0 c 0, fRefs (cD (gR (r2 ρ 7 nz b) 6 nz e 0 d) (nz + 1) 0 0))) else none) = _
      rw [show gC cap 0 c 0 = c from if_pos rfl, if_pos ⟨by decide, by omega⟩]
      have ed : cD (gR (r2 ρ 7 nz b) 6 nz e 0 d) (nz + 1) 0 0 = va_up (cD ρ nz 0 0) nz (some e) := by
        funext i
        unfold cD va_up
        show (if i < nz + 1 then some (gR (r2 ρ 7 nz b) 6 nz e 0 d 6 i) else none) = (if i = nz then some e else if i < nz then some (ρ 6 i) else none)
        by_cases w : i = nz
        · rw [if_pos w, if_pos (show i < nz + 1 by omega), w]
          exact congrArg some (if_pos ⟨rfl, rfl⟩)
        · rw [if_neg w]
          by_cases v : i < nz
          · rw [if_pos (show i < nz + 1 by omega), if_pos v, g6 i w]
          · rw [if_neg (show ¬ i < nz + 1 by omega), if_neg v]
      rw [ed]
  · intro k hk
    obtain ⟨b1, b2, b3⟩ := hC.2.1 k hk
    by_cases w : k = 0
    · subst w
      rw [show gC cap 0 c 0 = c from if_pos rfl]
      exact ⟨by show nz + 1 ≤ c; omega, hc100, fun z => by omega⟩
    · rw [cq k w, g2 k w]
      exact ⟨by rw [show cL (nz + 1) 0 k = cL nz 0 k by unfold cL; split <;> first | rfl | exact absurd rfl w]; exact b1, b2, b3⟩
  · rw [g 0 0 (by decide) (by decide) (by decide)]
    exact hC.2.2.1
  · intro k
    unfold gC
    split
    · exact hc100
    · exact hC.2.2.2 k
theorem CX.addP {ca : Nat → Nat} {h h' : fH} {ρ : Nat → Nat → Nat} {μ : Nat → Nat → Int32} {cap : Nat → Nat} {nz np r e : Nat} (hC : CX ca h ρ μ cap nz np r) (he : h e = none)
    (hA : rAdd ca (fU h e (.inr (5, [.int (nI (np % 8)), .int (nI (np / 8)), .ref (ρ 6 0), .int 0]))) (ρ 1 1) (ρ 2 1) (cap 1) np e (μ 0 1 + 1) (cD ρ nz np 1) h') : ∃ ρ' μ' cap', CX ca h' ρ' μ' cap' nz (np + 1) r ∧ ρ' 6 0 = ρ 6 0 := by
  obtain ⟨d, c, hd, hnc, hc100, e1⟩ := hA
  have g : ∀ k i, k ≠ 8 → k ≠ 2 → gR ρ 8 np e 1 d k i = ρ k i := fun k i z1 z2 => gR_o (fun z => z1 z.1) (fun z => z2 z.1)
  have g8 : ∀ i, i ≠ np → gR ρ 8 np e 1 d 8 i = ρ 8 i := fun i z => gR_o (fun w => z w.2) (fun z => absurd z.1 (by decide))
  have g2 : ∀ i, i ≠ 1 → gR ρ 8 np e 1 d 2 i = ρ 2 i := fun i z => gR_o (fun z => absurd z.1 (by decide)) (fun w => z w.2)
  have g21 : gR ρ 8 np e 1 d 2 1 = d := (if_neg (fun z => absurd z.1 (by decide))).trans (if_pos ⟨rfl, rfl⟩)
  have mm : ∀ i, i ≠ 1 → gM μ 1 (μ 0 1 + 1) 0 i = μ 0 i := fun i z => if_neg (fun w => z w.2)
  have cq : ∀ i, i ≠ 1 → gC cap 1 c i = cap i := fun i z => if_neg z
  refine ⟨gR ρ 8 np e 1 d, gM μ 1 (μ 0 1 + 1), gC cap 1 c, ?_, g 6 0 (by decide) (by decide)⟩
  have eL : ∀ i, i ≠ 1 → cL nz (np + 1) i = cL nz np i := fun i hi => by unfold cL; split <;> first | rfl | exact absurd rfl hi
  refine ⟨?_, ?_, ?_, ?_⟩
  · refine RG.add1 (q := 1) (kd := 8) (nn := np) (d := d) (c := c) (capq := cap 1) (cell := .inr (5, [.int (nI (np % 8)), .int (nI (np / 8)), .ref (ρ 6 0), .int 0])) (L0 := .inr (0, [.int (μ 0 1), .ref (ρ 2 1), .int (nI (cL nz np 1))])) hC.1 rfl (fun hw => ⟨_, if_pos (show 1 < 6 ∧ 0 < cap 1 from ⟨by decide, hw⟩)⟩) he hd e1 ⟨by decide, by decide⟩ ?_ ?_ ?_ ?_
    · show (if np < np + 1 then some (Sum.inr (5, [Value.int (nI (np % 8)), Value.int (nI (np / 8)), Value.ref (gR ρ 8 np e 1 d 6 0), Value.int 0])) else none) = _
      rw [if_pos (by omega), g 6 0 (by decide) (by decide)]
    · intro k i a1 a2 a3 x hx
      rw [← hx]
      match k with
      | 1 =>
        have hi : i ≠ 1 := fun z => a2 ⟨rfl, z⟩
        show (if i < 6 then some (Sum.inr (0, [Value.int (μ 0 i), Value.ref (ρ 2 i), Value.int (nI (cL nz np i))])) else none) = (if i < 6 then some (Sum.inr (0, [Value.int (gM μ 1 (μ 0 1 + 1) 0 i), Value.ref (gR ρ 8 np e 1 d 2 i), Value.int (nI (cL nz (np + 1) i))])) else none)
        rw [mm i hi, g2 i hi, eL i hi]
      | 2 =>
        have hi : i ≠ 1 := fun z => a3 ⟨rfl, z⟩
        show (if i < 6 ∧ 0 < cap i then some (Sum.inl (ca 2, cap i, fRefs (cD ρ nz np i))) else none) = (if i < 6 ∧ 0 < gC cap 1 c i then some (Sum.inl (ca 2, gC cap 1 c i, fRefs (cD (gR ρ 8 np e 1 d) nz (np + 1) i))) else none)
        rw [cq i hi]
        have ed : cD ρ nz np i = cD (gR ρ 8 np e 1 d) nz (np + 1) i := by
          funext j
          unfold cD
          rw [eL i hi]
          match i with
          | 0 => rw [show xE (gR ρ 8 np e 1 d) 0 j = xE ρ 0 j from g 6 j (by decide) (by decide)]
          | 1 => exact absurd rfl hi
          | i + 2 => rw [show cL nz np (i + 2) = 0 from rfl, if_neg (Nat.not_lt_zero _), if_neg (Nat.not_lt_zero _)]
        rw [ed]
      | 8 =>
        have hi : i ≠ np := fun z => a1 ⟨rfl, z⟩
        show (if i < np then some (Sum.inr (5, [Value.int (nI (i % 8)), Value.int (nI (i / 8)), Value.ref (ρ 6 0), Value.int 0])) else none) = (if i < np + 1 then some (Sum.inr (5, [Value.int (nI (i % 8)), Value.int (nI (i / 8)), Value.ref (gR ρ 8 np e 1 d 6 0), Value.int 0])) else none)
        rw [g 6 0 (by decide) (by decide)]
        by_cases v : i < np
        · rw [if_pos v, if_pos (by omega)]
        · rw [if_neg v, if_neg (by omega)]
      | 0 | 3 | 4 | 5 | 6 | 7 | 14 | 15 =>
        unfold cC
        simp (disch := decide) only [g]
      | 9 | 10 | 11 | 12 | 13 => rw [cC_hi (by omega), cC_hi (by omega)]
      | k + 16 => rw [cC_hi (by omega), cC_hi (by omega)]
    · show (if 1 < 6 then some (Sum.inr (0, [Value.int (gM μ 1 (μ 0 1 + 1) 0 1), Value.ref (gR ρ 8 np e 1 d 2 1), Value.int (nI (cL nz (np + 1) 1))])) else none) = _
      rw [if_pos (by decide), g21, show gM μ 1 (μ 0 1 + 1) 0 1 = μ 0 1 + 1 from if_pos ⟨rfl, rfl⟩]
      rfl
    · show (if 1 < 6 ∧ 0 < gC cap 1 c 1 then some (Sum.inl (ca 2, gC cap 1 c 1, fRefs (cD (gR ρ 8 np e 1 d) nz (np + 1) 1))) else none) = _
      rw [show gC cap 1 c 1 = c from if_pos rfl, if_pos ⟨by decide, by omega⟩]
      have ed : cD (gR ρ 8 np e 1 d) nz (np + 1) 1 = va_up (cD ρ nz np 1) np (some e) := by
        funext i
        unfold cD va_up
        show (if i < np + 1 then some (gR ρ 8 np e 1 d 8 i) else none) = (if i = np then some e else if i < np then some (ρ 8 i) else none)
        by_cases w : i = np
        · rw [if_pos w, if_pos (show i < np + 1 by omega), w]
          exact congrArg some (if_pos ⟨rfl, rfl⟩)
        · rw [if_neg w]
          by_cases v : i < np
          · rw [if_pos (show i < np + 1 by omega), if_pos v, g8 i w]
          · rw [if_neg (show ¬ i < np + 1 by omega), if_neg v]
      rw [ed]
  · intro k hk
    obtain ⟨b1, b2, b3⟩ := hC.2.1 k hk
    by_cases w : k = 1
    · subst w
      rw [show gC cap 1 c 1 = c from if_pos rfl]
      exact ⟨by show np + 1 ≤ c; omega, hc100, fun z => by omega⟩
    · rw [cq k w, g2 k w]
      exact ⟨by rw [eL k w]; exact b1, b2, b3⟩
  · rw [g 0 0 (by decide) (by decide)]
    exact hC.2.2.1
  · intro k
    unfold gC
    split
    · exact hc100
    · exact hC.2.2.2 k
end
