noncomputable section
/-- an object's state somewhere: its pictures' addresses don't matter -/
def RA (ca : Nat → Nat) (h : fH) (r : Nat) (σ : St) : Prop := ∃ ρ μ cap, RX ca h ρ μ cap σ ∧ ρ 0 0 = r ∧ ∀ k, cap k ≤ 100
def gR (ρ : Nat → Nat → Nat) (kd nn e q d : Nat) : Nat → Nat → Nat := fun k i => if k = kd ∧ i = nn then e else if k = 2 ∧ i = q then d else ρ k i
def gM (μ : Nat → Nat → Int32) (q : Nat) (v : Int32) : Nat → Nat → Int32 := fun c j => if c = 0 ∧ j = q then v else μ c j
def gC (cap : Nat → Nat) (q c : Nat) : Nat → Nat := fun j => if j = q then c else cap j
theorem gR_o {ρ : Nat → Nat → Nat} {kd nn e q d k i : Nat} (h1 : ¬ (k = kd ∧ i = nn)) (h2 : ¬ (k = 2 ∧ i = q)) : gR ρ kd nn e q d k i = ρ k i := by
  unfold gR
  rw [if_neg h1, if_neg h2]
/-- an object added to a list, and one old cell written anew -/
theorem RX.addG {ca : Nat → Nat} {h h' : fH} {ρ : Nat → Nat → Nat} {μ : Nat → Nat → Int32} {cap : Nat → Nat} {σ σ' : St} {q kd nn n e kx jx d c : Nat} {cell cx cx0 : va_E} (hR : RX ca h ρ μ cap σ) (hcap : ∀ k, cap k ≤ 100) (hq : q < 6 + ix (σ 26 0)) (hn : n = xL σ q) (he : h e = none)
    (hd : (d = ρ 2 q ∧ c = cap q ∧ 0 < cap q) ∨ fU h e cell d = none) (hnc : n < c) (hc100 : c ≤ 100) (e1 : h' = fU (fU (fU h e cell) d (.inl (ca 2, c, fRefs (va_up (xD ρ σ q) n (some e))))) (ρ 1 q) (.inr (0, [.int (μ 0 q + 1), .ref d, .int (nI (n + 1))]))) (hkd : kd ≠ 1 ∧ kd ≠ 2) (hk0 : kd ≠ 0 ∨ nn ≠ 0)
    (hx0 : xC ca ρ μ cap σ kx jx = some cx0) (hxk : ¬ (kx = kd ∧ jx = nn) ∧ ¬ (kx = 2 ∧ jx = q))
    (H1 : xC ca (gR ρ kd nn e q d) (gM μ q (μ 0 q + 1)) (gC cap q c) σ' kd nn = some cell)
    (H2 : ∀ k i, ¬ (k = kd ∧ i = nn) → ¬ (k = 1 ∧ i = q) → ¬ (k = 2 ∧ i = q) → ¬ (k = kx ∧ i = jx) → xC ca (gR ρ kd nn e q d) (gM μ q (μ 0 q + 1)) (gC cap q c) σ' k i = xC ca ρ μ cap σ k i)
    (H3 : xC ca (gR ρ kd nn e q d) (gM μ q (μ 0 q + 1)) (gC cap q c) σ' 1 q = some (.inr (0, [.int (μ 0 q + 1), .ref d, .int (nI (n + 1))])))
    (H4 : xC ca (gR ρ kd nn e q d) (gM μ q (μ 0 q + 1)) (gC cap q c) σ' 2 q = some (.inl (ca 2, c, fRefs (va_up (xD ρ σ q) n (some e)))))
    (H6 : xC ca (gR ρ kd nn e q d) (gM μ q (μ 0 q + 1)) (gC cap q c) σ' kx jx = some cx)
    (H5 : ∀ k, xL σ' k = if k = q then n + 1 else xL σ k) (HM : ix (σ' 26 0) = ix (σ 26 0)) :
    ∃ ρ' μ' cap', RX ca (fU h' (ρ kx jx) cx) ρ' μ' cap' σ' ∧ ρ' 0 0 = ρ 0 0 ∧ (∀ k, cap' k ≤ 100) := by
  have hL : h (ρ 1 q) = some (.inr (0, xList ρ μ σ q)) := hR.list hq
  have eL : e ≠ ρ 1 q := fun z => by rw [z, hL] at he; cases he
  have hdq : ρ 2 q ≠ e ∨ cap q = 0 := by
    by_cases w : 0 < cap q
    · left
      have := hR.1 2 q _ (if_pos ⟨hq, w⟩)
      exact fun z => by rw [z, he] at this; cases this
    · right; omega
  have hd' : (d = ρ 2 q ∧ c = cap q ∧ 0 < cap q) ∨ (h d = none ∧ d ≠ e) := by
    rcases hd with z | z
    · exact Or.inl z
    · right
      by_cases w : d = e
      · rw [w, fU_same] at z
        cases z
      · rw [fU_ne w] at z
        exact ⟨z, w⟩
  have de : d ≠ e := by
    rcases hd' with ⟨z1, _, z3⟩ | z
    · rw [z1]
      rcases hdq with w | w
      · exact w
      · omega
    · exact z.2
  have dL : d ≠ ρ 1 q := by
    rcases hd' with ⟨z1, _, z3⟩ | z
    · rw [z1]
      exact fun w => absurd (hR.2.1 2 q 1 q _ _ (if_pos ⟨hq, z3⟩) (if_pos hq) w).1 (by decide)
    · exact fun w => by rw [w, hL] at z; cases z.1
  have old : ∀ k i x, ¬ (k = kd ∧ i = nn) → ¬ (k = 2 ∧ i = q) → xC ca (gR ρ kd nn e q d) (gM μ q (μ 0 q + 1)) (gC cap q c) σ' k i = some x → ∃ y, xC ca ρ μ cap σ k i = some y := by
    intro k i x a1 a3 hx
    by_cases a2 : k = 1 ∧ i = q
    · obtain ⟨rfl, rfl⟩ := a2
      exact ⟨_, if_pos hq⟩
    by_cases a4 : k = kx ∧ i = jx
    · obtain ⟨rfl, rfl⟩ := a4
      exact ⟨_, hx0⟩
    rw [H2 k i a1 a2 a3 a4] at hx
    exact ⟨_, hx⟩
  have r1 : gR ρ kd nn e q d kd nn = e := if_pos ⟨rfl, rfl⟩
  have r2 : gR ρ kd nn e q d 2 q = d := (if_neg (fun z => hkd.2 z.1.symm)).trans (if_pos ⟨rfl, rfl⟩)
  refine ⟨gR ρ kd nn e q d, gM μ q (μ 0 q + 1), gC cap q c, ?_, ?_, ?_⟩
  · refine RX.grow hR ?_ ?_ ?_ ?_
    · intro k i x hx
      by_cases a1 : k = kd ∧ i = nn
      · obtain ⟨rfl, rfl⟩ := a1
        rw [r1]
        exact Or.inr he
      by_cases a3 : k = 2 ∧ i = q
      · obtain ⟨rfl, rfl⟩ := a3
        rw [r2]
        rcases hd' with ⟨z1, _, z3⟩ | z
        · exact Or.inl ⟨z1, _, if_pos ⟨hq, z3⟩⟩
        · exact Or.inr z.1
      · exact Or.inl ⟨gR_o a1 a3, old k i x a1 a3 hx⟩
    · intro k i k' i' x x' hx hx' hnone heq
      by_cases a1 : k = kd ∧ i = nn
      · obtain ⟨rfl, rfl⟩ := a1
        by_cases b1 : k' = k ∧ i' = i
        · exact ⟨b1.1.symm, b1.2.symm⟩
        · exfalso
          rw [r1] at heq
          by_cases b3 : k' = 2 ∧ i' = q
          · obtain ⟨rfl, rfl⟩ := b3
            rw [r2] at heq
            exact de heq.symm
          · obtain ⟨y, hy⟩ := old k' i' x' b1 b3 hx'
            rw [gR_o b1 b3] at heq
            have := hR.1 k' i' y hy
            rw [← heq, he] at this
            cases this
      by_cases a3 : k = 2 ∧ i = q
      · obtain ⟨rfl, rfl⟩ := a3
        rw [r2] at heq hnone
        by_cases b1 : k' = kd ∧ i' = nn
        · obtain ⟨rfl, rfl⟩ := b1
          rw [r1] at heq
          exact absurd heq de
        by_cases b3 : k' = 2 ∧ i' = i
        · exact ⟨b3.1.symm, b3.2.symm⟩
        · obtain ⟨y, hy⟩ := old k' i' x' b1 b3 hx'
          rw [gR_o b1 b3] at heq
          have := hR.1 k' i' y hy
          rw [← heq, hnone] at this
          cases this
      · obtain ⟨y, hy⟩ := old k i x a1 a3 hx
        rw [gR_o a1 a3] at hnone
        have := hR.1 k i y hy
        rw [hnone] at this
        cases this
    · intro k i x hx
      have hx0' := hR.1 kx jx _ hx0
      have nx : ∀ a, h a = none → a ≠ ρ kx jx := fun a z w => by rw [w, hx0'] at z; cases z
      have nxd : d ≠ ρ kx jx := by
        rcases hd' with ⟨z1, _, z3⟩ | z
        · rw [z1]
          exact fun w => hxk.2 (by have := hR.2.1 2 q kx jx _ _ (if_pos ⟨hq, z3⟩) hx0 w; exact ⟨this.1.symm, this.2.symm⟩)
        · exact nx d z.1
      by_cases a1 : k = kd ∧ i = nn
      · obtain ⟨rfl, rfl⟩ := a1
        rw [r1, fU_ne (nx e he), e1, fU_ne eL, fU_ne de.symm, fU_same, ← H1]
        exact hx
      by_cases a3 : k = 2 ∧ i = q
      · obtain ⟨rfl, rfl⟩ := a3
        rw [r2, fU_ne nxd, e1, fU_ne dL, fU_same, ← H4]
        exact hx
      obtain ⟨y, hy⟩ := old k i x a1 a3 hx
      have hr := gR_o (ρ := ρ) (e := e) (d := d) a1 a3
      rw [hr]
      by_cases a4 : k = kx ∧ i = jx
      · obtain ⟨rfl, rfl⟩ := a4
        rw [fU_same, ← H6]
        exact hx
      have nk : ρ k i ≠ ρ kx jx := fun w => a4 (hR.2.1 k i kx jx _ _ hy hx0 w)
      rw [fU_ne nk, e1]
      by_cases a2 : k = 1 ∧ i = q
      · obtain ⟨rfl, rfl⟩ := a2
        rw [fU_same, ← H3]
        exact hx
      have nL : ρ k i ≠ ρ 1 q := fun w => a2 (hR.2.1 k i 1 q _ _ hy (if_pos hq) w)
      have hyh := hR.1 k i y hy
      have ne : ρ k i ≠ e := fun w => by rw [w, he] at hyh; cases hyh
      have nd : ρ k i ≠ d := by
        rcases hd' with ⟨z1, _, z3⟩ | z
        · rw [z1]
          exact fun w => a3 (hR.2.1 k i 2 q _ _ hy (if_pos ⟨hq, z3⟩) w)
        · exact fun w => by rw [w, z.1] at hyh; cases hyh
      rw [fU_ne nL, fU_ne nd, fU_ne ne]
      rw [H2 k i a1 a2 a3 a4] at hx
      exact hR.1 k i x hx
    · intro k hk
      rw [H5]
      unfold gC
      by_cases w : k = q
      · subst w
        rw [if_pos rfl, if_pos rfl]
        exact ⟨by omega, by omega, fun z => by omega⟩
      · rw [if_neg w, if_neg w, gR_o (fun z => hkd.2 z.1.symm) (fun z => w z.2)]
        rw [HM] at hk
        exact hR.2.2 k hk
  · refine gR_o (fun z => ?_) (fun z => absurd z.1 (by decide))
    rcases hk0 with w | w
    · exact w z.1.symm
    · exact w z.2.symm
  · intro k
    unfold gC
    split
    · exact hc100
    · exact hcap k
theorem RX.addP {ca : Nat → Nat} {h h' : fH} {ρ : Nat → Nat → Nat} {μ : Nat → Nat → Int32} {cap : Nat → Nat} {σ σ' : St} {q kd nn n e : Nat} {cell : va_E} (hR : RX ca h ρ μ cap σ) (hcap : ∀ k, cap k ≤ 100) (hq : q < 6 + ix (σ 26 0)) (hn : n = xL σ q) (he : h e = none)
    (hA : rAdd ca (fU h e cell) (ρ 1 q) (ρ 2 q) (cap q) n e (μ 0 q + 1) (xD ρ σ q) h') (hkd : kd ≠ 1 ∧ kd ≠ 2) (hk0 : kd ≠ 0 ∨ nn ≠ 0)
    (H1 : ∀ d c, xC ca (gR ρ kd nn e q d) (gM μ q (μ 0 q + 1)) (gC cap q c) σ' kd nn = some cell)
    (H2 : ∀ d c k i, ¬ (k = kd ∧ i = nn) → ¬ (k = 1 ∧ i = q) → ¬ (k = 2 ∧ i = q) → xC ca (gR ρ kd nn e q d) (gM μ q (μ 0 q + 1)) (gC cap q c) σ' k i = xC ca ρ μ cap σ k i)
    (H3 : ∀ d c, xC ca (gR ρ kd nn e q d) (gM μ q (μ 0 q + 1)) (gC cap q c) σ' 1 q = some (.inr (0, [.int (μ 0 q + 1), .ref d, .int (nI (n + 1))])))
    (H4 : ∀ d c, 0 < c → xC ca (gR ρ kd nn e q d) (gM μ q (μ 0 q + 1)) (gC cap q c) σ' 2 q = some (.inl (ca 2, c, fRefs (va_up (xD ρ σ q) n (some e)))))
    (H5 : ∀ k, xL σ' k = if k = q then n + 1 else xL σ k) (HM : ix (σ' 26 0) = ix (σ 26 0)) : RA ca h' (ρ 0 0) σ' := by
  obtain ⟨d, c, hd, hnc, hc100, e1⟩ := hA
  obtain ⟨ρ', μ', cap', z1, z2, z3⟩ := RX.addG (kx := 1) (jx := q) hR hcap hq hn he hd hnc hc100 e1 hkd hk0 (if_pos hq) ⟨fun z => hkd.1 z.1.symm, fun z => absurd z.1 (by decide)⟩ (H1 d c) (fun k i a1 a2 a3 _ => H2 d c k i a1 a2 a3) (H3 d c) (H4 d c (by omega)) (H3 d c) H5 HM
  rw [e1, fU_fU, ← e1] at z1
  exact ⟨ρ', μ', cap', z1, z2, z3⟩
theorem xC_hi {ca : Nat → Nat} {ρ : Nat → Nat → Nat} {μ : Nat → Nat → Int32} {cap : Nat → Nat} {σ : St} {k i : Nat} (h : 16 ≤ k) : xC ca ρ μ cap σ k i = none := by
  unfold xC
  split <;> first | omega | rfl
/-- a satellite more -/
def newSat (σ : St) (p1 p2 : Int32) : St := sC (sS (sS σ 38 (ix (σ 37 0)) p1) 39 (ix (σ 37 0)) p2) 37 (σ 37 0 + 1)
theorem cnt1 {σ : St} {k N : Nat} (h : vp_in (σ k 0) (N + 1)) (hN : N < 1000) : ix (σ k 0 + 1) = ix (σ k 0) + 1 := by
  obtain ⟨e, hle⟩ := cnt h (by omega)
  rw [show σ k 0 + 1 = nI (ix (σ k 0) + 1) by rw [← nI_1, ← e], ixn (by omega)]
theorem newSat_c {σ : St} {p1 p2 : Int32} {k : Nat} (h1 : k ≠ 37) (h2 : k ≠ 38) (h3 : k ≠ 39) : newSat σ p1 p2 k = σ k := by
  unfold newSat
  rw [sC_col h1, sS_col h3, sS_col h2]
end
