noncomputable section
def newRd (σ : St) (m : Nat) (t v : Int32) : St := sS (sS (sS σ 32 (10 * m + ix (σ 31 m)) t) 33 (10 * m + ix (σ 31 m)) v) 31 m (σ 31 m + 1)
def keepS (σ : St) (m : Nat) (t v : Int32) : St := newRd (if σ 31 m = 10 then remRd σ m else σ) m t v
theorem RX.addRd {ca : Nat → Nat} {h h' : fH} {ρ : Nat → Nat → Nat} {μ : Nat → Nat → Int32} {cap : Nat → Nat} {σ : St} {e m : Nat} {t v : Int32} (hR : RX ca h ρ μ cap σ) (hI : InvX σ) (hcap : ∀ k, cap k ≤ 100) (hm : m < ix (σ 26 0)) (hr : ix (σ 31 m) < 10) (he : h e = none)
    (hA : rAdd ca (fU h e (.inr (6, [.int t, .int v]))) (ρ 1 (m + 6)) (ρ 2 (m + 6)) (cap (m + 6)) (ix (σ 31 m)) e (μ 0 (m + 6) + 1) (xD ρ σ (m + 6)) h') : RA ca h' (ρ 0 0) (newRd σ m t v) := by
  have cc : ∀ c, c ≠ 31 → c ≠ 32 → c ≠ 33 → newRd σ m t v c = σ c := fun c a b d => by
    unfold newRd
    rw [sS_col a, sS_col d, sS_col b]
  have c31 : ∀ j, j ≠ m → newRd σ m t v 31 j = σ 31 j := fun j hj => by
    unfold newRd
    rw [sS_ne (fun _ => hj), sS_col (by decide), sS_col (by decide)]
  have e31 : ix (newRd σ m t v 31 m) = ix (σ 31 m) + 1 := by
    rw [show newRd σ m t v 31 m = σ 31 m + 1 from sS_same ..]
    obtain ⟨z, _⟩ := cnt (N := 10) (hI.1 31 m) (by decide)
    rw [show σ 31 m + 1 = nI (ix (σ 31 m) + 1) by rw [← nI_1, ← z], ixn (by omega)]
  have cN : ∀ c i, c = 32 ∨ c = 33 → i ≠ 10 * m + ix (σ 31 m) → newRd σ m t v c i = σ c i := fun c i a hi => by
    unfold newRd
    rw [sS_col (by omega), sS_ne (fun _ => hi), sS_ne (fun _ => hi)]
  have d32 : newRd σ m t v 32 (10 * m + ix (σ 31 m)) = t := by
    unfold newRd
    rw [sS_col (by decide), sS_col (by decide), sS_same]
  have d33 : newRd σ m t v 33 (10 * m + ix (σ 31 m)) = v := by
    unfold newRd
    rw [sS_col (by decide), sS_same]
  generalize newRd σ m t v = σ' at *
  have hL : ∀ k, xL σ' k = if k = m + 6 then ix (σ 31 m) + 1 else xL σ k := fun k => by
    match k with
    | 0 => rw [if_neg (by omega)]; rfl
    | 1 => rw [if_neg (by omega)]; rfl
    | 2 => rw [if_neg (by omega)]; show ix (σ' 8 0) = ix (σ 8 0); rw [cc 8 (by decide) (by decide) (by decide)]
    | 3 => rw [if_neg (by omega)]; show ix (σ' 13 0) = ix (σ 13 0); rw [cc 13 (by decide) (by decide) (by decide)]
    | 4 => rw [if_neg (by omega)]; show ix (σ' 26 0) = ix (σ 26 0); rw [cc 26 (by decide) (by decide) (by decide)]
    | 5 => rw [if_neg (by omega)]; show ix (σ' 37 0) = ix (σ 37 0); rw [cc 37 (by decide) (by decide) (by decide)]
    | j + 6 =>
      by_cases w : j = m
      · subst w
        rw [if_pos rfl]
        exact e31
      · rw [if_neg (by omega)]
        show ix (σ' 31 j) = ix (σ 31 j)
        rw [c31 j w]
  have hm' : m + 6 < 6 + ix (σ' 26 0) := by rw [cc 26 (by decide) (by decide) (by decide)]; omega
  refine RX.addP (q := m + 6) (kd := 12) (nn := 10 * m + ix (σ 31 m)) (n := ix (σ 31 m)) hR hcap (by omega) rfl he hA ⟨by decide, by decide⟩ (Or.inl (by decide)) ?_ ?_ ?_ ?_ hL (by rw [cc 26 (by decide) (by decide) (by decide)])
  · intro d c
    show (if (10 * m + ix (σ 31 m)) / 10 < ix (σ' 26 0) ∧ (10 * m + ix (σ 31 m)) % 10 < ix (σ' 31 ((10 * m + ix (σ 31 m)) / 10)) then some (Sum.inr (6, xReading σ' (10 * m + ix (σ 31 m)))) else none) = _
    rw [show (10 * m + ix (σ 31 m)) / 10 = m by omega, e31, if_pos ⟨by omega, by omega⟩]
    unfold xReading
    rw [d32, d33]
  · intro d c k i a1 a2 a3
    have g : ∀ k i, k ≠ 12 → k ≠ 2 → gR ρ 12 (10 * m + ix (σ 31 m)) e (m + 6) d k i = ρ k i := fun k i z1 z2 => gR_o (fun z => z1 z.1) (fun z => z2 z.1)
    have g2 : ∀ i, i ≠ m + 6 → gR ρ 12 (10 * m + ix (σ 31 m)) e (m + 6) d 2 i = ρ 2 i := fun i z => gR_o (fun z => absurd z.1 (by decide)) (fun w => z w.2)
    have gk : ∀ i, i ≠ 10 * m + ix (σ 31 m) → gR ρ 12 (10 * m + ix (σ 31 m)) e (m + 6) d 12 i = ρ 12 i := fun i z => gR_o (fun w => z w.2) (fun z => absurd z.1 (by decide))
    have m0 : ∀ i, i ≠ m + 6 → gM μ (m + 6) (μ 0 (m + 6) + 1) 0 i = μ 0 i := fun i z => if_neg (fun w => z w.2)
    have mk : ∀ k, k ≠ 0 → gM μ (m + 6) (μ 0 (m + 6) + 1) k = μ k := fun k z => funext fun i => if_neg (fun w => z w.1)
    have cq : ∀ i, i ≠ m + 6 → gC cap (m + 6) c i = cap i := fun i z => if_neg z
    have hF : ∀ z, xF σ' z = xF σ z := fun z => by
      unfold xF
      rw [cc 7 (by decide) (by decide) (by decide)]
    have hD : ∀ k, k ≠ m + 6 → (xL σ k ≤ 10 ∨ k < 6) → xD (gR ρ 12 (10 * m + ix (σ 31 m)) e (m + 6) d) σ' k = xD ρ σ k := fun k z hb => by
      unfold xD
      funext i
      rw [hL, if_neg z]
      by_cases v : i < xL σ k
      · rw [if_pos v, if_pos v]
        have : xE (gR ρ 12 (10 * m + ix (σ 31 m)) e (m + 6) d) k i = xE ρ k i := by
          match k with
          | 0 => exact g 6 i (by decide) (by decide)
          | 1 => exact g 8 i (by decide) (by decide)
          | 2 => exact g 9 i (by decide) (by decide)
          | 3 => exact g 10 i (by decide) (by decide)
          | 4 => exact g 11 i (by decide) (by decide)
          | 5 => exact g 13 i (by decide) (by decide)
          | j + 6 => exact gk (10 * j + i) (by omega)
        rw [this]
      · rw [if_neg v, if_neg v]
    match k with
    | 1 =>
      have hi : i ≠ m + 6 := fun z => a2 ⟨rfl, z⟩
      show (if i < 6 + ix (σ' 26 0) then some (Sum.inr (0, xList (gR ρ 12 (10 * m + ix (σ 31 m)) e (m + 6) d) (gM μ (m + 6) (μ 0 (m + 6) + 1)) σ' i)) else none) = (if i < 6 + ix (σ 26 0) then some (Sum.inr (0, xList ρ μ σ i)) else none)
      unfold xList
      rw [g2 i hi, m0 i hi, hL, if_neg hi, cc 26 (by decide) (by decide) (by decide)]
    | 2 =>
      have hi : i ≠ m + 6 := fun z => a3 ⟨rfl, z⟩
      show (if i < 6 + ix (σ' 26 0) ∧ 0 < gC cap (m + 6) c i then some (Sum.inl (ca 2, gC cap (m + 6) c i, fRefs (xD (gR ρ 12 (10 * m + ix (σ 31 m)) e (m + 6) d) σ' i))) else none) = (if i < 6 + ix (σ 26 0) ∧ 0 < cap i then some (Sum.inl (ca 2, cap i, fRefs (xD ρ σ i))) else none)
      rw [cq i hi, cc 26 (by decide) (by decide) (by decide), hD i hi (by
        match i with
        | 0 | 1 | 2 | 3 | 4 | 5 => exact Or.inr (by omega)
        | j + 6 => exact Or.inl (IX_reads hI j))]
    | 12 =>
      have hi : i ≠ 10 * m + ix (σ 31 m) := fun z => a1 ⟨rfl, z⟩
      show (if i / 10 < ix (σ' 26 0) ∧ i % 10 < ix (σ' 31 (i / 10)) then some (Sum.inr (6, xReading σ' i)) else none) = (if i / 10 < ix (σ 26 0) ∧ i % 10 < ix (σ 31 (i / 10)) then some (Sum.inr (6, xReading σ i)) else none)
      unfold xReading
      rw [cc 26 (by decide) (by decide) (by decide), cN 32 i (Or.inl rfl) hi, cN 33 i (Or.inr rfl) hi]
      by_cases w : i / 10 = m
      · rw [w, e31]
        by_cases v : i % 10 < ix (σ 31 m)
        · rw [if_pos (show m < ix (σ 26 0) ∧ i % 10 < ix (σ 31 m) + 1 by omega), if_pos (show m < ix (σ 26 0) ∧ i % 10 < ix (σ 31 m) by omega)]
        · rw [if_neg (show ¬ (m < ix (σ 26 0) ∧ i % 10 < ix (σ 31 m) + 1) by omega), if_neg (show ¬ (m < ix (σ 26 0) ∧ i % 10 < ix (σ 31 m)) by omega)]
      · rw [c31 _ w]
    | 0 | 3 | 4 | 5 | 6 | 7 | 8 | 9 | 10 | 11 | 13 | 14 | 15 =>
      unfold xC
      simp (disch := first | decide | omega) only [xRoot, xLabel, xWalk, xChoice, xZone, hF, xPlace, xVillage, xLamp, xMeter, xSat, g, mk, cc]
    | k + 16 => rw [xC_hi (by omega), xC_hi (by omega)]
  · intro d c
    show (if m + 6 < 6 + ix (σ' 26 0) then some (Sum.inr (0, xList (gR ρ 12 (10 * m + ix (σ 31 m)) e (m + 6) d) (gM μ (m + 6) (μ 0 (m + 6) + 1)) σ' (m + 6))) else none) = _
    rw [if_pos hm']
    unfold xList
    rw [hL, if_pos rfl, show gM μ (m + 6) (μ 0 (m + 6) + 1) 0 (m + 6) = μ 0 (m + 6) + 1 from if_pos ⟨rfl, rfl⟩, show gR ρ 12 (10 * m + ix (σ 31 m)) e (m + 6) d 2 (m + 6) = d from (if_neg (fun z => absurd z.1 (by decide))).trans (if_pos ⟨rfl, rfl⟩)]
  · intro d c hc
    show (if m + 6 < 6 + ix (σ' 26 0) ∧ 0 < gC cap (m + 6) c (m + 6) then some (Sum.inl (ca 2, gC cap (m + 6) c (m + 6), fRefs (xD (gR ρ 12 (10 * m + ix (σ 31 m)) e (m + 6) d) σ' (m + 6)))) else none) = _
    have e1 : gC cap (m + 6) c (m + 6) = c := if_pos rfl
    rw [e1, if_pos ⟨hm', hc⟩]
    have e2 : xD (gR ρ 12 (10 * m + ix (σ 31 m)) e (m + 6) d) σ' (m + 6) = va_up (xD ρ σ (m + 6)) (ix (σ 31 m)) (some e) := by
      funext i
      unfold xD va_up
      rw [hL, if_pos rfl]
      show (if i < ix (σ 31 m) + 1 then some (gR ρ 12 (10 * m + ix (σ 31 m)) e (m + 6) d 12 (10 * m + i)) else none) = (if i = ix (σ 31 m) then some e else if i < ix (σ 31 m) then some (ρ 12 (10 * m + i)) else none)
      by_cases w : i = ix (σ 31 m)
      · rw [if_pos (show i < ix (σ 31 m) + 1 by omega), if_pos w, w]
        exact congrArg some (if_pos ⟨rfl, rfl⟩)
      · rw [if_neg w]
        by_cases v : i < ix (σ 31 m)
        · rw [if_pos (show i < ix (σ 31 m) + 1 by omega), if_pos v]
          exact congrArg some (gR_o (fun z => by omega) (fun z => absurd z.1 (by decide)))
        · rw [if_neg (show ¬ i < ix (σ 31 m) + 1 by omega), if_neg v]
    rw [e2]
theorem InvX_ro {σ σ' : St} (hI : InvX σ) (h : ∀ c, c ≠ 31 → c ≠ 32 → c ≠ 33 → c < 40 → σ' c = σ c) (h31 : ∀ i, vp_in (σ' 31 i) 11 ∧ (ix (σ 26 0) ≤ i → σ' 31 i = 0)) : InvX σ' := by
  obtain ⟨i1, i2, i3, i4, i5, i6⟩ := hI
  refine ⟨?_, ?_, ?_, ?_, ?_, ?_⟩
  · intro k i
    by_cases a : k = 31
    · subst a; exact (h31 i).1
    by_cases b : k = 32
    · subst b; trivial
    by_cases c : k = 33
    · subst c; trivial
    by_cases d : k < 40
    · rw [h k a b c d]; exact i1 k i
    · unfold cOK
      split <;> first | exact absurd (by decide) d | trivial
  · rw [h 13 (by decide) (by decide) (by decide) (by decide), h 14 (by decide) (by decide) (by decide) (by decide), h 8 (by decide) (by decide) (by decide) (by decide)]; exact i2
  · rw [h 37 (by decide) (by decide) (by decide) (by decide), h 38 (by decide) (by decide) (by decide) (by decide)]; exact i3
  · rw [h 13 (by decide) (by decide) (by decide) (by decide), h 19 (by decide) (by decide) (by decide) (by decide), h 22 (by decide) (by decide) (by decide) (by decide), h 23 (by decide) (by decide) (by decide) (by decide), h 24 (by decide) (by decide) (by decide) (by decide)]; exact i4
  · rw [h 8 (by decide) (by decide) (by decide) (by decide), h 11 (by decide) (by decide) (by decide) (by decide), h 12 (by decide) (by decide) (by decide) (by decide)]; exact i5
  · rw [h 26 (by decide) (by decide) (by decide) (by decide), h 30 (by decide) (by decide) (by decide) (by decide)]
    exact fun j hj => ⟨(i6 j hj).1, (h31 j).2 hj⟩
theorem InvX_remRd {σ : St} (hI : InvX σ) {m : Nat} (hm : m < ix (σ 26 0)) (h10 : σ 31 m = 10) : InvX (remRd σ m) := by
  refine InvX_ro hI (fun c a b d _ => remRd_c a b d) (fun i => ?_)
  by_cases w : i = m
  · subst w
    rw [remRd_31m, h10]
    exact ⟨vp_in_iff.mpr ⟨by decide, by decide⟩, fun z => by omega⟩
  · rw [remRd_31 w]
    exact ⟨hI.1 31 i, fun z => (hI.2.2.2.2.2 i z).2⟩
theorem newRd_c {σ : St} {m : Nat} {t v : Int32} {c : Nat} (a : c ≠ 31) (b : c ≠ 32) (d : c ≠ 33) : newRd σ m t v c = σ c := by
  unfold newRd
  rw [sS_col a, sS_col d, sS_col b]
theorem InvX_newRd {σ : St} (hI : InvX σ) {m : Nat} {t v : Int32} (hm : m < ix (σ 26 0)) (hr : ix (σ 31 m) < 10) : InvX (newRd σ m t v) := by
  refine InvX_ro hI (fun c a b d _ => newRd_c a b d) (fun i => ?_)
  by_cases w : i = m
  · subst w
    rw [show newRd σ i t v 31 i = σ 31 i + 1 from sS_same ..]
    obtain ⟨z, _⟩ := cnt (N := 10) (hI.1 31 i) (by decide)
    refine ⟨?_, fun z => by omega⟩
    rw [show σ 31 i + 1 = nI (ix (σ 31 i) + 1) by rw [← nI_1, ← z]]
    exact vp_in_nI (by omega) (by decide)
  · rw [show newRd σ m t v 31 i = σ 31 i by unfold newRd; rw [sS_ne (fun _ => w), sS_col (by decide), sS_col (by decide)]]
    exact ⟨hI.1 31 i, fun z => (hI.2.2.2.2.2 i z).2⟩
theorem r10 {σ : St} (hI : InvX σ) {m : Nat} : ix (σ 31 m) < 10 ↔ ¬ σ 31 m = 10 := by
  obtain ⟨z, hle⟩ := cnt (N := 10) (hI.1 31 m) (by decide)
  constructor
  · intro h w
    rw [w] at h
    exact absurd h (by decide)
  · intro h
    refine Classical.byContradiction fun w => h ?_
    rw [z, show ix (σ 31 m) = 10 by omega]
    rfl
theorem keep_c {σ : St} {m : Nat} {t v : Int32} {c : Nat} (a : c ≠ 31) (b : c ≠ 32) (d : c ≠ 33) : keepS σ m t v c = σ c := by
  unfold keepS
  rw [newRd_c a b d]
  split
  · exact remRd_c a b d
  · rfl
theorem InvX_keep {σ : St} (hI : InvX σ) {m : Nat} {t v : Int32} (hm : m < ix (σ 26 0)) : InvX (keepS σ m t v) := by
  unfold keepS
  by_cases w : σ 31 m = 10
  · rw [if_pos w]
    refine InvX_newRd (InvX_remRd hI hm w) (by rw [remRd_c (by decide) (by decide) (by decide)]; exact hm) ?_
    rw [remRd_31m, w]
    decide
  · rw [if_neg w]
    exact InvX_newRd hI hm ((r10 hI).mpr w)
theorem cw_X3_keep : Cond.instanceMethod yX3_keep ∈ GW ∧ Cond.selects RX3 yX3_keep yX3_keep ∈ GW ∧ Cond.initialized RX3 ∈ GW ∧ Cond.code yX3_keep cX3_keep 2 none ∈ GW ∧ yX3_keep.cls = RX3 ∧ (yX3_keep.cls ≠ "java/lang/invoke/MethodHandle" ∧ yX3_keep.cls ≠ "java/lang/invoke/VarHandle") ∧ (parseMethodDescriptor yX3_keep.desc).map (fun d => d.parameters.length) = some 1 := ⟨gw_3_219, gw_3_220, gw_1_24, gw_3_221, rfl, ⟨by decide, by decide⟩, by decide +kernel⟩
theorem c_keep {l : Launch} {D : va_G} {ca : Nat → Nat} {h : fH} {ρ : Nat → Nat → Nat} {μ : Nat → Nat → Int32} {cap : Nat → Nat} {σ : St} (hR : RX ca h ρ μ cap σ) (hI : InvX σ) (hcap : ∀ k, cap k ≤ 100) {m e : Nat} {t v : Int32} (hm : m < ix (σ 26 0)) (he : h e = none) : FM l D ca yX3_keep (.code yX3_keep cX3_keep 2 none) { frames := 7, cells := 1, slots := 100, locals := 290 } [.ref (ρ 11 m), .ref e] (fU h e (.inr (6, [.int t, .int v]))) (pVM (fun h2 => RA ca h2 (ρ 0 0) (keepS σ m t v))) noX := by
  refine FM.of [some (.ref (ρ 11 m)), some (.ref e)] (by decide) (Nat.le_of_ble_eq_true rfl) rfl ?_
  rintro K X rfl rfl rfl
  have K21 : ∀ (ρ1 : Nat → Nat → Nat) (μ1 : Nat → Nat → Int32) (σ1 : St) (h1 : fH), RX (kca K) h1 ρ1 μ1 cap σ1 → InvX σ1 → h1 e = none → m < ix (σ1 26 0) → ρ1 11 m = ρ 11 m → ρ1 0 0 = ρ 0 0 → ix (σ1 31 m) < 10 → newRd σ1 m t v = keepS σ m t v → J K (fU h1 e (.inr (6, [.int t, .int v]))) [some (.ref (ρ 11 m)), some (.ref e)] [] 21 0 0 := by
    intro ρ1 μ1 σ1 h1 hR1 hI1 he1 hm1 er e0 hr ek
    rw [← er]
    refine J_aload_0 X dX3_keep_21 ?_
    refine J_get X (C := RX3) (T := TX3) (N := 5) (ref := "NightValley$Meter") ((hR1.fresh he1).meter hm1) rfl 3 (by decide) rfl in_X3 gw_3_167 (fun _ z => z) dX3_keep_22 ?_
    refine J_aload_1 X dX3_keep_25 ?_
    refine J_callV X (c_addX hR1 hI1 hcap (q := m + 6) (by omega) he1 rfl (cst_in (i := 27) rfl)) (And.intro gw_3_232 cw_Jx4a65c_add_9ea2d) (add_list hR1 (q := m + 6) (by omega) he1) rfl rfl rfl (Nat.le_of_ble_eq_true rfl) dX3_keep_26 rfl (fun v3 h3 qq => ?_) JE.no
    obtain ⟨e4, hA⟩ := qq
    subst e4
    show J K h3 [some (.ref (ρ1 11 m)), some (.ref e)] [.int 1] 29 1 100
    refine J_pop X dX3_keep_29 rfl ?_
    refine J_vret X rfl rfl ⟨rfl, ?_⟩ dX3_keep_30
    rw [← ek, ← e0]
    exact RX.addRd hR1 hI1 hcap hm1 hr he1 hA
  have hRf := hR.fresh (x := .inr (6, [.int t, .int v])) he
  have hxL : xL σ (m + 6) = ix (σ 31 m) := rfl
  obtain ⟨z31, hle⟩ := cnt (N := 10) (hI.1 31 m) (by decide)
  refine J_aload_0 X dX3_keep_0 ?_
  refine J_get X (C := RX3) (T := TX3) (N := 5) (ref := "NightValley$Meter") (hRf.meter hm) rfl 3 (by decide) rfl in_X3 gw_3_167 (fun _ z => z) dX3_keep_1 ?_
  refine J_callV X (c_Xsize hRf (k := m + 6) (by omega)) (And.intro gw_3_222 cw_Jx4a65c_size_8abf5) (hRf.list (k := m + 6) (by omega)) rfl rfl rfl (Nat.le_of_ble_eq_true rfl) dX3_keep_4 rfl (J.pi ?_) JE.no
  refine J_bipush (v := (10 : Int32)) X dX3_keep_7 (by decide) ?_
  rw [hxL]
  refine J_icmp_lt (tgt := 21) X dX3_keep_9 (by decide) (fun c => ?_) (fun c => ?_)
  · have hr : ix (σ 31 m) < 10 := Classical.byContradiction fun w => not_lt32.mpr ((nI_leI (a := 10) (b := ix (σ 31 m)) (by omega) (by omega)).mpr (by omega)) c
    exact K21 ρ μ σ h hR hI he hm rfl rfl hr (by unfold keepS; rw [if_neg ((r10 hI).mp hr)])
  · have h10 : σ 31 m = 10 := Classical.byContradiction fun w => c (by
      have hr := (r10 hI).mpr w
      exact Classical.byContradiction fun y => absurd ((nI_leI (a := 10) (b := ix (σ 31 m)) (by omega) (by omega)).mp (not_lt32.mp y)) (by omega))
    have i10 : ix (σ 31 m) = 10 := by rw [h10]; rfl
    have hcp : 0 < cap (m + 6) := by
      have := (hR.2.2 (m + 6) (by omega)).1
      omega
    refine J_aload_0 X dX3_keep_12 ?_
    refine J_get X (C := RX3) (T := TX3) (N := 5) (ref := "NightValley$Meter") (hRf.meter hm) rfl 3 (by decide) rfl in_X3 gw_3_167 (fun _ z => z) dX3_keep_13 ?_
    refine J_iconst (v := 0) X dX3_keep_16 rfl ?_
    have hlist := hRf.list (k := m + 6) (by omega)
    have hlist' : fU h e (.inr (6, [.int t, .int v])) (ρ 1 (m + 6)) = some (.inr (0, [.int (μ 0 (m + 6)), .ref (ρ 2 (m + 6)), .int (nI 10)])) := by
      rw [hlist]
      unfold xList
      rw [hxL, i10]
    refine J_callV X (c_rem (n := 10) (f := xD ρ σ (m + 6)) (y0 := ρ 12 (10 * m + 0)) hlist' (hRf.data (k := m + 6) (i := 0) (by omega) (by omega)) (by decide) (by have := (hR.2.2 (m + 6) (by omega)).1; omega) (hcap _) (fun i hi y hy => hRf.ok hI (q := m + 6) (by omega) (by omega) hy) (fun i y hy z => ?_) ?_) (And.intro gw_3_223 cw_Jx4a65c_remove_915e3) hlist rfl rfl rfl (Nat.le_of_ble_eq_true rfl) dX3_keep_17 rfl (fun v3 h3 qq => ?_) JE.no
    · by_cases w : i < xL σ (m + 6)
      · obtain ⟨ci, vs, o1, o2⟩ := hRf.elem hI (q := m + 6) (by omega) w hy
        rw [z, hlist'] at o1
        cases o1
        exact o2 rfl
      · unfold xD at hy
        rw [if_neg w] at hy
        cases hy
    · unfold xD
      rw [if_pos (by omega)]
      rfl
    · obtain ⟨e4, hA⟩ := qq
      subst e4
      show J K h3 [some (.ref (ρ 11 m)), some (.ref e)] [.ref (ρ 12 (10 * m + 0))] 20 0 0
      refine J_pop X dX3_keep_20 rfl ?_
      have hRr := hR.remR hI hm h10
      have heL : e ≠ ρ 1 (m + 6) := fun z => by
        have := hR.list (k := m + 6) (by omega)
        rw [← z, he] at this
        cases this
      have hed : e ≠ ρ 2 (m + 6) := fun z => by
        have := hR.data (k := m + 6) (i := 0) (by omega) (by omega)
        rw [← z, he] at this
        cases this
      have eh : h3 = fU (fU (fU h (ρ 2 (m + 6)) (.inl (kca K 2, cap (m + 6), fRefs (rmF (xD ρ σ (m + 6)) 10)))) (ρ 1 (m + 6)) (.inr (0, [.int (μ 0 (m + 6) + 1), .ref (ρ 2 (m + 6)), .int (nI 9)]))) e (.inr (6, [.int t, .int v])) := by
        rw [hA]
        funext x
        by_cases w : x = e
        · rw [w, fU_ne heL, fU_ne hed, fU_same, fU_same]
        · rw [fU_ne w]
          by_cases u : x = ρ 1 (m + 6)
          · rw [u, fU_same, fU_same]
          · rw [fU_ne u, fU_ne u]
            by_cases y : x = ρ 2 (m + 6)
            · rw [y, fU_same, fU_same]
            · rw [fU_ne y, fU_ne y, fU_ne w]
      rw [eh]
      refine K21 (rF ρ m) _ (remRd σ m) _ hRr (InvX_remRd hI hm h10) (by rw [fU_ne heL, fU_ne hed]; exact he) (by rw [remRd_c (by decide) (by decide) (by decide)]; exact hm) (if_neg (fun z => absurd z.1 (by decide))) (if_neg (fun z => absurd z.1 (by decide))) ?_ (by unfold keepS; rw [if_pos h10])
      rw [remRd_31m, h10]
      decide
end
