noncomputable section
theorem cw_X11_init : Cond.instanceMethod yX11_init ∈ GW ∧ Cond.initialized yX11_init.cls ∈ GW ∧ Cond.code yX11_init cX11_init 2 none ∈ GW ∧ yX11_init.name = "<init>" ∧ (yX11_init.cls ≠ "java/lang/invoke/MethodHandle" ∧ yX11_init.cls ≠ "java/lang/invoke/VarHandle") ∧ (parseMethodDescriptor yX11_init.desc).map (fun d => d.parameters.length) = some 0 := ⟨gw_5_7, gw_1_14, gw_5_8, rfl, ⟨by decide, by decide⟩, by decide +kernel⟩
/-- how the valley begins -/
def isInit (σ : St) : Prop := (∀ k, k < 40 → k ≠ 4 → k ≠ 5 → σ k = fun _ => 0) ∧ (∀ z, z < 4 → σ 4 z = 24 ∧ σ 5 z = 2)
theorem cntF_0 {f : Nat → Int32} : ∀ n, (∀ k, k < n → f k = 0) → cntF f n = 0 := by
  intro n
  induction n with
  | zero => intro _; rfl
  | succ n ih =>
    intro h
    show cntF f n + (if f n = 0 then 0 else 1) = 0
    rw [ih (fun k hk => h k (by omega)), if_pos (h n (by omega))]
    rfl
theorem CX.done {ca : Nat → Nat} {h : fH} {ρ : Nat → Nat → Nat} {μ : Nat → Nat → Int32} {cap : Nat → Nat} {r : Nat} (hC : CX ca h ρ μ cap 4 64 r) {σ : St} (hs : isInit σ) : RA ca h r σ := by
  obtain ⟨hG, hc, hr, hcap⟩ := hC
  obtain ⟨s0, s45⟩ := hs
  have z : ∀ k i, k < 40 → k ≠ 4 → k ≠ 5 → σ k i = 0 := fun k i a b c => by rw [s0 k a b c]
  have hx0 : ix (0 : Int32) = 0 := rfl
  have hL : ∀ k, k < 6 → xL σ k = cL 4 64 k := fun k hk => by
    match k with
    | 0 | 1 => rfl
    | 2 => show ix (σ 8 0) = 0; rw [z 8 0 (by decide) (by decide) (by decide)]; rfl
    | 3 => show ix (σ 13 0) = 0; rw [z 13 0 (by decide) (by decide) (by decide)]; rfl
    | 4 => show ix (σ 26 0) = 0; rw [z 26 0 (by decide) (by decide) (by decide)]; rfl
    | 5 => show ix (σ 37 0) = 0; rw [z 37 0 (by decide) (by decide) (by decide)]; rfl
    | k + 6 => omega
  have z26 : ix (σ 26 0) = 0 := hL 4 (by decide)
  have hsub : ∀ k i x, xC ca ρ (fun k => if k = 0 then μ 0 else fun _ => 0) cap σ k i = some x → cC ca ρ μ cap 4 64 k i = some x := by
    intro k i x hx
    match k with
    | 0 =>
      rw [← hx]
      show _ = (if i = 0 then some (Sum.inr (11, xRoot ρ σ)) else none)
      unfold xRoot
      rw [z 0 0 (by decide) (by decide) (by decide), z 1 0 (by decide) (by decide) (by decide)]
      rfl
    | 1 =>
      have hx' : (if i < 6 + ix (σ 26 0) then some (Sum.inr (0, xList ρ (fun k => if k = 0 then μ 0 else fun _ => 0) σ i)) else none) = some x := hx
      rw [z26] at hx'
      by_cases v : i < 6
      · rw [if_pos v] at hx'
        rw [← hx']
        unfold xList
        rw [hL i v]
        exact if_pos v
      · rw [if_neg v] at hx'
        cases hx'
    | 2 =>
      have hx' : (if i < 6 + ix (σ 26 0) ∧ 0 < cap i then some (Sum.inl (ca 2, cap i, fRefs (xD ρ σ i))) else none) = some x := hx
      rw [z26] at hx'
      by_cases v : i < 6 ∧ 0 < cap i
      · rw [if_pos v] at hx'
        rw [← hx']
        have : xD ρ σ i = cD ρ 4 64 i := by
          unfold xD cD
          rw [hL i v.1]
        rw [this]
        exact if_pos v
      · rw [if_neg v] at hx'
        cases hx'
    | 3 =>
      rw [← hx]
      show _ = (if i = 0 then some (Sum.inr (2, xLabel σ)) else none)
      unfold xLabel
      rw [z 34 0 (by decide) (by decide) (by decide), z 35 0 (by decide) (by decide) (by decide), z 36 0 (by decide) (by decide) (by decide)]
      rfl
    | 4 => exact hx
    | 5 => exact hx
    | 6 =>
      have hx' : (if i < 4 then some (Sum.inr (10, xZone ρ σ i)) else none) = some x := hx
      by_cases v : i < 4
      · rw [if_pos v] at hx'
        rw [← hx']
        unfold xZone
        rw [(s45 i v).1, (s45 i v).2, z 6 i (by decide) (by decide) (by decide), cntF_0 n1000 (fun k _ => z 7 _ (by decide) (by decide) (by decide))]
        exact if_pos v
      · rw [if_neg v] at hx'
        cases hx'
    | 7 =>
      rw [← hx]
      show (if i < 4 then some (zF ca) else none) = (if i < 4 then some (Sum.inl (ca 1, 1000, Sum.inl (xF σ i))) else none)
      have : xF σ i = fun _ => 0 := by
        funext q
        unfold xF
        rw [z 7 _ (by decide) (by decide) (by decide), ite_self]
      rw [this]
    | 8 =>
      rw [← hx]
      show (if i < 64 then some (Sum.inr (5, [Value.int (nI (i % 8)), Value.int (nI (i / 8)), Value.ref (ρ 6 0), Value.int 0])) else none) = (if i < 64 then some (Sum.inr (5, xPlace ρ σ i)) else none)
      unfold xPlace
      rw [z 3 i (by decide) (by decide) (by decide), z 2 i (by decide) (by decide) (by decide)]
      rfl
    | 9 =>
      have hx' : (if i < ix (σ 8 0) then some (Sum.inr (8, xVillage σ i)) else none) = some x := hx
      rw [z 8 0 (by decide) (by decide) (by decide), hx0, if_neg (Nat.not_lt_zero i)] at hx'
      cases hx'
    | 10 =>
      have hx' : (if i < ix (σ 13 0) then some (Sum.inr (3, xLamp ρ σ i)) else none) = some x := hx
      rw [z 13 0 (by decide) (by decide) (by decide), hx0, if_neg (Nat.not_lt_zero i)] at hx'
      cases hx'
    | 11 =>
      have hx' : (if i < ix (σ 26 0) then some (Sum.inr (4, xMeter ρ σ i)) else none) = some x := hx
      rw [z26, if_neg (Nat.not_lt_zero i)] at hx'
      cases hx'
    | 12 =>
      have hx' : (if i / 10 < ix (σ 26 0) ∧ i % 10 < ix (σ 31 (i / 10)) then some (Sum.inr (6, xReading σ i)) else none) = some x := hx
      rw [z26, if_neg (fun w => Nat.not_lt_zero _ w.1)] at hx'
      cases hx'
    | 13 =>
      have hx' : (if i < ix (σ 37 0) then some (Sum.inr (7, xSat σ i)) else none) = some x := hx
      rw [z 37 0 (by decide) (by decide) (by decide), hx0, if_neg (Nat.not_lt_zero i)] at hx'
      cases hx'
    | 14 =>
      rw [← hx]
      show (if i < 3 then some (zI ca 64) else none) = (if i < 3 then some (Sum.inl (ca 0, 64, Sum.inl (if 10 + i = 0 then μ 0 else fun _ => 0))) else none)
      rw [if_neg (show ¬ 10 + i = 0 by omega)]
    | 15 =>
      rw [← hx]
      show (if i < 2 then some (zI ca 10) else none) = (if i < 2 then some (Sum.inl (ca 0, 10, Sum.inl (if 20 + i = 0 then μ 0 else fun _ => 0))) else none)
      rw [if_neg (show ¬ 20 + i = 0 by omega)]
    | k + 16 =>
      rw [xC_hi (by omega)] at hx
      cases hx
  have hg := hG.sub hsub
  refine ⟨ρ, _, cap, ⟨hg.1, hg.2, fun k hk => ?_⟩, hr, hcap⟩
  rw [z26] at hk
  obtain ⟨b1, b2, b3⟩ := hc k hk
  rw [hL k hk]
  exact ⟨b1, by omega, b3⟩
def pv (ρ : Nat → Nat) (j k : Nat) : Value := if k < j then .ref (ρ k) else .null
def mP (ρ : Nat → Nat) (j : Nat) : List Value := [.int 0, .int 0, pv ρ j 2, pv ρ j 3, pv ρ j 4, pv ρ j 5, pv ρ j 6, pv ρ j 7, .int 0, pv ρ j 9, pv ρ j 10, pv ρ j 11, pv ρ j 12, .int 0, pv ρ j 14, pv ρ j 15, pv ρ j 16, pv ρ j 17, pv ρ j 18, pv ρ j 19, pv ρ j 20, pv ρ j 21, pv ρ j 22, pv ρ j 23, pv ρ j 24, pv ρ j 25, .int 0, pv ρ j 27, pv ρ j 28, pv ρ j 29, pv ρ j 30, pv ρ j 31, pv ρ j 32, pv ρ j 33, .int 0, .int 0, .int 0, .int 0, pv ρ j 38, pv ρ j 39, pv ρ j 40, .int 0]
def PM (ca : Nat → Nat) (h : fH) (m : Nat) (ρ : Nat → Nat) (j : Nat) : Prop := h m = some (.inr (12, mP ρ j)) ∧ (∀ k, mArr k = true → k < j → h (ρ k) = some (.inl (ca (mT k), mLen k, .inl (fun _ => 0)))) ∧ ∀ k i, mArr k = true → mArr i = true → k < j → i < j → ρ k = ρ i → k = i
def rp (ρ : Nat → Nat) (j a : Nat) : Nat → Nat := fun k => if k = j then a else ρ k
theorem PM.step {ca : Nat → Nat} {h : fH} {m : Nat} {ρ : Nat → Nat} {j a : Nat} (hP : PM ca h m ρ j) (ha : h a = none) (hs : (mP ρ j).set j (.ref a) = mP (rp ρ j a) (j + 1)) : PM ca (fU (fU h a (.inl (ca (mT j), mLen j, .inl (fun _ => 0)))) m (.inr (12, (mP ρ j).set j (.ref a)))) m (rp ρ j a) (j + 1) := by
  have ma : m ≠ a := fun z => by
    have := hP.1
    rw [z, ha] at this
    cases this
  have old : ∀ k, mArr k = true → k < j → ρ k ≠ a ∧ ρ k ≠ m := fun k h1 h2 => by
    have := hP.2.1 k h1 h2
    refine ⟨fun z => ?_, fun z => ?_⟩
    · rw [z, ha] at this
      cases this
    · rw [z, hP.1] at this
      cases this
  refine ⟨by rw [fU_same, hs], fun k h1 h2 => ?_, fun k i h1 h2 h3 h4 e => ?_⟩
  · by_cases w : k = j
    · subst w
      rw [show rp ρ k a k = a from if_pos rfl, fU_ne ma.symm, fU_same]
    · have hk : k < j := by omega
      rw [show rp ρ j a k = ρ k from if_neg w, fU_ne (old k h1 hk).2, fU_ne (old k h1 hk).1]
      exact hP.2.1 k h1 hk
  · by_cases w : k = j
    · by_cases v : i = j
      · rw [w, v]
      · rw [w, show rp ρ j a j = a from if_pos rfl, show rp ρ j a i = ρ i from if_neg v] at e
        exact absurd e.symm (old i h2 (by omega)).1
    · by_cases v : i = j
      · rw [v, show rp ρ j a j = a from if_pos rfl, show rp ρ j a k = ρ k from if_neg w] at e
        exact absurd e (old k h1 (by omega)).1
      · rw [show rp ρ j a k = ρ k from if_neg w, show rp ρ j a i = ρ i from if_neg v] at e
        exact hP.2.2 k i h1 h2 (by omega) (by omega) e
theorem PM.skip {ca : Nat → Nat} {h : fH} {m : Nat} {ρ : Nat → Nat} {j : Nat} (hP : PM ca h m ρ j) (hj : mArr j = false) (hs : mP ρ j = mP ρ (j + 1)) : PM ca h m ρ (j + 1) := by
  have n : ∀ k, mArr k = true → k < j + 1 → k < j := fun k h1 h2 => by
    rcases Nat.lt_succ_iff_lt_or_eq.mp h2 with w | w
    · exact w
    · rw [w, hj] at h1
      cases h1
  exact ⟨by rw [← hs]; exact hP.1, fun k h1 h2 => hP.2.1 k h1 (n k h1 h2), fun k i h1 h2 h3 h4 => hP.2.2 k i h1 h2 (n k h1 h3) (n i h2 h4)⟩
def σz : St := fun _ _ => 0
def σI : St := sS (sS (sS (sS (sS (sS (sS (sS σz 4 (ix 0) 24) 5 (ix 0) 2) 4 (ix 1) 24) 5 (ix 1) 2) 4 (ix 2) 24) 5 (ix 2) 2) 4 (ix 3) 24) 5 (ix 3) 2
theorem mA42 {k : Nat} (h : mArr k = true) : k < 42 := Classical.byContradiction fun z => by
  unfold mArr at h
  split at h <;> first | omega | cases h
theorem c_newModel {l : Launch} {D : va_G} {ca : Nat → Nat} {h : fH} {m : Nat} (he : h m = some (.inr (12, [.int 0, .int 0, .null, .null, .null, .null, .null, .null, .int 0, .null, .null, .null, .null, .int 0, .null, .null, .null, .null, .null, .null, .null, .null, .null, .null, .null, .null, .int 0, .null, .null, .null, .null, .null, .null, .null, .int 0, .int 0, .int 0, .int 0, .null, .null, .null, .int 0]))) : FM l D ca yX11_init (.code yX11_init cX11_init 2 none) { frames := 1, cells := 32, slots := 4924, locals := 20 } [.ref m] h (pVM (fun h2 => ∃ ρ, RM ca h2 m ρ σI)) noX := by
  refine FM.of [some (.ref m), none] (by decide) (Nat.le_of_ble_eq_true rfl) rfl ?_
  rintro K X rfl rfl rfl
  refine J_aload_0 X dX11_init_0 ?_
  refine J_objInit X gw_5_9 rfl dX11_init_1 ?_
  have hP : PM (kca K) h m (fun _ => 0) 0 := ⟨he, fun k _ hk => absurd hk (Nat.not_lt_zero _), fun k i _ _ hk => absurd hk (Nat.not_lt_zero _)⟩
  clear he
  generalize (fun _ => 0 : Nat → Nat) = ρ at hP
  have hP := hP.skip (j := 0) rfl rfl
  have hP := hP.skip (j := 1) rfl rfl
  refine J_aload_0 X dX11_init_4 ?_
  refine J_bipush (v := 64) X dX11_init_5 (by decide) ?_
  refine J_newZ X (N := 64) (by decide) (by decide) (by decide) rfl dX11_init_7 (fun a2 ha => ?_)
  have hm1 := (fU_ne (h := h) (a := a2) (b := m) (e := .inl (kca K (mT 2), mLen 2, .inl (fun _ => 0))) (fun z => by have := hP.1; rw [z, ha] at this; cases this)).trans hP.1
  refine J_putF X (C := RX11) (T := TX11) (N := 42) (ref := "NightValleyModel") hm1 rfl 2 (by decide) (Nat.le_of_ble_eq_true rfl) in_X11 tyX11 tyX11_ok nmX11 rfl rfl rfl rfl rfl gw_5_12 (fun _ z => z) dX11_init_9 ?_
  have hP := hP.step ha rfl
  show J K (fU (fU h a2 (.inl (kca K (mT 2), mLen 2, .inl (fun _ => 0)))) m (.inr (12, (mP _ 2).set 2 (.ref a2)))) _ _ _ _ _
  generalize fU (fU h a2 (.inl (kca K (mT 2), mLen 2, .inl (fun _ => 0)))) m (.inr (12, (mP _ 2).set 2 (.ref a2))) = h at *
  generalize hq : rp _ 2 a2 = ρ at hP
  clear hq hm1 ha
  refine J_aload_0 X dX11_init_12 ?_
  refine J_bipush (v := 64) X dX11_init_13 (by decide) ?_
  refine J_newI X (N := 64) (by decide) (by decide) (by decide) rfl dX11_init_15 (fun a3 ha => ?_)
  have hm1 := (fU_ne (h := h) (a := a3) (b := m) (e := .inl (kca K (mT 3), mLen 3, .inl (fun _ => 0))) (fun z => by have := hP.1; rw [z, ha] at this; cases this)).trans hP.1
  refine J_putF X (C := RX11) (T := TX11) (N := 42) (ref := "NightValleyModel") hm1 rfl 3 (by decide) (Nat.le_of_ble_eq_true rfl) in_X11 tyX11 tyX11_ok nmX11 rfl rfl rfl rfl rfl gw_5_13 (fun _ z => z) dX11_init_17 ?_
  have hP := hP.step ha rfl
  show J K (fU (fU h a3 (.inl (kca K (mT 3), mLen 3, .inl (fun _ => 0)))) m (.inr (12, (mP _ 3).set 3 (.ref a3)))) _ _ _ _ _
  generalize fU (fU h a3 (.inl (kca K (mT 3), mLen 3, .inl (fun _ => 0)))) m (.inr (12, (mP _ 3).set 3 (.ref a3))) = h at *
  generalize hq : rp _ 3 a3 = ρ at hP
  clear hq hm1 ha
  refine J_aload_0 X dX11_init_20 ?_
  refine J_iconst (v := 4) X dX11_init_21 rfl ?_
  refine J_newI X (N := 4) (by decide) (by decide) (by decide) rfl dX11_init_22 (fun a4 ha => ?_)
  have hm1 := (fU_ne (h := h) (a := a4) (b := m) (e := .inl (kca K (mT 4), mLen 4, .inl (fun _ => 0))) (fun z => by have := hP.1; rw [z, ha] at this; cases this)).trans hP.1
  refine J_putF X (C := RX11) (T := TX11) (N := 42) (ref := "NightValleyModel") hm1 rfl 4 (by decide) (Nat.le_of_ble_eq_true rfl) in_X11 tyX11 tyX11_ok nmX11 rfl rfl rfl rfl rfl gw_5_14 (fun _ z => z) dX11_init_24 ?_
  have hP := hP.step ha rfl
  show J K (fU (fU h a4 (.inl (kca K (mT 4), mLen 4, .inl (fun _ => 0)))) m (.inr (12, (mP _ 4).set 4 (.ref a4)))) _ _ _ _ _
  generalize fU (fU h a4 (.inl (kca K (mT 4), mLen 4, .inl (fun _ => 0)))) m (.inr (12, (mP _ 4).set 4 (.ref a4))) = h at *
  generalize hq : rp _ 4 a4 = ρ at hP
  clear hq hm1 ha
  refine J_aload_0 X dX11_init_27 ?_
  refine J_iconst (v := 4) X dX11_init_28 rfl ?_
  refine J_newI X (N := 4) (by decide) (by decide) (by decide) rfl dX11_init_29 (fun a5 ha => ?_)
  have hm1 := (fU_ne (h := h) (a := a5) (b := m) (e := .inl (kca K (mT 5), mLen 5, .inl (fun _ => 0))) (fun z => by have := hP.1; rw [z, ha] at this; cases this)).trans hP.1
  refine J_putF X (C := RX11) (T := TX11) (N := 42) (ref := "NightValleyModel") hm1 rfl 5 (by decide) (Nat.le_of_ble_eq_true rfl) in_X11 tyX11 tyX11_ok nmX11 rfl rfl rfl rfl rfl gw_5_15 (fun _ z => z) dX11_init_31 ?_
  have hP := hP.step ha rfl
  show J K (fU (fU h a5 (.inl (kca K (mT 5), mLen 5, .inl (fun _ => 0)))) m (.inr (12, (mP _ 5).set 5 (.ref a5)))) _ _ _ _ _
  generalize fU (fU h a5 (.inl (kca K (mT 5), mLen 5, .inl (fun _ => 0)))) m (.inr (12, (mP _ 5).set 5 (.ref a5))) = h at *
  generalize hq : rp _ 5 a5 = ρ at hP
  clear hq hm1 ha
  refine J_aload_0 X dX11_init_34 ?_
  refine J_iconst (v := 4) X dX11_init_35 rfl ?_
  refine J_newI X (N := 4) (by decide) (by decide) (by decide) rfl dX11_init_36 (fun a6 ha => ?_)
  have hm1 := (fU_ne (h := h) (a := a6) (b := m) (e := .inl (kca K (mT 6), mLen 6, .inl (fun _ => 0))) (fun z => by have := hP.1; rw [z, ha] at this; cases this)).trans hP.1
  refine J_putF X (C := RX11) (T := TX11) (N := 42) (ref := "NightValleyModel") hm1 rfl 6 (by decide) (Nat.le_of_ble_eq_true rfl) in_X11 tyX11 tyX11_ok nmX11 rfl rfl rfl rfl rfl gw_5_16 (fun _ z => z) dX11_init_38 ?_
  have hP := hP.step ha rfl
  show J K (fU (fU h a6 (.inl (kca K (mT 6), mLen 6, .inl (fun _ => 0)))) m (.inr (12, (mP _ 6).set 6 (.ref a6)))) _ _ _ _ _
  generalize fU (fU h a6 (.inl (kca K (mT 6), mLen 6, .inl (fun _ => 0)))) m (.inr (12, (mP _ 6).set 6 (.ref a6))) = h at *
  generalize hq : rp _ 6 a6 = ρ at hP
  clear hq hm1 ha
  refine J_aload_0 X dX11_init_41 ?_
  refine J_sipush (v := 4000) X dX11_init_42 (by decide) ?_
  refine J_newZ X (N := 4000) (by decide) (by decide) (by decide) rfl dX11_init_45 (fun a7 ha => ?_)
  have hm1 := (fU_ne (h := h) (a := a7) (b := m) (e := .inl (kca K (mT 7), mLen 7, .inl (fun _ => 0))) (fun z => by have := hP.1; rw [z, ha] at this; cases this)).trans hP.1
  refine J_putF X (C := RX11) (T := TX11) (N := 42) (ref := "NightValleyModel") hm1 rfl 7 (by decide) (Nat.le_of_ble_eq_true rfl) in_X11 tyX11 tyX11_ok nmX11 rfl rfl rfl rfl rfl gw_5_17 (fun _ z => z) dX11_init_47 ?_
  have hP := hP.step ha rfl
  show J K (fU (fU h a7 (.inl (kca K (mT 7), mLen 7, .inl (fun _ => 0)))) m (.inr (12, (mP _ 7).set 7 (.ref a7)))) _ _ _ _ _
  generalize fU (fU h a7 (.inl (kca K (mT 7), mLen 7, .inl (fun _ => 0)))) m (.inr (12, (mP _ 7).set 7 (.ref a7))) = h at *
  generalize hq : rp _ 7 a7 = ρ at hP
  clear hq hm1 ha
  have hP := hP.skip (j := 8) rfl rfl
  refine J_aload_0 X dX11_init_50 ?_
  refine J_iconst (v := 5) X dX11_init_51 rfl ?_
  refine J_newI X (N := 5) (by decide) (by decide) (by decide) rfl dX11_init_52 (fun a9 ha => ?_)
  have hm1 := (fU_ne (h := h) (a := a9) (b := m) (e := .inl (kca K (mT 9), mLen 9, .inl (fun _ => 0))) (fun z => by have := hP.1; rw [z, ha] at this; cases this)).trans hP.1
  refine J_putF X (C := RX11) (T := TX11) (N := 42) (ref := "NightValleyModel") hm1 rfl 9 (by decide) (Nat.le_of_ble_eq_true rfl) in_X11 tyX11 tyX11_ok nmX11 rfl rfl rfl rfl rfl gw_5_19 (fun _ z => z) dX11_init_54 ?_
  have hP := hP.step ha rfl
  show J K (fU (fU h a9 (.inl (kca K (mT 9), mLen 9, .inl (fun _ => 0)))) m (.inr (12, (mP _ 9).set 9 (.ref a9)))) _ _ _ _ _
  generalize fU (fU h a9 (.inl (kca K (mT 9), mLen 9, .inl (fun _ => 0)))) m (.inr (12, (mP _ 9).set 9 (.ref a9))) = h at *
  generalize hq : rp _ 9 a9 = ρ at hP
  clear hq hm1 ha
  refine J_aload_0 X dX11_init_57 ?_
  refine J_iconst (v := 5) X dX11_init_58 rfl ?_
  refine J_newI X (N := 5) (by decide) (by decide) (by decide) rfl dX11_init_59 (fun a10 ha => ?_)
  have hm1 := (fU_ne (h := h) (a := a10) (b := m) (e := .inl (kca K (mT 10), mLen 10, .inl (fun _ => 0))) (fun z => by have := hP.1; rw [z, ha] at this; cases this)).trans hP.1
  refine J_putF X (C := RX11) (T := TX11) (N := 42) (ref := "NightValleyModel") hm1 rfl 10 (by decide) (Nat.le_of_ble_eq_true rfl) in_X11 tyX11 tyX11_ok nmX11 rfl rfl rfl rfl rfl gw_5_20 (fun _ z => z) dX11_init_61 ?_
  have hP := hP.step ha rfl
  show J K (fU (fU h a10 (.inl (kca K (mT 10), mLen 10, .inl (fun _ => 0)))) m (.inr (12, (mP _ 10).set 10 (.ref a10)))) _ _ _ _ _
  generalize fU (fU h a10 (.inl (kca K (mT 10), mLen 10, .inl (fun _ => 0)))) m (.inr (12, (mP _ 10).set 10 (.ref a10))) = h at *
  generalize hq : rp _ 10 a10 = ρ at hP
  clear hq hm1 ha
  refine J_aload_0 X dX11_init_64 ?_
  refine J_iconst (v := 5) X dX11_init_65 rfl ?_
  refine J_newI X (N := 5) (by decide) (by decide) (by decide) rfl dX11_init_66 (fun a11 ha => ?_)
  have hm1 := (fU_ne (h := h) (a := a11) (b := m) (e := .inl (kca K (mT 11), mLen 11, .inl (fun _ => 0))) (fun z => by have := hP.1; rw [z, ha] at this; cases this)).trans hP.1
  refine J_putF X (C := RX11) (T := TX11) (N := 42) (ref := "NightValleyModel") hm1 rfl 11 (by decide) (Nat.le_of_ble_eq_true rfl) in_X11 tyX11 tyX11_ok nmX11 rfl rfl rfl rfl rfl gw_5_21 (fun _ z => z) dX11_init_68 ?_
  have hP := hP.step ha rfl
  show J K (fU (fU h a11 (.inl (kca K (mT 11), mLen 11, .inl (fun _ => 0)))) m (.inr (12, (mP _ 11).set 11 (.ref a11)))) _ _ _ _ _
  generalize fU (fU h a11 (.inl (kca K (mT 11), mLen 11, .inl (fun _ => 0)))) m (.inr (12, (mP _ 11).set 11 (.ref a11))) = h at *
  generalize hq : rp _ 11 a11 = ρ at hP
  clear hq hm1 ha
  refine J_aload_0 X dX11_init_71 ?_
  refine J_iconst (v := 5) X dX11_init_72 rfl ?_
  refine J_newI X (N := 5) (by decide) (by decide) (by decide) rfl dX11_init_73 (fun a12 ha => ?_)
  have hm1 := (fU_ne (h := h) (a := a12) (b := m) (e := .inl (kca K (mT 12), mLen 12, .inl (fun _ => 0))) (fun z => by have := hP.1; rw [z, ha] at this; cases this)).trans hP.1
  refine J_putF X (C := RX11) (T := TX11) (N := 42) (ref := "NightValleyModel") hm1 rfl 12 (by decide) (Nat.le_of_ble_eq_true rfl) in_X11 tyX11 tyX11_ok nmX11 rfl rfl rfl rfl rfl gw_5_22 (fun _ z => z) dX11_init_75 ?_
  have hP := hP.step ha rfl
  show J K (fU (fU h a12 (.inl (kca K (mT 12), mLen 12, .inl (fun _ => 0)))) m (.inr (12, (mP _ 12).set 12 (.ref a12)))) _ _ _ _ _
  generalize fU (fU h a12 (.inl (kca K (mT 12), mLen 12, .inl (fun _ => 0)))) m (.inr (12, (mP _ 12).set 12 (.ref a12))) = h at *
  generalize hq : rp _ 12 a12 = ρ at hP
  clear hq hm1 ha
  have hP := hP.skip (j := 13) rfl rfl
  refine J_aload_0 X dX11_init_78 ?_
  refine J_bipush (v := 40) X dX11_init_79 (by decide) ?_
  refine J_newI X (N := 40) (by decide) (by decide) (by decide) rfl dX11_init_81 (fun a14 ha => ?_)
  have hm1 := (fU_ne (h := h) (a := a14) (b := m) (e := .inl (kca K (mT 14), mLen 14, .inl (fun _ => 0))) (fun z => by have := hP.1; rw [z, ha] at this; cases this)).trans hP.1
  refine J_putF X (C := RX11) (T := TX11) (N := 42) (ref := "NightValleyModel") hm1 rfl 14 (by decide) (Nat.le_of_ble_eq_true rfl) in_X11 tyX11 tyX11_ok nmX11 rfl rfl rfl rfl rfl gw_5_24 (fun _ z => z) dX11_init_83 ?_
  have hP := hP.step ha rfl
  show J K (fU (fU h a14 (.inl (kca K (mT 14), mLen 14, .inl (fun _ => 0)))) m (.inr (12, (mP _ 14).set 14 (.ref a14)))) _ _ _ _ _
  generalize fU (fU h a14 (.inl (kca K (mT 14), mLen 14, .inl (fun _ => 0)))) m (.inr (12, (mP _ 14).set 14 (.ref a14))) = h at *
  generalize hq : rp _ 14 a14 = ρ at hP
  clear hq hm1 ha
  refine J_aload_0 X dX11_init_86 ?_
  refine J_bipush (v := 40) X dX11_init_87 (by decide) ?_
  refine J_newI X (N := 40) (by decide) (by decide) (by decide) rfl dX11_init_89 (fun a15 ha => ?_)
  have hm1 := (fU_ne (h := h) (a := a15) (b := m) (e := .inl (kca K (mT 15), mLen 15, .inl (fun _ => 0))) (fun z => by have := hP.1; rw [z, ha] at this; cases this)).trans hP.1
  refine J_putF X (C := RX11) (T := TX11) (N := 42) (ref := "NightValleyModel") hm1 rfl 15 (by decide) (Nat.le_of_ble_eq_true rfl) in_X11 tyX11 tyX11_ok nmX11 rfl rfl rfl rfl rfl gw_5_25 (fun _ z => z) dX11_init_91 ?_
  have hP := hP.step ha rfl
  show J K (fU (fU h a15 (.inl (kca K (mT 15), mLen 15, .inl (fun _ => 0)))) m (.inr (12, (mP _ 15).set 15 (.ref a15)))) _ _ _ _ _
  generalize fU (fU h a15 (.inl (kca K (mT 15), mLen 15, .inl (fun _ => 0)))) m (.inr (12, (mP _ 15).set 15 (.ref a15))) = h at *
  generalize hq : rp _ 15 a15 = ρ at hP
  clear hq hm1 ha
  refine J_aload_0 X dX11_init_94 ?_
  refine J_bipush (v := 40) X dX11_init_95 (by decide) ?_
  refine J_newI X (N := 40) (by decide) (by decide) (by decide) rfl dX11_init_97 (fun a16 ha => ?_)
  have hm1 := (fU_ne (h := h) (a := a16) (b := m) (e := .inl (kca K (mT 16), mLen 16, .inl (fun _ => 0))) (fun z => by have := hP.1; rw [z, ha] at this; cases this)).trans hP.1
  refine J_putF X (C := RX11) (T := TX11) (N := 42) (ref := "NightValleyModel") hm1 rfl 16 (by decide) (Nat.le_of_ble_eq_true rfl) in_X11 tyX11 tyX11_ok nmX11 rfl rfl rfl rfl rfl gw_5_26 (fun _ z => z) dX11_init_99 ?_
  have hP := hP.step ha rfl
  show J K (fU (fU h a16 (.inl (kca K (mT 16), mLen 16, .inl (fun _ => 0)))) m (.inr (12, (mP _ 16).set 16 (.ref a16)))) _ _ _ _ _
  generalize fU (fU h a16 (.inl (kca K (mT 16), mLen 16, .inl (fun _ => 0)))) m (.inr (12, (mP _ 16).set 16 (.ref a16))) = h at *
  generalize hq : rp _ 16 a16 = ρ at hP
  clear hq hm1 ha
  refine J_aload_0 X dX11_init_102 ?_
  refine J_bipush (v := 40) X dX11_init_103 (by decide) ?_
  refine J_newI X (N := 40) (by decide) (by decide) (by decide) rfl dX11_init_105 (fun a17 ha => ?_)
  have hm1 := (fU_ne (h := h) (a := a17) (b := m) (e := .inl (kca K (mT 17), mLen 17, .inl (fun _ => 0))) (fun z => by have := hP.1; rw [z, ha] at this; cases this)).trans hP.1
  refine J_putF X (C := RX11) (T := TX11) (N := 42) (ref := "NightValleyModel") hm1 rfl 17 (by decide) (Nat.le_of_ble_eq_true rfl) in_X11 tyX11 tyX11_ok nmX11 rfl rfl rfl rfl rfl gw_5_27 (fun _ z => z) dX11_init_107 ?_
  have hP := hP.step ha rfl
  show J K (fU (fU h a17 (.inl (kca K (mT 17), mLen 17, .inl (fun _ => 0)))) m (.inr (12, (mP _ 17).set 17 (.ref a17)))) _ _ _ _ _
  generalize fU (fU h a17 (.inl (kca K (mT 17), mLen 17, .inl (fun _ => 0)))) m (.inr (12, (mP _ 17).set 17 (.ref a17))) = h at *
  generalize hq : rp _ 17 a17 = ρ at hP
  clear hq hm1 ha
  refine J_aload_0 X dX11_init_110 ?_
  refine J_bipush (v := 40) X dX11_init_111 (by decide) ?_
  refine J_newI X (N := 40) (by decide) (by decide) (by decide) rfl dX11_init_113 (fun a18 ha => ?_)
  have hm1 := (fU_ne (h := h) (a := a18) (b := m) (e := .inl (kca K (mT 18), mLen 18, .inl (fun _ => 0))) (fun z => by have := hP.1; rw [z, ha] at this; cases this)).trans hP.1
  refine J_putF X (C := RX11) (T := TX11) (N := 42) (ref := "NightValleyModel") hm1 rfl 18 (by decide) (Nat.le_of_ble_eq_true rfl) in_X11 tyX11 tyX11_ok nmX11 rfl rfl rfl rfl rfl gw_5_28 (fun _ z => z) dX11_init_115 ?_
  have hP := hP.step ha rfl
  show J K (fU (fU h a18 (.inl (kca K (mT 18), mLen 18, .inl (fun _ => 0)))) m (.inr (12, (mP _ 18).set 18 (.ref a18)))) _ _ _ _ _
  generalize fU (fU h a18 (.inl (kca K (mT 18), mLen 18, .inl (fun _ => 0)))) m (.inr (12, (mP _ 18).set 18 (.ref a18))) = h at *
  generalize hq : rp _ 18 a18 = ρ at hP
  clear hq hm1 ha
  refine J_aload_0 X dX11_init_118 ?_
  refine J_bipush (v := 40) X dX11_init_119 (by decide) ?_
  refine J_newI X (N := 40) (by decide) (by decide) (by decide) rfl dX11_init_121 (fun a19 ha => ?_)
  have hm1 := (fU_ne (h := h) (a := a19) (b := m) (e := .inl (kca K (mT 19), mLen 19, .inl (fun _ => 0))) (fun z => by have := hP.1; rw [z, ha] at this; cases this)).trans hP.1
  refine J_putF X (C := RX11) (T := TX11) (N := 42) (ref := "NightValleyModel") hm1 rfl 19 (by decide) (Nat.le_of_ble_eq_true rfl) in_X11 tyX11 tyX11_ok nmX11 rfl rfl rfl rfl rfl gw_5_29 (fun _ z => z) dX11_init_123 ?_
  have hP := hP.step ha rfl
  show J K (fU (fU h a19 (.inl (kca K (mT 19), mLen 19, .inl (fun _ => 0)))) m (.inr (12, (mP _ 19).set 19 (.ref a19)))) _ _ _ _ _
  generalize fU (fU h a19 (.inl (kca K (mT 19), mLen 19, .inl (fun _ => 0)))) m (.inr (12, (mP _ 19).set 19 (.ref a19))) = h at *
  generalize hq : rp _ 19 a19 = ρ at hP
  clear hq hm1 ha
  refine J_aload_0 X dX11_init_126 ?_
  refine J_bipush (v := 40) X dX11_init_127 (by decide) ?_
  refine J_newI X (N := 40) (by decide) (by decide) (by decide) rfl dX11_init_129 (fun a20 ha => ?_)
  have hm1 := (fU_ne (h := h) (a := a20) (b := m) (e := .inl (kca K (mT 20), mLen 20, .inl (fun _ => 0))) (fun z => by have := hP.1; rw [z, ha] at this; cases this)).trans hP.1
  refine J_putF X (C := RX11) (T := TX11) (N := 42) (ref := "NightValleyModel") hm1 rfl 20 (by decide) (Nat.le_of_ble_eq_true rfl) in_X11 tyX11 tyX11_ok nmX11 rfl rfl rfl rfl rfl gw_5_30 (fun _ z => z) dX11_init_131 ?_
  have hP := hP.step ha rfl
  show J K (fU (fU h a20 (.inl (kca K (mT 20), mLen 20, .inl (fun _ => 0)))) m (.inr (12, (mP _ 20).set 20 (.ref a20)))) _ _ _ _ _
  generalize fU (fU h a20 (.inl (kca K (mT 20), mLen 20, .inl (fun _ => 0)))) m (.inr (12, (mP _ 20).set 20 (.ref a20))) = h at *
  generalize hq : rp _ 20 a20 = ρ at hP
  clear hq hm1 ha
  refine J_aload_0 X dX11_init_134 ?_
  refine J_bipush (v := 40) X dX11_init_135 (by decide) ?_
  refine J_newI X (N := 40) (by decide) (by decide) (by decide) rfl dX11_init_137 (fun a21 ha => ?_)
  have hm1 := (fU_ne (h := h) (a := a21) (b := m) (e := .inl (kca K (mT 21), mLen 21, .inl (fun _ => 0))) (fun z => by have := hP.1; rw [z, ha] at this; cases this)).trans hP.1
  refine J_putF X (C := RX11) (T := TX11) (N := 42) (ref := "NightValleyModel") hm1 rfl 21 (by decide) (Nat.le_of_ble_eq_true rfl) in_X11 tyX11 tyX11_ok nmX11 rfl rfl rfl rfl rfl gw_5_31 (fun _ z => z) dX11_init_139 ?_
  have hP := hP.step ha rfl
  show J K (fU (fU h a21 (.inl (kca K (mT 21), mLen 21, .inl (fun _ => 0)))) m (.inr (12, (mP _ 21).set 21 (.ref a21)))) _ _ _ _ _
  generalize fU (fU h a21 (.inl (kca K (mT 21), mLen 21, .inl (fun _ => 0)))) m (.inr (12, (mP _ 21).set 21 (.ref a21))) = h at *
  generalize hq : rp _ 21 a21 = ρ at hP
  clear hq hm1 ha
  refine J_aload_0 X dX11_init_142 ?_
  refine J_bipush (v := 40) X dX11_init_143 (by decide) ?_
  refine J_newZ X (N := 40) (by decide) (by decide) (by decide) rfl dX11_init_145 (fun a22 ha => ?_)
  have hm1 := (fU_ne (h := h) (a := a22) (b := m) (e := .inl (kca K (mT 22), mLen 22, .inl (fun _ => 0))) (fun z => by have := hP.1; rw [z, ha] at this; cases this)).trans hP.1
  refine J_putF X (C := RX11) (T := TX11) (N := 42) (ref := "NightValleyModel") hm1 rfl 22 (by decide) (Nat.le_of_ble_eq_true rfl) in_X11 tyX11 tyX11_ok nmX11 rfl rfl rfl rfl rfl gw_5_32 (fun _ z => z) dX11_init_147 ?_
  have hP := hP.step ha rfl
  show J K (fU (fU h a22 (.inl (kca K (mT 22), mLen 22, .inl (fun _ => 0)))) m (.inr (12, (mP _ 22).set 22 (.ref a22)))) _ _ _ _ _
  generalize fU (fU h a22 (.inl (kca K (mT 22), mLen 22, .inl (fun _ => 0)))) m (.inr (12, (mP _ 22).set 22 (.ref a22))) = h at *
  generalize hq : rp _ 22 a22 = ρ at hP
  clear hq hm1 ha
  refine J_aload_0 X dX11_init_150 ?_
  refine J_bipush (v := 40) X dX11_init_151 (by decide) ?_
  refine J_newI X (N := 40) (by decide) (by decide) (by decide) rfl dX11_init_153 (fun a23 ha => ?_)
  have hm1 := (fU_ne (h := h) (a := a23) (b := m) (e := .inl (kca K (mT 23), mLen 23, .inl (fun _ => 0))) (fun z => by have := hP.1; rw [z, ha] at this; cases this)).trans hP.1
  refine J_putF X (C := RX11) (T := TX11) (N := 42) (ref := "NightValleyModel") hm1 rfl 23 (by decide) (Nat.le_of_ble_eq_true rfl) in_X11 tyX11 tyX11_ok nmX11 rfl rfl rfl rfl rfl gw_5_33 (fun _ z => z) dX11_init_155 ?_
  have hP := hP.step ha rfl
  show J K (fU (fU h a23 (.inl (kca K (mT 23), mLen 23, .inl (fun _ => 0)))) m (.inr (12, (mP _ 23).set 23 (.ref a23)))) _ _ _ _ _
  generalize fU (fU h a23 (.inl (kca K (mT 23), mLen 23, .inl (fun _ => 0)))) m (.inr (12, (mP _ 23).set 23 (.ref a23))) = h at *
  generalize hq : rp _ 23 a23 = ρ at hP
  clear hq hm1 ha
  refine J_aload_0 X dX11_init_158 ?_
  refine J_bipush (v := 40) X dX11_init_159 (by decide) ?_
  refine J_newI X (N := 40) (by decide) (by decide) (by decide) rfl dX11_init_161 (fun a24 ha => ?_)
  have hm1 := (fU_ne (h := h) (a := a24) (b := m) (e := .inl (kca K (mT 24), mLen 24, .inl (fun _ => 0))) (fun z => by have := hP.1; rw [z, ha] at this; cases this)).trans hP.1
  refine J_putF X (C := RX11) (T := TX11) (N := 42) (ref := "NightValleyModel") hm1 rfl 24 (by decide) (Nat.le_of_ble_eq_true rfl) in_X11 tyX11 tyX11_ok nmX11 rfl rfl rfl rfl rfl gw_5_34 (fun _ z => z) dX11_init_163 ?_
  have hP := hP.step ha rfl
  show J K (fU (fU h a24 (.inl (kca K (mT 24), mLen 24, .inl (fun _ => 0)))) m (.inr (12, (mP _ 24).set 24 (.ref a24)))) _ _ _ _ _
  generalize fU (fU h a24 (.inl (kca K (mT 24), mLen 24, .inl (fun _ => 0)))) m (.inr (12, (mP _ 24).set 24 (.ref a24))) = h at *
  generalize hq : rp _ 24 a24 = ρ at hP
  clear hq hm1 ha
  refine J_aload_0 X dX11_init_166 ?_
  refine J_bipush (v := 40) X dX11_init_167 (by decide) ?_
  refine J_newI X (N := 40) (by decide) (by decide) (by decide) rfl dX11_init_169 (fun a25 ha => ?_)
  have hm1 := (fU_ne (h := h) (a := a25) (b := m) (e := .inl (kca K (mT 25), mLen 25, .inl (fun _ => 0))) (fun z => by have := hP.1; rw [z, ha] at this; cases this)).trans hP.1
  refine J_putF X (C := RX11) (T := TX11) (N := 42) (ref := "NightValleyModel") hm1 rfl 25 (by decide) (Nat.le_of_ble_eq_true rfl) in_X11 tyX11 tyX11_ok nmX11 rfl rfl rfl rfl rfl gw_5_35 (fun _ z => z) dX11_init_171 ?_
  have hP := hP.step ha rfl
  show J K (fU (fU h a25 (.inl (kca K (mT 25), mLen 25, .inl (fun _ => 0)))) m (.inr (12, (mP _ 25).set 25 (.ref a25)))) _ _ _ _ _
  generalize fU (fU h a25 (.inl (kca K (mT 25), mLen 25, .inl (fun _ => 0)))) m (.inr (12, (mP _ 25).set 25 (.ref a25))) = h at *
  generalize hq : rp _ 25 a25 = ρ at hP
  clear hq hm1 ha
  have hP := hP.skip (j := 26) rfl rfl
  refine J_aload_0 X dX11_init_174 ?_
  refine J_bipush (v := 8) X dX11_init_175 (by decide) ?_
  refine J_newI X (N := 8) (by decide) (by decide) (by decide) rfl dX11_init_177 (fun a27 ha => ?_)
  have hm1 := (fU_ne (h := h) (a := a27) (b := m) (e := .inl (kca K (mT 27), mLen 27, .inl (fun _ => 0))) (fun z => by have := hP.1; rw [z, ha] at this; cases this)).trans hP.1
  refine J_putF X (C := RX11) (T := TX11) (N := 42) (ref := "NightValleyModel") hm1 rfl 27 (by decide) (Nat.le_of_ble_eq_true rfl) in_X11 tyX11 tyX11_ok nmX11 rfl rfl rfl rfl rfl gw_5_37 (fun _ z => z) dX11_init_179 ?_
  have hP := hP.step ha rfl
  show J K (fU (fU h a27 (.inl (kca K (mT 27), mLen 27, .inl (fun _ => 0)))) m (.inr (12, (mP _ 27).set 27 (.ref a27)))) _ _ _ _ _
  generalize fU (fU h a27 (.inl (kca K (mT 27), mLen 27, .inl (fun _ => 0)))) m (.inr (12, (mP _ 27).set 27 (.ref a27))) = h at *
  generalize hq : rp _ 27 a27 = ρ at hP
  clear hq hm1 ha
  refine J_aload_0 X dX11_init_182 ?_
  refine J_bipush (v := 8) X dX11_init_183 (by decide) ?_
  refine J_newI X (N := 8) (by decide) (by decide) (by decide) rfl dX11_init_185 (fun a28 ha => ?_)
  have hm1 := (fU_ne (h := h) (a := a28) (b := m) (e := .inl (kca K (mT 28), mLen 28, .inl (fun _ => 0))) (fun z => by have := hP.1; rw [z, ha] at this; cases this)).trans hP.1
  refine J_putF X (C := RX11) (T := TX11) (N := 42) (ref := "NightValleyModel") hm1 rfl 28 (by decide) (Nat.le_of_ble_eq_true rfl) in_X11 tyX11 tyX11_ok nmX11 rfl rfl rfl rfl rfl gw_5_38 (fun _ z => z) dX11_init_187 ?_
  have hP := hP.step ha rfl
  show J K (fU (fU h a28 (.inl (kca K (mT 28), mLen 28, .inl (fun _ => 0)))) m (.inr (12, (mP _ 28).set 28 (.ref a28)))) _ _ _ _ _
  generalize fU (fU h a28 (.inl (kca K (mT 28), mLen 28, .inl (fun _ => 0)))) m (.inr (12, (mP _ 28).set 28 (.ref a28))) = h at *
  generalize hq : rp _ 28 a28 = ρ at hP
  clear hq hm1 ha
  refine J_aload_0 X dX11_init_190 ?_
  refine J_bipush (v := 8) X dX11_init_191 (by decide) ?_
  refine J_newI X (N := 8) (by decide) (by decide) (by decide) rfl dX11_init_193 (fun a29 ha => ?_)
  have hm1 := (fU_ne (h := h) (a := a29) (b := m) (e := .inl (kca K (mT 29), mLen 29, .inl (fun _ => 0))) (fun z => by have := hP.1; rw [z, ha] at this; cases this)).trans hP.1
  refine J_putF X (C := RX11) (T := TX11) (N := 42) (ref := "NightValleyModel") hm1 rfl 29 (by decide) (Nat.le_of_ble_eq_true rfl) in_X11 tyX11 tyX11_ok nmX11 rfl rfl rfl rfl rfl gw_5_39 (fun _ z => z) dX11_init_195 ?_
  have hP := hP.step ha rfl
  show J K (fU (fU h a29 (.inl (kca K (mT 29), mLen 29, .inl (fun _ => 0)))) m (.inr (12, (mP _ 29).set 29 (.ref a29)))) _ _ _ _ _
  generalize fU (fU h a29 (.inl (kca K (mT 29), mLen 29, .inl (fun _ => 0)))) m (.inr (12, (mP _ 29).set 29 (.ref a29))) = h at *
  generalize hq : rp _ 29 a29 = ρ at hP
  clear hq hm1 ha
  refine J_aload_0 X dX11_init_198 ?_
  refine J_bipush (v := 8) X dX11_init_199 (by decide) ?_
  refine J_newI X (N := 8) (by decide) (by decide) (by decide) rfl dX11_init_201 (fun a30 ha => ?_)
  have hm1 := (fU_ne (h := h) (a := a30) (b := m) (e := .inl (kca K (mT 30), mLen 30, .inl (fun _ => 0))) (fun z => by have := hP.1; rw [z, ha] at this; cases this)).trans hP.1
  refine J_putF X (C := RX11) (T := TX11) (N := 42) (ref := "NightValleyModel") hm1 rfl 30 (by decide) (Nat.le_of_ble_eq_true rfl) in_X11 tyX11 tyX11_ok nmX11 rfl rfl rfl rfl rfl gw_5_40 (fun _ z => z) dX11_init_203 ?_
  have hP := hP.step ha rfl
  show J K (fU (fU h a30 (.inl (kca K (mT 30), mLen 30, .inl (fun _ => 0)))) m (.inr (12, (mP _ 30).set 30 (.ref a30)))) _ _ _ _ _
  generalize fU (fU h a30 (.inl (kca K (mT 30), mLen 30, .inl (fun _ => 0)))) m (.inr (12, (mP _ 30).set 30 (.ref a30))) = h at *
  generalize hq : rp _ 30 a30 = ρ at hP
  clear hq hm1 ha
  refine J_aload_0 X dX11_init_206 ?_
  refine J_bipush (v := 8) X dX11_init_207 (by decide) ?_
  refine J_newI X (N := 8) (by decide) (by decide) (by decide) rfl dX11_init_209 (fun a31 ha => ?_)
  have hm1 := (fU_ne (h := h) (a := a31) (b := m) (e := .inl (kca K (mT 31), mLen 31, .inl (fun _ => 0))) (fun z => by have := hP.1; rw [z, ha] at this; cases this)).trans hP.1
  refine J_putF X (C := RX11) (T := TX11) (N := 42) (ref := "NightValleyModel") hm1 rfl 31 (by decide) (Nat.le_of_ble_eq_true rfl) in_X11 tyX11 tyX11_ok nmX11 rfl rfl rfl rfl rfl gw_5_41 (fun _ z => z) dX11_init_211 ?_
  have hP := hP.step ha rfl
  show J K (fU (fU h a31 (.inl (kca K (mT 31), mLen 31, .inl (fun _ => 0)))) m (.inr (12, (mP _ 31).set 31 (.ref a31)))) _ _ _ _ _
  generalize fU (fU h a31 (.inl (kca K (mT 31), mLen 31, .inl (fun _ => 0)))) m (.inr (12, (mP _ 31).set 31 (.ref a31))) = h at *
  generalize hq : rp _ 31 a31 = ρ at hP
  clear hq hm1 ha
  refine J_aload_0 X dX11_init_214 ?_
  refine J_bipush (v := 80) X dX11_init_215 (by decide) ?_
  refine J_newI X (N := 80) (by decide) (by decide) (by decide) rfl dX11_init_217 (fun a32 ha => ?_)
  have hm1 := (fU_ne (h := h) (a := a32) (b := m) (e := .inl (kca K (mT 32), mLen 32, .inl (fun _ => 0))) (fun z => by have := hP.1; rw [z, ha] at this; cases this)).trans hP.1
  refine J_putF X (C := RX11) (T := TX11) (N := 42) (ref := "NightValleyModel") hm1 rfl 32 (by decide) (Nat.le_of_ble_eq_true rfl) in_X11 tyX11 tyX11_ok nmX11 rfl rfl rfl rfl rfl gw_5_42 (fun _ z => z) dX11_init_219 ?_
  have hP := hP.step ha rfl
  show J K (fU (fU h a32 (.inl (kca K (mT 32), mLen 32, .inl (fun _ => 0)))) m (.inr (12, (mP _ 32).set 32 (.ref a32)))) _ _ _ _ _
  generalize fU (fU h a32 (.inl (kca K (mT 32), mLen 32, .inl (fun _ => 0)))) m (.inr (12, (mP _ 32).set 32 (.ref a32))) = h at *
  generalize hq : rp _ 32 a32 = ρ at hP
  clear hq hm1 ha
  refine J_aload_0 X dX11_init_222 ?_
  refine J_bipush (v := 80) X dX11_init_223 (by decide) ?_
  refine J_newI X (N := 80) (by decide) (by decide) (by decide) rfl dX11_init_225 (fun a33 ha => ?_)
  have hm1 := (fU_ne (h := h) (a := a33) (b := m) (e := .inl (kca K (mT 33), mLen 33, .inl (fun _ => 0))) (fun z => by have := hP.1; rw [z, ha] at this; cases this)).trans hP.1
  refine J_putF X (C := RX11) (T := TX11) (N := 42) (ref := "NightValleyModel") hm1 rfl 33 (by decide) (Nat.le_of_ble_eq_true rfl) in_X11 tyX11 tyX11_ok nmX11 rfl rfl rfl rfl rfl gw_5_43 (fun _ z => z) dX11_init_227 ?_
  have hP := hP.step ha rfl
  show J K (fU (fU h a33 (.inl (kca K (mT 33), mLen 33, .inl (fun _ => 0)))) m (.inr (12, (mP _ 33).set 33 (.ref a33)))) _ _ _ _ _
  generalize fU (fU h a33 (.inl (kca K (mT 33), mLen 33, .inl (fun _ => 0)))) m (.inr (12, (mP _ 33).set 33 (.ref a33))) = h at *
  generalize hq : rp _ 33 a33 = ρ at hP
  clear hq hm1 ha
  have hP := hP.skip (j := 34) rfl rfl
  have hP := hP.skip (j := 35) rfl rfl
  have hP := hP.skip (j := 36) rfl rfl
  have hP := hP.skip (j := 37) rfl rfl
  refine J_aload_0 X dX11_init_230 ?_
  refine J_bipush (v := 10) X dX11_init_231 (by decide) ?_
  refine J_newI X (N := 10) (by decide) (by decide) (by decide) rfl dX11_init_233 (fun a38 ha => ?_)
  have hm1 := (fU_ne (h := h) (a := a38) (b := m) (e := .inl (kca K (mT 38), mLen 38, .inl (fun _ => 0))) (fun z => by have := hP.1; rw [z, ha] at this; cases this)).trans hP.1
  refine J_putF X (C := RX11) (T := TX11) (N := 42) (ref := "NightValleyModel") hm1 rfl 38 (by decide) (Nat.le_of_ble_eq_true rfl) in_X11 tyX11 tyX11_ok nmX11 rfl rfl rfl rfl rfl gw_5_48 (fun _ z => z) dX11_init_235 ?_
  have hP := hP.step ha rfl
  show J K (fU (fU h a38 (.inl (kca K (mT 38), mLen 38, .inl (fun _ => 0)))) m (.inr (12, (mP _ 38).set 38 (.ref a38)))) _ _ _ _ _
  generalize fU (fU h a38 (.inl (kca K (mT 38), mLen 38, .inl (fun _ => 0)))) m (.inr (12, (mP _ 38).set 38 (.ref a38))) = h at *
  generalize hq : rp _ 38 a38 = ρ at hP
  clear hq hm1 ha
  refine J_aload_0 X dX11_init_238 ?_
  refine J_bipush (v := 10) X dX11_init_239 (by decide) ?_
  refine J_newI X (N := 10) (by decide) (by decide) (by decide) rfl dX11_init_241 (fun a39 ha => ?_)
  have hm1 := (fU_ne (h := h) (a := a39) (b := m) (e := .inl (kca K (mT 39), mLen 39, .inl (fun _ => 0))) (fun z => by have := hP.1; rw [z, ha] at this; cases this)).trans hP.1
  refine J_putF X (C := RX11) (T := TX11) (N := 42) (ref := "NightValleyModel") hm1 rfl 39 (by decide) (Nat.le_of_ble_eq_true rfl) in_X11 tyX11 tyX11_ok nmX11 rfl rfl rfl rfl rfl gw_5_49 (fun _ z => z) dX11_init_243 ?_
  have hP := hP.step ha rfl
  show J K (fU (fU h a39 (.inl (kca K (mT 39), mLen 39, .inl (fun _ => 0)))) m (.inr (12, (mP _ 39).set 39 (.ref a39)))) _ _ _ _ _
  generalize fU (fU h a39 (.inl (kca K (mT 39), mLen 39, .inl (fun _ => 0)))) m (.inr (12, (mP _ 39).set 39 (.ref a39))) = h at *
  generalize hq : rp _ 39 a39 = ρ at hP
  clear hq hm1 ha
  refine J_aload_0 X dX11_init_246 ?_
  refine J_bipush (v := 64) X dX11_init_247 (by decide) ?_
  refine J_newI X (N := 64) (by decide) (by decide) (by decide) rfl dX11_init_249 (fun a40 ha => ?_)
  have hm1 := (fU_ne (h := h) (a := a40) (b := m) (e := .inl (kca K (mT 40), mLen 40, .inl (fun _ => 0))) (fun z => by have := hP.1; rw [z, ha] at this; cases this)).trans hP.1
  refine J_putF X (C := RX11) (T := TX11) (N := 42) (ref := "NightValleyModel") hm1 rfl 40 (by decide) (Nat.le_of_ble_eq_true rfl) in_X11 tyX11 tyX11_ok nmX11 rfl rfl rfl rfl rfl gw_5_50 (fun _ z => z) dX11_init_251 ?_
  have hP := hP.step ha rfl
  show J K (fU (fU h a40 (.inl (kca K (mT 40), mLen 40, .inl (fun _ => 0)))) m (.inr (12, (mP _ 40).set 40 (.ref a40)))) _ _ _ _ _
  generalize fU (fU h a40 (.inl (kca K (mT 40), mLen 40, .inl (fun _ => 0)))) m (.inr (12, (mP _ 40).set 40 (.ref a40))) = h at *
  generalize hq : rp _ 40 a40 = ρ at hP
  clear hq hm1 ha
  have hP := hP.skip (j := 41) rfl rfl
  have hR : RM (kca K) h m ρ σz := ⟨hP.1, fun k hk => hP.2.1 k hk (mA42 hk), fun k i h1 h2 e => hP.2.2 k i h1 h2 (mA42 h1) (mA42 h2) e⟩
  clear hP
  refine J_iconst (v := 0) X dX11_init_254 rfl ?_
  refine J_istore_1 X dX11_init_255 rfl (by decide) ?_
  refine J_iload_1 X dX11_init_256 ?_
  refine J_iconst (v := 4) X dX11_init_257 rfl ?_
  refine J_icmp_ge (tgt := 282) X dX11_init_258 (by decide) (fun q => absurd q (by decide)) (fun _ => ?_)
  refine J_aload_0 X dX11_init_261 ?_
  refine JM_get X hR 4 (by decide) rfl rfl gw_5_14 dX11_init_262 ?_
  refine J_iload_1 X dX11_init_265 ?_
  refine J_bipush (v := 24) X dX11_init_266 (by decide) ?_
  refine JM_ast X hR 4 rfl rfl (vp_in_nI (n := 0) (N := 4) (by decide) (by decide)) dX11_init_268 (fun h hR => ?_)
  refine J_aload_0 X dX11_init_269 ?_
  refine JM_get X hR 5 (by decide) rfl rfl gw_5_15 dX11_init_270 ?_
  refine J_iload_1 X dX11_init_273 ?_
  refine J_iconst (v := 2) X dX11_init_274 rfl ?_
  refine JM_ast X hR 5 rfl rfl (vp_in_nI (n := 0) (N := 4) (by decide) (by decide)) dX11_init_275 (fun h hR => ?_)
  refine J_iinc_1 (v := 1) X dX11_init_276 rfl rfl (by decide) ?_
  refine J_goto (tgt := 256) X dX11_init_279 (by decide) ?_
  refine J_iload_1 X dX11_init_256 ?_
  refine J_iconst (v := 4) X dX11_init_257 rfl ?_
  refine J_icmp_ge (tgt := 282) X dX11_init_258 (by decide) (fun q => absurd q (by decide)) (fun _ => ?_)
  refine J_aload_0 X dX11_init_261 ?_
  refine JM_get X hR 4 (by decide) rfl rfl gw_5_14 dX11_init_262 ?_
  refine J_iload_1 X dX11_init_265 ?_
  refine J_bipush (v := 24) X dX11_init_266 (by decide) ?_
  refine JM_ast X hR 4 rfl rfl (vp_in_nI (n := 1) (N := 4) (by decide) (by decide)) dX11_init_268 (fun h hR => ?_)
  refine J_aload_0 X dX11_init_269 ?_
  refine JM_get X hR 5 (by decide) rfl rfl gw_5_15 dX11_init_270 ?_
  refine J_iload_1 X dX11_init_273 ?_
  refine J_iconst (v := 2) X dX11_init_274 rfl ?_
  refine JM_ast X hR 5 rfl rfl (vp_in_nI (n := 1) (N := 4) (by decide) (by decide)) dX11_init_275 (fun h hR => ?_)
  refine J_iinc_1 (v := 2) X dX11_init_276 rfl rfl (by decide) ?_
  refine J_goto (tgt := 256) X dX11_init_279 (by decide) ?_
  refine J_iload_1 X dX11_init_256 ?_
  refine J_iconst (v := 4) X dX11_init_257 rfl ?_
  refine J_icmp_ge (tgt := 282) X dX11_init_258 (by decide) (fun q => absurd q (by decide)) (fun _ => ?_)
  refine J_aload_0 X dX11_init_261 ?_
  refine JM_get X hR 4 (by decide) rfl rfl gw_5_14 dX11_init_262 ?_
  refine J_iload_1 X dX11_init_265 ?_
  refine J_bipush (v := 24) X dX11_init_266 (by decide) ?_
  refine JM_ast X hR 4 rfl rfl (vp_in_nI (n := 2) (N := 4) (by decide) (by decide)) dX11_init_268 (fun h hR => ?_)
  refine J_aload_0 X dX11_init_269 ?_
  refine JM_get X hR 5 (by decide) rfl rfl gw_5_15 dX11_init_270 ?_
  refine J_iload_1 X dX11_init_273 ?_
  refine J_iconst (v := 2) X dX11_init_274 rfl ?_
  refine JM_ast X hR 5 rfl rfl (vp_in_nI (n := 2) (N := 4) (by decide) (by decide)) dX11_init_275 (fun h hR => ?_)
  refine J_iinc_1 (v := 3) X dX11_init_276 rfl rfl (by decide) ?_
  refine J_goto (tgt := 256) X dX11_init_279 (by decide) ?_
  refine J_iload_1 X dX11_init_256 ?_
  refine J_iconst (v := 4) X dX11_init_257 rfl ?_
  refine J_icmp_ge (tgt := 282) X dX11_init_258 (by decide) (fun q => absurd q (by decide)) (fun _ => ?_)
  refine J_aload_0 X dX11_init_261 ?_
  refine JM_get X hR 4 (by decide) rfl rfl gw_5_14 dX11_init_262 ?_
  refine J_iload_1 X dX11_init_265 ?_
  refine J_bipush (v := 24) X dX11_init_266 (by decide) ?_
  refine JM_ast X hR 4 rfl rfl (vp_in_nI (n := 3) (N := 4) (by decide) (by decide)) dX11_init_268 (fun h hR => ?_)
  refine J_aload_0 X dX11_init_269 ?_
  refine JM_get X hR 5 (by decide) rfl rfl gw_5_15 dX11_init_270 ?_
  refine J_iload_1 X dX11_init_273 ?_
  refine J_iconst (v := 2) X dX11_init_274 rfl ?_
  refine JM_ast X hR 5 rfl rfl (vp_in_nI (n := 3) (N := 4) (by decide) (by decide)) dX11_init_275 (fun h hR => ?_)
  refine J_iinc_1 (v := 4) X dX11_init_276 rfl rfl (by decide) ?_
  refine J_goto (tgt := 256) X dX11_init_279 (by decide) ?_
  refine J_iload_1 X dX11_init_256 ?_
  refine J_iconst (v := 4) X dX11_init_257 rfl ?_
  refine J_icmp_ge (tgt := 282) X dX11_init_258 (by decide) (fun _ => ?_) (fun q => absurd (by decide) q)
  exact J_vret X rfl rfl ⟨rfl, ρ, hR⟩ dX11_init_282
end
