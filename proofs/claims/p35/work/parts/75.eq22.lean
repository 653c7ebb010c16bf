noncomputable section
def mxA (a b : St) : St := fun k => bif Nat.ble k 25 then a k else b k
theorem mixA {s s' : St} (h : ∀ k, k < 26 → s k = s' k) : s = mxA s' s := by
  funext k
  unfold mxA
  cases e : Nat.ble k 25 with
  | true => exact h k (Nat.lt_succ_of_le (Nat.le_of_ble_eq_true e))
  | false => rfl
theorem shadeA (a b : St) (p q : Int32) : M_isShaded (mxA a b) p q = M_isShaded a p q := by
  have h : ∀ n k c, M_isShaded_L72 (mxA a b) p q (fun a => a) n k c = M_isShaded_L72 a p q (fun a => a) n k c := by
    intro n
    induction n with
    | zero => intro k c; rw [M_isShaded_L72, M_isShaded_L72]
    | succ n ih =>
      intro k c
      rw [M_isShaded_L72, M_isShaded_L72, ih]
      rfl
  exact h n64 0 0
theorem givenA (a b : St) (p q : Int32) : M_given (mxA a b) p q = M_given a p q := by
  unfold M_given M_given_j53
  rw [shadeA]
  rfl
theorem glow_c {s s' : St} (h : ∀ k, k < 26 → s k = s' k) (q : Int32) : M_glowOf s q = M_glowOf s' q := by
  rw [mixA h]
  have e : ∀ n k c, M_glowOf_L4 (mxA s' s) q (fun a => a) n k c = M_glowOf_L4 s' q (fun a => a) n k c := by
    intro n
    induction n with
    | zero => intro k c; rw [M_glowOf_L4, M_glowOf_L4]
    | succ n ih =>
      intro k c
      rw [M_glowOf_L4, M_glowOf_L4, ih, givenA]
  exact e _ 0 0
def pB (A : St) (p1 : Int32) : St := sS A 32 (ix (((10 : Int32) * p1) + (A 31 (ix p1)))) (A 0 0)
def pVal (A : St) (p1 : Int32) : Int32 := (((((M_glowOf (pB A p1) (pB A p1 27 (ix p1))) + (M_moon (pB A p1 0 0))) + (20 : Int32)) + (pB A p1 28 (ix p1))) + ((pB A p1 29 (ix p1)) * ((pB A p1 0 0) / (24 : Int32))))
def pS2 (A : St) (p1 : Int32) : St := sS (sS (pB A p1) 33 (ix (((10 : Int32) * p1) + (A 31 (ix p1)))) (pVal A p1)) 31 (ix p1) ((sS (pB A p1) 33 (ix (((10 : Int32) * p1) + (A 31 (ix p1)))) (pVal A p1) 31 (ix p1)) + (1 : Int32))
def pA1 (s : St) (p1 : Int32) : St := sS s 31 (ix p1) ((s 31 (ix p1)) - (1 : Int32))
theorem M_read_s_eq (σ : St) (p1 : Int32) : M_read_s σ p1 = (if (M_fails σ (M_read_j6 σ p1)) = (0 : Int32) then (if ((M_fails_s σ (M_read_j6 σ p1)) 31 (ix p1)) = (10 : Int32) then (M_read_L40_s σ p1 (fun s40 => pS2 (pA1 s40 p1) p1) n9 (10 * ix p1) (M_fails_s σ (M_read_j6 σ p1))) else pS2 (M_fails_s σ (M_read_j6 σ p1)) p1) else (M_fails_s σ (M_read_j6 σ p1))) := rfl
theorem M_read_eq (σ : St) (p1 : Int32) : M_read σ p1 = (if (M_fails σ (M_read_j6 σ p1)) = (0 : Int32) then (if ((M_fails_s σ (M_read_j6 σ p1)) 31 (ix p1)) = (10 : Int32) then (M_read_L40 σ p1 (fun s40 => pS2 (pA1 s40 p1) p1 33 (ix (((10 : Int32) * p1) + (pA1 s40 p1 31 (ix p1))))) n9 (10 * ix p1) (M_fails_s σ (M_read_j6 σ p1))) else pS2 (M_fails_s σ (M_read_j6 σ p1)) p1 33 (ix (((10 : Int32) * p1) + (M_fails_s σ (M_read_j6 σ p1) 31 (ix p1))))) else (0 : Int32)) := rfl
theorem L40_s (σ : St) (p1 : Int32) (K : St → St) : ∀ n k s, k + n < 1000 → M_read_L40_s σ p1 K n k s = K (shL n k s) := by
  intro n
  induction n with
  | zero => intro k s _; rw [M_read_L40_s]; rfl
  | succ n ih =>
    intro k s hk
    rw [M_read_L40_s, nI_1, ixn (a := k) (by omega), ixn (a := k + 1) (by omega), ih (k + 1) _ (by omega), sS_col (show (33 : Nat) ≠ 32 by decide)]
    rfl
theorem L40_v (σ : St) (p1 : Int32) (K : St → Int32) : ∀ n k s, k + n < 1000 → M_read_L40 σ p1 K n k s = K (shL n k s) := by
  intro n
  induction n with
  | zero => intro k s _; rw [M_read_L40]; rfl
  | succ n ih =>
    intro k s hk
    rw [M_read_L40, nI_1, ixn (a := k) (by omega), ixn (a := k + 1) (by omega), ih (k + 1) _ (by omega), sS_col (show (33 : Nat) ≠ 32 by decide)]
    rfl
theorem sEq_shL {s s' : St} (h : sEq s s') : ∀ n k s s', sEq s s' → sEq (shL n k s) (shL n k s') := by
  intro n
  induction n with
  | zero => intro k s s' h; exact h
  | succ n ih =>
    intro k s s' h
    show sEq (shL n (k + 1) _) (shL n (k + 1) _)
    have e2 : s 32 = s' 32 := h 32 (by decide)
    have e3 : s 33 = s' 33 := h 33 (by decide)
    rw [e2, e3]
    exact ih (k + 1) _ _ ((h.S _ _ _).S _ _ _)
theorem push_eq {σ A A' : St} (hI : InvX σ) {p1 : Int32} (c : vp_in p1 8) (hA : ∀ k, k < 40 → k ≠ 31 → k ≠ 32 → k ≠ 33 → A k = σ k) (hs : sEq A A') (hr : vp_in (A 31 (ix p1)) 10) :
    pS2 A p1 33 (ix (((10 : Int32) * p1) + (A 31 (ix p1)))) = ((((X_glowOf σ (ix (σ 27 (ix p1)))) + (X_moonAt (σ 0 0))) + (20 : Int32)) + ((σ 28 (ix p1)) + ((σ 29 (ix p1)) * ((σ 0 0) / (24 : Int32))))) ∧
    sEq (pS2 A p1) (newRd A' (ix p1) (σ 0 0) ((((X_glowOf σ (ix (σ 27 (ix p1)))) + (X_moonAt (σ 0 0))) + (20 : Int32)) + ((σ 28 (ix p1)) + ((σ 29 (ix p1)) * ((σ 0 0) / (24 : Int32)))))) ∧ pS2 A p1 41 0 = A 41 0 := by
  have hB : ∀ k, k < 40 → k ≠ 31 → k ≠ 32 → k ≠ 33 → pB A p1 k = σ k := fun k a b d e => by
    unfold pB
    rw [sS_col d, hA k a b d e]
  have hv : pVal A p1 = ((((X_glowOf σ (ix (σ 27 (ix p1)))) + (X_moonAt (σ 0 0))) + (20 : Int32)) + ((σ 28 (ix p1)) + ((σ 29 (ix p1)) * ((σ 0 0) / (24 : Int32))))) := by
    unfold pVal
    rw [glow_c (s' := σ) (fun k hk => hB k (by omega) (by omega) (by omega) (by omega)), hB 27 (by decide) (by decide) (by decide) (by decide), hB 0 (by decide) (by decide) (by decide) (by decide), hB 28 (by decide) (by decide) (by decide) (by decide), hB 29 (by decide) (by decide) (by decide) (by decide), glow_eq hI (hI.1 27 (ix p1)), moon_eq, Int32.add_assoc]
  have hi : ix (((10 : Int32) * p1) + (A 31 (ix p1))) = 10 * ix p1 + ix (A 31 (ix p1)) := rix c hr
  have e31 : A 31 = A' 31 := hs 31 (by decide)
  have e0 : A 0 = σ 0 := hA 0 (by decide) (by decide) (by decide) (by decide)
  refine ⟨?_, ?_, ?_⟩
  · unfold pS2
    rw [sS_col (show (33 : Nat) ≠ 31 by decide), sS_same, hv]
  · unfold pS2 newRd
    rw [hv, hi, sS_col (show (31 : Nat) ≠ 33 by decide)]
    unfold pB
    rw [hi, sS_col (show (31 : Nat) ≠ 32 by decide), e31, e0]
    exact ((hs.S _ _ _).S _ _ _).S _ _ _
  · unfold pS2 pB
    rw [sS_col (show (41 : Nat) ≠ 31 by decide), sS_col (show (41 : Nat) ≠ 33 by decide), sS_col (show (41 : Nat) ≠ 32 by decide)]
theorem Q_read {σ : St} (hI : InvX σ) (hO : InvO σ) (p1 : Int32) : EQ σ (X_read_c σ p1) (X_read σ p1) (X_read_s σ p1) (M_read σ p1) (M_read_s σ p1) 1 0 0 ∧ InvX (X_read_s σ p1) ∧ InvO (X_read_s σ p1) := by
  rw [M_read_s_eq, M_read_eq]
  unfold X_read_c X_read X_read_s
  by_cases c : vp_in p1 (ix (σ 26 0))
  · repeat rw [if_pos c]
    have hms := IX_meters hI
    have c8 : vp_in p1 8 := vp_up c hms
    have hl := vp_lt c
    have hj : M_read_j6 σ p1 = 0 := by
      unfold M_read_j6
      rw [if_neg (fun z => (meter_iff hI).mp z c)]
    rw [hj]
    repeat rw [if_pos (fails_0 σ)]
    refine ⟨?_, InvX_keep hI hl, InvO_ext hO (keep_c (by decide) (by decide) (by decide)) (keep_c (by decide) (by decide) (by decide))⟩
    by_cases w : σ 31 (ix p1) = 10
    · repeat rw [if_pos (show M_fails_s σ 0 31 (ix p1) = 10 from w)]
      rw [n9_eq, L40_s _ _ _ _ _ _ (by omega), L40_v _ _ _ _ _ _ (by omega)]
      have hs : sEq (pA1 (shL 9 (10 * ix p1) (M_fails_s σ 0)) p1) (remRd σ (ix p1)) := by
        unfold pA1 remRd
        rw [shL_col (by decide) (by decide)]
        exact (sEq_shL (sEq.f σ 0) 9 _ _ _ (sEq.f σ 0)).S _ _ _
      obtain ⟨q1, q2, q3⟩ := push_eq hI c8 (A := pA1 (shL 9 (10 * ix p1) (M_fails_s σ 0)) p1) (fun k a b d e => by rw [hs k a, remRd_c b d e]) hs (by
        rw [hs 31 (by decide), remRd_31m, w]
        exact vp_in_iff.mpr ⟨by decide, by decide⟩)
      unfold keepS
      rw [if_pos w]
      refine EQ.ok ?_ q1 q2
      rw [q3]
      unfold pA1
      rw [sS_col (show (41 : Nat) ≠ 31 by decide), shL_col (by decide) (by decide)]
      rfl
    · repeat rw [if_neg (show ¬ M_fails_s σ 0 31 (ix p1) = 10 from w)]
      obtain ⟨q1, q2, q3⟩ := push_eq hI c8 (A := M_fails_s σ 0) (fun k a b d e => sEq.f σ 0 k a) (sEq.f σ 0) (by
        rw [sEq.f σ 0 31 (by decide)]
        have h1 := (r10 hI).mpr w
        obtain ⟨z, _⟩ := cnt (N := 10) (hI.1 31 (ix p1)) (by decide)
        rw [z]
        exact vp_in_nI h1 (by decide))
      unfold keepS
      rw [if_neg w]
      exact EQ.ok (by rw [q3]; rfl) q1 q2
  · have hj : M_read_j6 σ p1 = 1 := by
      unfold M_read_j6
      rw [if_pos ((meter_iff hI).mpr c)]
    rw [hj]
    repeat rw [if_neg c]
    repeat rw [if_neg (nf1 σ)]
    exact ⟨EQ.f1 rfl (sEq.f σ 1), hI, hO⟩
end
