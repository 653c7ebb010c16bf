noncomputable section
section OP1
variable {ξ ξ' τ : St}
theorem LQ.ext (h : LQ ξ τ) (e : sEq ξ' ξ) : LQ ξ' τ := by
  unfold LQ at h ⊢
  simp only [e 0 (by decide), e 1 (by decide), e 2 (by decide), e 3 (by decide), e 4 (by decide), e 5 (by decide), e 6 (by decide), e 7 (by decide), e 8 (by decide), e 9 (by decide), e 10 (by decide), e 11 (by decide), e 12 (by decide), e 13 (by decide), e 14 (by decide), e 15 (by decide), e 16 (by decide), e 17 (by decide), e 18 (by decide), e 19 (by decide), e 20 (by decide), e 21 (by decide), e 22 (by decide), e 23 (by decide), e 24 (by decide), e 25 (by decide), e 26 (by decide), e 27 (by decide), e 28 (by decide), e 29 (by decide), e 30 (by decide), e 31 (by decide), e 32 (by decide), e 33 (by decide), e 34 (by decide), e 35 (by decide), e 36 (by decide), e 37 (by decide)]
  exact h
theorem sS_self (σ : St) (k i : Nat) : sS σ k i (σ k i) = σ := by
  funext j a
  by_cases c : j = k
  · subst c
    by_cases d : a = i
    · subst d
      exact sS_same ..
    · exact sS_ne (fun _ => d)
  · rw [sS_col c]
theorem n20 : ¬ (2 : Int32) = 0 := by decide
theorem n21 : ¬ (2 : Int32) = 1 := by decide
theorem n30a : ¬ (3 : Int32) = 0 := by decide
theorem n31 : ¬ (3 : Int32) = 1 := by decide
theorem n32 : ¬ (3 : Int32) = 2 := by decide
theorem f41 (ξ : St) (w : Int32) : M_fails_s ξ w 41 0 = w := sC_same ..
theorem ge_no {x c : Int32} {M N : Nat} (h : vp_in x M) (hM : M < 1000000) (hN : N < 1000000) (hc : c = nI N) (hd : c ≤ x) : ¬ vp_in x N := fun z => by
  have a := vp_lt z
  rw [hc, vp_nI' h (by omega), nI_leI (by omega) (by have := vp_lt h; omega)] at hd
  omega
theorem sS_at {σ : St} {k i : Nat} {v : Int32} {j : Nat} : sS σ k i v k j = if j = i then v else σ k j := by
  by_cases c : j = i
  · subst c
    rw [if_pos rfl, sS_same]
  · rw [if_neg c, sS_ne (fun _ => c)]
theorem IO_A (hI : InvX ξ) (hO : InvO ξ) (w : Int32) : InvX (M_fails_s ξ w) ∧ InvO (M_fails_s ξ w) := ⟨InvX_ext (sEq.f ξ w) hI, InvO_ext hO (sEq.f ξ w 14 (by decide)) (sEq.f ξ w 13 (by decide))⟩
theorem LQ_ridge (hQ : LQ ξ τ) {i : Nat} (hi : i < 64) {b w : Int32} (hw : w = ξ 3 i + 4 * b) : LQ (sS ξ 2 i b) (sS τ 0 i w) := by
  refine ⟨hQ.1, fun j hj => ?_, hQ.2.2⟩
  rw [sS_at, sS_at, sS_col (show (3 : Nat) ≠ 2 by decide)]
  by_cases c : j = i
  · rw [if_pos c, if_pos c, c, hw]
  · rw [if_neg c, if_neg c, hQ.p hj]
theorem LQ_zone (hQ : LQ ξ τ) {i : Nat} (hi : i < 64) {z w : Int32} (hw : w = z + 4 * ξ 2 i) : LQ (sS ξ 3 i z) (sS τ 0 i w) := by
  refine ⟨hQ.1, fun j hj => ?_, hQ.2.2⟩
  rw [sS_at, sS_at, sS_col (show (2 : Nat) ≠ 3 by decide)]
  by_cases c : j = i
  · rw [if_pos c, if_pos c, c, hw]
  · rw [if_neg c, if_neg c, hQ.p hj]
theorem LQ_law (hQ : LQ ξ τ) {z : Nat} (hz : z < 4) {a b c w : Int32} (hw : w = a + 32 * b + 128 * c) : LQ (sS (sS (sS ξ 4 z a) 5 z b) 6 z c) (sS τ 1 z w) := by
  refine ⟨hQ.1, hQ.2.1, fun j hj => ?_, fun j hj d hd => ?_, hQ.2.2.2.2⟩
  · rw [sS_col (show (4 : Nat) ≠ 6 by decide), sS_col (show (4 : Nat) ≠ 5 by decide), sS_col (show (5 : Nat) ≠ 6 by decide), sS_at, sS_at, sS_at, sS_at]
    by_cases e : j = z
    · rw [if_pos e, if_pos e, if_pos e, if_pos e, hw]
    · rw [if_neg e, if_neg e, if_neg e, if_neg e, sS_col (show (5 : Nat) ≠ 4 by decide), sS_col (show (6 : Nat) ≠ 5 by decide), sS_col (show (6 : Nat) ≠ 4 by decide), hQ.z hj]
  · rw [sS_at, if_neg (show ¬ 4 + j = z by omega)]
    exact hQ.fe hj hd
theorem LQ_air (hQ : LQ ξ τ) {a : Int32} : LQ (sC ξ 1 a) (sS τ 7 1 a) := by
  obtain ⟨g0, g1, g2, g3, g4, g5, g6, g7⟩ := hQ.g
  refine ⟨⟨?_, ?_, ?_, ?_, ?_, ?_, ?_, ?_⟩, hQ.2⟩
  · rw [sS_at, if_neg (by decide)]; exact g0
  · rw [sS_at, if_pos rfl]; exact (sC_same ..).symm
  · rw [sS_at, if_neg (by decide)]; exact g2
  · rw [sS_at, if_neg (by decide)]; exact g3
  · rw [sS_at, if_neg (by decide)]; exact g4
  · rw [sS_at, if_neg (by decide)]; exact g5
  · rw [sS_at, if_neg (by decide)]; exact g6
  · rw [sS_at, if_neg (by decide)]; exact g7
end OP1
section OPT
variable {ξ τ : St} {one two : Int32}
theorem T0_ok (hQ : LQ ξ τ) (hI : InvX ξ) (hO : InvO ξ) (h1 : vp_in one 60000) (_ : vp_in two 60000) : T0 τ ξ one two = 1 ∧ LQ (T0_x τ ξ one two) (T0_s τ ξ one two) ∧ InvX (T0_x τ ξ one two) ∧ InvO (T0_x τ ξ one two) := by
  have hat := T0_at (σ := τ) (ξ := ξ) (two := two) h1
  have hb := T0_j84_b τ ξ one two
  have hi := vp_lt hat
  have hw : T0_j70 τ ξ one two = ξ 2 (ix (T0_j54 τ ξ one two)) := by
    unfold T0_j70
    rcases (hI.1 2 (ix (T0_j54 τ ξ one two)) : ξ 2 (ix (T0_j54 τ ξ one two)) = 0 ∨ ξ 2 (ix (T0_j54 τ ξ one two)) = 1) with e | e
    · rw [if_pos ((dp_ridge hQ hI hi).mpr e), e]
    · rw [if_neg (fun z => by have := (dp_ridge hQ hI hi).mp z; rw [e] at this; exact i10 this), e]
  have hj : M_ridge_j5 ξ (T0_j54 τ ξ one two) (T0_j84 τ ξ one two) = 0 := by
    unfold M_ridge_j5
    rw [if_neg (fun z => place_iff.mp z hat)]
  refine ⟨?_, ?_, IO_ridge hI hO _ _ hb⟩
  · unfold T0 T0_j133 M_ridge
    rw [hj, if_pos (fails_0 ξ), hw]
    exact if_pos rfl
  · unfold T0_x T0_s M_ridge_s
    rw [hj, if_pos (fails_0 ξ)]
    refine LQ_ridge (hQ.ext (sEq.f ξ 0)) hi ?_
    show τ 0 (ix (T0_j54 τ ξ one two)) + T0_j103 τ ξ one two = ξ 3 (ix (T0_j54 τ ξ one two)) + 4 * T0_j84 τ ξ one two
    unfold T0_j103
    rw [hQ.p hi, hw]
    generalize ξ 3 (ix (T0_j54 τ ξ one two)) = a
    rcases (hI.1 2 (ix (T0_j54 τ ξ one two)) : ξ 2 (ix (T0_j54 τ ξ one two)) = 0 ∨ ξ 2 (ix (T0_j54 τ ξ one two)) = 1) with e | e <;> rcases hb with f | f <;> rw [e, f, Int32.add_assoc] <;> exact congrArg (a + ·) (by decide)
theorem T1_ok (hQ : LQ ξ τ) (hI : InvX ξ) (hO : InvO ξ) (h1 : vp_in one 60000) (h2 : vp_in two 60000) : T1 τ ξ one two = 1 ∧ LQ (T1_x τ ξ one two) (T1_s τ ξ one two) ∧ InvX (T1_x τ ξ one two) ∧ InvO (T1_x τ ξ one two) := by
  have hp := T1_pl (σ := τ) (ξ := ξ) (two := two) h1
  have hz := T1_zn (σ := τ) (ξ := ξ) (one := one) h2
  refine ⟨?_, ?_, IO_zone hI hO _ _⟩
  · unfold T1 T1_j239 T1_j229 DV_0 M_zone_s M_zone
    by_cases c : T1_j152 τ ξ one two = 0
    · have hj : M_zone_j5 ξ (T1_j7 τ ξ one two) (T1_j32 τ ξ one two) = 1 := by
        unfold T1_j152 at c
        unfold M_zone_j5
        by_cases d : (64 : Int32) ≤ T1_j7 τ ξ one two
        · rw [if_pos (place_iff.mpr (ge_no (N := 64) hp (by decide) (by decide) rfl d))]
        · rw [if_neg d] at c
          by_cases e : (4 : Int32) ≤ T1_j32 τ ξ one two
          · rw [if_pos (zone_iff.mpr (ge_no (N := 4) hz (by decide) (by decide) rfl e)), ite_self]
          · rw [if_neg e] at c
            exact absurd c i10
      rw [hj, if_pos c, if_neg (nf1 ξ), if_neg (nf1 ξ), f41, if_neg i10]
      exact if_pos rfl
    · obtain ⟨hp', hz'⟩ := T1_are h1 h2 c
      have hj : M_zone_j5 ξ (T1_j7 τ ξ one two) (T1_j32 τ ξ one two) = 0 := by
        unfold M_zone_j5
        rw [if_neg (fun z => place_iff.mp z hp'), if_neg (fun z => zone_iff.mp z hz')]
      rw [hj, if_neg c, if_pos (fails_0 ξ), if_pos (fails_0 ξ)]
      unfold T1_j170
      rw [if_neg c, dp_zone hQ hI (vp_lt hp')]
      exact if_pos rfl
  · unfold T1_x T1_s M_zone_s T1_j188 T1_j201 T1_j170
    by_cases c : T1_j152 τ ξ one two = 0
    · have hj : M_zone_j5 ξ (T1_j7 τ ξ one two) (T1_j32 τ ξ one two) = 1 := by
        unfold T1_j152 at c
        unfold M_zone_j5
        by_cases d : (64 : Int32) ≤ T1_j7 τ ξ one two
        · rw [if_pos (place_iff.mpr (ge_no (N := 64) hp (by decide) (by decide) rfl d))]
        · rw [if_neg d] at c
          by_cases e : (4 : Int32) ≤ T1_j32 τ ξ one two
          · rw [if_pos (zone_iff.mpr (ge_no (N := 4) hz (by decide) (by decide) rfl e)), ite_self]
          · rw [if_neg e] at c
            exact absurd c i10
      rw [hj, if_pos c, if_pos c, if_neg (nf1 ξ), Int32.add_zero, sS_self]
      exact hQ.ext (sEq.f ξ 1)
    · obtain ⟨hp', hz'⟩ := T1_are h1 h2 c
      have hj : M_zone_j5 ξ (T1_j7 τ ξ one two) (T1_j32 τ ξ one two) = 0 := by
        unfold M_zone_j5
        rw [if_neg (fun z => place_iff.mp z hp'), if_neg (fun z => zone_iff.mp z hz')]
      rw [hj, if_neg c, if_neg c, if_neg c, if_pos (fails_0 ξ), dp_zone hQ hI (vp_lt hp')]
      refine LQ_zone (hQ.ext (sEq.f ξ 0)) (vp_lt hp') ?_
      show τ 0 (ix (T1_j7 τ ξ one two)) + (T1_j32 τ ξ one two - ξ 3 (ix (T1_j7 τ ξ one two))) = T1_j32 τ ξ one two + 4 * ξ 2 (ix (T1_j7 τ ξ one two))
      rw [hQ.p (vp_lt hp')]
      generalize ξ 3 (ix (T1_j7 τ ξ one two)) = a
      generalize 4 * ξ 2 (ix (T1_j7 τ ξ one two)) = b
      generalize T1_j32 τ ξ one two = z
      rw [Int32.sub_eq_add_neg, Int32.add_comm a b, Int32.add_assoc, Int32.add_comm z, ← Int32.add_assoc a, Int32.add_right_neg, Int32.zero_add, Int32.add_comm]
theorem T2_cf (h1 : vp_in one 60000) : vp_in (T2_j259 τ ξ one two) 26 ∧ vp_in (one / (9 : Int32) - one / (9 : Int32) / (12 : Int32) * (12 : Int32)) 12 := by
  refine ⟨?_, vr_rem (c := 12) (vr_div (c := 9) h1 (by decide) (by decide) (by decide)) (by decide) (by decide) (by decide)⟩
  unfold T2_j259
  split
  · exact vp_up (vr_add (vp_in_nI (n := 17) (N := 18) (by decide) (by decide)) (vr_mul (vr_rem (c := 2) (vr_div (c := 9) h1 (by decide) (by decide) (by decide)) (by decide) (by decide) (by decide)) (vp_in_nI (n := 8) (N := 9) (by decide) (by decide)) (by decide)) (by decide)) (by decide)
  · exact vp_up (vr_add (vp_in_nI (n := 18) (N := 19) (by decide) (by decide)) (vr_rem (c := 7) h1 (by decide) (by decide) (by decide)) (by decide)) (by decide)
theorem T2_cl (h2 : vp_in two 60000) : vp_in (T2_j298 τ ξ one two) 4 := by
  unfold T2_j298
  split
  · exact vp_in_nI (n := 3) (by decide) (by decide)
  · exact vp_up (vr_rem (c := 3) (vr_div (c := 13) h2 (by decide) (by decide) (by decide)) (by decide) (by decide) (by decide)) (by decide)
theorem isIn_n {x a b : Int32} {M A B : Nat} (h : vp_in x M) (hM : M < 1000000) (hA : a = nI A) (hB : b = nI B) (hA' : A < 1000000) (hB' : B < 1000000) : M_isIn x a b = 0 ↔ ¬ (A ≤ ix x ∧ ix x ≤ B) := by
  have e := isIn_iff (v := x) (a := a) (b := b)
  have hx := vp_lt h
  rw [hA, hB, nI_toInt (by omega), nI_toInt (by omega)] at e
  have ex : x.toInt = (ix x : Int) := by
    have q := vp_nI' h (by omega)
    have w : (nI (ix x)).toInt = (ix x : Int) := nI_toInt (by omega)
    rw [← q] at w
    exact w
  rw [ex] at e
  rw [hA, hB]
  constructor
  · intro z w
    exact e.mpr ⟨by omega, by omega⟩ z
  · intro z
    exact Classical.byContradiction fun w => z (by have := e.mp w; omega)
theorem le_n {x c : Int32} {M N : Nat} (h : vp_in x M) (hM : M < 1000000) (hN : N < 1000000) (hc : c = nI N) : (c ≤ x ↔ N ≤ ix x) ∧ (x ≤ c ↔ ix x ≤ N) := by
  have a := vp_lt h
  have e := vp_nI' h (by omega)
  generalize ix x = j at *
  subst e
  rw [hc]
  exact ⟨nI_leI (by omega) (by omega), nI_leI (by omega) (by omega)⟩
theorem eq_n {x c : Int32} {M N : Nat} (h : vp_in x M) (hM : M < 1000000) (hN : N < 1000000) (hc : c = nI N) : x = c ↔ ix x = N := by
  have a := vp_lt h
  have e := vp_nI' h (by omega)
  generalize ix x = j at *
  subst e
  rw [hc]
  exact nI_eq (by omega) (by omega)
theorem T2_ok (hQ : LQ ξ τ) (hI : InvX ξ) (hO : InvO ξ) (h1 : vp_in one 60000) (h2 : vp_in two 60000) : T2 τ ξ one two = 1 ∧ LQ (T2_x τ ξ one two) (T2_s τ ξ one two) ∧ InvX (T2_x τ ξ one two) ∧ InvO (T2_x τ ξ one two) := by
  have hz := T2_zn (σ := τ) (ξ := ξ) (one := one) h2
  have hc := (T2_cf (τ := τ) (ξ := ξ) (two := two) h1).1
  have hs := (T2_cf (τ := τ) (ξ := ξ) (two := two) h1).2
  have hl := T2_cl (τ := τ) (ξ := ξ) (one := one) h2
  have e8 : M_law_j8 ξ (T2_j32 τ ξ one two) (T2_j259 τ ξ one two) (T2_j298 τ ξ one two) (one / (9 : Int32) - one / (9 : Int32) / (12 : Int32) * (12 : Int32)) = T2_j328 τ ξ one two := by
    unfold M_law_j8 T2_j328
    have a1 := isIn_n (a := 18) (b := 24) (A := 18) (B := 24) hc (by decide) rfl rfl (by decide) (by decide)
    have a2 := isIn_n (a := 0) (b := 2) (A := 0) (B := 2) hl (by decide) rfl rfl (by decide) (by decide)
    have a3 := isIn_n (a := 0) (b := 10) (A := 0) (B := 10) hs (by decide) rfl rfl (by decide) (by decide)
    have b1 := (le_n (c := 17) (N := 17) hc (by decide) (by decide) rfl).2
    have b2 := (le_n (c := 25) (N := 25) hc (by decide) (by decide) rfl).1
    have b3 := (le_n (c := 3) (N := 3) hl (by decide) (by decide) rfl).1
    have b4 := (le_n (c := 11) (N := 11) hs (by decide) (by decide) rfl).1
    simp only [a1, a2, a3, b1, b2, b3, b4]
    (repeat' split) <;> first | rfl | (exfalso; omega)
  have ez : M_isZone (T2_j32 τ ξ one two) = 0 ↔ (4 : Int32) ≤ T2_j32 τ ξ one two := by
    rw [zone_iff, (le_n (c := 4) (N := 4) hz (by decide) (by decide) rfl).1]
    constructor
    · intro z
      exact Nat.le_of_not_lt fun w => z (by rw [vp_nI' hz (by decide)]; exact vp_in_nI w (by decide))
    · intro z w
      have := vp_lt w
      omega
  have ez4 : T2_j32 τ ξ one two = 4 ↔ (4 : Int32) ≤ T2_j32 τ ξ one two := by
    rw [(le_n (c := 4) (N := 4) hz (by decide) (by decide) rfl).1, eq_n (c := 4) (N := 4) hz (by decide) (by decide) rfl]
    have := vp_lt hz
    omega
  refine ⟨?_, ?_, IO_law hI hO _ _ _ _⟩
  · unfold T2 T2_j424 T2_j405 DV_1 M_law_s M_law_j63_s
    by_cases c : (4 : Int32) ≤ T2_j32 τ ξ one two
    · have hj : M_law_j43 ξ (T2_j32 τ ξ one two) (T2_j259 τ ξ one two) (T2_j298 τ ξ one two) (one / (9 : Int32) - one / (9 : Int32) / (12 : Int32) * (12 : Int32)) = 1 := by
        unfold M_law_j43
        rw [if_pos (ez.mpr c)]
      rw [hj, if_neg (nf1 ξ), f41, if_neg i10, if_pos rfl, if_pos (ez4.mpr c)]
      exact if_pos rfl
    · rw [if_neg (fun z => c (ez4.mp z))]
      by_cases d : T2_j328 τ ξ one two = 0
      · have hj : M_law_j43 ξ (T2_j32 τ ξ one two) (T2_j259 τ ξ one two) (T2_j298 τ ξ one two) (one / (9 : Int32) - one / (9 : Int32) / (12 : Int32) * (12 : Int32)) = 2 := by
          unfold M_law_j43
          rw [if_neg (fun z => c (ez.mp z)), e8, if_pos d]
        rw [hj, if_neg (nf2 ξ), f41, if_neg n20, if_neg n21, if_pos d]
        exact if_pos rfl
      · have hj : M_law_j43 ξ (T2_j32 τ ξ one two) (T2_j259 τ ξ one two) (T2_j298 τ ξ one two) (one / (9 : Int32) - one / (9 : Int32) / (12 : Int32) * (12 : Int32)) = 0 := by
          unfold M_law_j43
          rw [if_neg (fun z => c (ez.mp z)), e8, if_neg d]
        rw [hj, if_pos (fails_0 ξ), sS_col (by decide), sS_col (by decide), sS_col (by decide), f41, if_pos rfl, if_neg d]
        exact if_pos rfl
  · unfold T2_x T2_s T2_j361_s M_law_s M_law_j63_s
    by_cases c : (4 : Int32) ≤ T2_j32 τ ξ one two
    · have hj : M_law_j43 ξ (T2_j32 τ ξ one two) (T2_j259 τ ξ one two) (T2_j298 τ ξ one two) (one / (9 : Int32) - one / (9 : Int32) / (12 : Int32) * (12 : Int32)) = 1 := by
        unfold M_law_j43
        rw [if_pos (ez.mpr c)]
      rw [hj, if_neg (nf1 ξ), if_pos c]
      exact hQ.ext (sEq.f ξ 1)
    · rw [if_neg c]
      by_cases d : T2_j328 τ ξ one two = 0
      · have hj : M_law_j43 ξ (T2_j32 τ ξ one two) (T2_j259 τ ξ one two) (T2_j298 τ ξ one two) (one / (9 : Int32) - one / (9 : Int32) / (12 : Int32) * (12 : Int32)) = 2 := by
          unfold M_law_j43
          rw [if_neg (fun z => c (ez.mp z)), e8, if_pos d]
        rw [hj, if_neg (nf2 ξ), if_pos d]
        exact hQ.ext (sEq.f ξ 2)
      · have hj : M_law_j43 ξ (T2_j32 τ ξ one two) (T2_j259 τ ξ one two) (T2_j298 τ ξ one two) (one / (9 : Int32) - one / (9 : Int32) / (12 : Int32) * (12 : Int32)) = 0 := by
          unfold M_law_j43
          rw [if_neg (fun z => c (ez.mp z)), e8, if_neg d]
        rw [hj, if_pos (fails_0 ξ), if_neg d]
        exact LQ_law (hQ.ext (sEq.f ξ 0)) (vp_lt (Classical.byContradiction fun z => c (ez.mp (zone_iff.mpr z)))) rfl
theorem T4_ok (hQ : LQ ξ τ) (hI : InvX ξ) (hO : InvO ξ) (h1 : vp_in one 60000) (_ : vp_in two 60000) : T4 τ ξ one two = 1 ∧ LQ (T4_x τ ξ one two) (T4_s τ ξ one two) ∧ InvX (T4_x τ ξ one two) ∧ InvO (T4_x τ ξ one two) := by
  have ha : vp_in (one - one / (4 : Int32) * (4 : Int32)) 4 := vr_rem (c := 4) h1 (by decide) (by decide) (by decide)
  have g1 : τ 7 (ix (1 : Int32)) = ξ 1 0 := hQ.g.2.1
  have ei := isIn_n (a := 0) (b := 2) (A := 0) (B := 2) ha (by decide) rfl rfl (by decide) (by decide)
  have el := (le_n (c := 3) (N := 3) ha (by decide) (by decide) rfl).1
  refine ⟨?_, ?_, IO_air hI hO _⟩
  · unfold T4 T4_j662 T4_j652 DV_3 M_air_s M_air
    rw [g1]
    by_cases c : (3 : Int32) ≤ one - one / (4 : Int32) * (4 : Int32)
    · have hj : M_air_j7 ξ (one - one / (4 : Int32) * (4 : Int32)) = 1 := by
        unfold M_air_j7
        rw [if_pos (ei.mpr (by have := el.mp c; omega))]
      rw [hj, if_neg (nf1 ξ), f41, if_neg i10, if_pos c]
      exact if_pos rfl
    · have hj : M_air_j7 ξ (one - one / (4 : Int32) * (4 : Int32)) = 0 := by
        unfold M_air_j7
        rw [if_neg (fun z => c (el.mpr (by have := ei.mp z; omega)))]
      rw [hj, if_pos (fails_0 ξ), if_pos (fails_0 ξ), sC_col (by decide), f41, if_pos rfl, if_neg c]
      exact if_pos rfl
  · unfold T4_x T4_s T4_j627 M_air_s
    by_cases c : (3 : Int32) ≤ one - one / (4 : Int32) * (4 : Int32)
    · have hj : M_air_j7 ξ (one - one / (4 : Int32) * (4 : Int32)) = 1 := by
        unfold M_air_j7
        rw [if_pos (ei.mpr (by have := el.mp c; omega))]
      rw [hj, if_neg (nf1 ξ), if_pos c, sS_self]
      exact hQ.ext (sEq.f ξ 1)
    · have hj : M_air_j7 ξ (one - one / (4 : Int32) * (4 : Int32)) = 0 := by
        unfold M_air_j7
        rw [if_neg (fun z => c (el.mpr (by have := ei.mp z; omega)))]
      rw [hj, if_pos (fails_0 ξ), if_neg c]
      exact LQ_air (hQ.ext (sEq.f ξ 0))
end OPT
end
