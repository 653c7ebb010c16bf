noncomputable section
section OP4
variable {ξ τ : St}
theorem LQ_lset (hQ : LQ ξ τ) {n c : Nat} (hc : c < 6) {ξ' : St} {w : Int32}
    (h0 : ∀ k, k < 15 → k ≠ 14 → ξ' k = ξ k) (h1 : ∀ k, 25 < k → k < 38 → ξ' k = ξ k)
    (hl : ∀ j, j < 10 → (j ≠ n → ∀ k, 14 ≤ k → k < 26 → ξ' k j = ξ k j))
    (h25 : ξ' 25 n = ξ 25 n)
    (e0 : (if c = 0 then w else τ 3 (6 * n)) = ξ' 15 n + 64 * ξ' 14 n + 128 * ξ' 22 n) (e1 : (if c = 1 then w else τ 3 (6 * n + 1)) = ξ' 16 n) (e2 : (if c = 2 then w else τ 3 (6 * n + 2)) = ξ' 17 n + 4 * ξ' 18 n + 64 * ξ' 19 n) (e3 : (if c = 3 then w else τ 3 (6 * n + 3)) = ξ' 20 n + 32 * ξ' 21 n) (e4 : (if c = 4 then w else τ 3 (6 * n + 4)) = ξ' 23 n) (e5 : (if c = 5 then w else τ 3 (6 * n + 5)) = ξ' 24 n) : LQ ξ' (sS τ 3 (6 * n + c) w) := by
  have hh := hQ
  unfold LQ at hh ⊢
  obtain ⟨b0, b1, b2, b3, b4, b5, b6, b7, b8, b9, b10⟩ := hh
  have f : ∀ k, k < 14 → ξ' k = ξ k := fun k hk => h0 k (by omega) (by omega)
  simp only [f 0 (by decide), f 1 (by decide), f 2 (by decide), f 3 (by decide), f 4 (by decide), f 5 (by decide), f 6 (by decide), f 7 (by decide), f 8 (by decide), f 9 (by decide), f 10 (by decide), f 11 (by decide), f 12 (by decide), f 13 (by decide), h1 26 (by decide) (by decide), h1 27 (by decide) (by decide), h1 28 (by decide) (by decide), h1 29 (by decide) (by decide), h1 30 (by decide) (by decide), h1 31 (by decide) (by decide), h1 32 (by decide) (by decide), h1 33 (by decide) (by decide), h1 34 (by decide) (by decide), h1 35 (by decide) (by decide), h1 36 (by decide) (by decide)]
  refine ⟨b0, b1, b2, b3, b4, fun j hj => ?_, b6, b7, b8, b9, b10⟩
  obtain ⟨a0, a1, a2, a3, a4, a5, a6⟩ := b5 j hj
  by_cases e : j = n
  · subst e
    refine ⟨?_, ?_, ?_, ?_, ?_, ?_, ?_⟩
    · rw [← e0, sS_at]
      by_cases z : c = 0
      · rw [if_pos z, if_pos (by omega)]
      · rw [if_neg z, if_neg (by omega)]
    · rw [← e1, sS_at]
      by_cases z : c = 1
      · rw [if_pos z, if_pos (by omega)]
      · rw [if_neg z, if_neg (by omega)]
    · rw [← e2, sS_at]
      by_cases z : c = 2
      · rw [if_pos z, if_pos (by omega)]
      · rw [if_neg z, if_neg (by omega)]
    · rw [← e3, sS_at]
      by_cases z : c = 3
      · rw [if_pos z, if_pos (by omega)]
      · rw [if_neg z, if_neg (by omega)]
    · rw [← e4, sS_at]
      by_cases z : c = 4
      · rw [if_pos z, if_pos (by omega)]
      · rw [if_neg z, if_neg (by omega)]
    · rw [← e5, sS_at]
      by_cases z : c = 5
      · rw [if_pos z, if_pos (by omega)]
      · rw [if_neg z, if_neg (by omega)]
    · rw [h25]
      exact a6
  · have q := hl j hj e
    rw [q 14 (by decide) (by decide), q 15 (by decide) (by decide), q 16 (by decide) (by decide), q 17 (by decide) (by decide), q 18 (by decide) (by decide), q 19 (by decide) (by decide), q 20 (by decide) (by decide), q 21 (by decide) (by decide), q 22 (by decide) (by decide), q 23 (by decide) (by decide), q 24 (by decide) (by decide), q 25 (by decide) (by decide)]
    rw [sS_at, if_neg (by omega), sS_at, if_neg (by omega), sS_at, if_neg (by omega), sS_at, if_neg (by omega), sS_at, if_neg (by omega), sS_at, if_neg (by omega)]
    exact ⟨a0, a1, a2, a3, a4, a5, a6⟩
theorem LQ_hours (hQ : LQ ξ τ) {n : Nat} (hn : n < 10) {a b : Int32} : LQ (sS (sS ξ 20 n a) 21 n b) (sS τ 3 (6 * n + 3) (a + 32 * b)) := by
  obtain ⟨a0, a1, a2, a3, a4, a5, a6⟩ := hQ.l hn
  refine LQ_lset hQ (by decide) (fun k h1 h2 => ?_) (fun k h1 h2 => ?_) (fun j _ hj k h1 h2 => ?_) rfl a0 a1 a2 ?_ a4 a5
  · rw [sS_col (by omega), sS_col (by omega)]
  · rw [sS_col (by omega), sS_col (by omega)]
  · rw [sS_ne (fun _ => hj), sS_ne (fun _ => hj)]
  · rw [if_pos rfl, sS_same, sS_col (by decide), sS_same]
theorem LQ_exempt (hQ : LQ ξ τ) {n : Nat} (hn : n < 10) {b w : Int32} (hw : w = ξ 15 n + 64 * ξ 14 n + 128 * b) : LQ (sS ξ 22 n b) (sS τ 3 (6 * n) w) := by
  obtain ⟨a0, a1, a2, a3, a4, a5, a6⟩ := hQ.l hn
  refine LQ_lset (c := 0) hQ (by decide) (fun k h1 h2 => ?_) (fun k h1 h2 => ?_) (fun j _ hj k h1 h2 => ?_) rfl ?_ a1 a2 a3 a4 a5
  · rw [sS_col (by omega)]
  · rw [sS_col (by omega)]
  · rw [sS_ne (fun _ => hj)]
  · rw [if_pos rfl, sS_same, sS_col (by decide), sS_col (by decide), hw]
theorem LQ_out (hQ : LQ ξ τ) {v : Nat} (hv : v < 2) {d : Int32} : LQ (sS ξ 12 v d) (sS τ 2 (4 * v + 3) d) := by
  refine ⟨hQ.1, hQ.2.1, hQ.2.2.1, hQ.2.2.2.1, fun k hk => ?_, hQ.2.2.2.2.2⟩
  obtain ⟨a0, a1, a2, a3⟩ := hQ.v hk
  refine ⟨?_, ?_, ?_, ?_⟩
  · rw [sS_at, if_neg (by omega)]; exact a0
  · rw [sS_at, if_neg (by omega)]; exact a1
  · rw [sS_at, if_neg (by omega)]; exact a2
  · rw [sS_at, sS_at]
    by_cases e : k = v
    · rw [if_pos e, if_pos (by omega)]
    · rw [if_neg e, if_neg (by omega)]; exact a3
end OP4
section OPL
variable {ξ τ : St} {one two : Int32}
theorem above {x g : Int32} {N M : Nat} (h : vp_in x N) (hN : N < 1000000) (hg : vp_in g M) (hM : M < 1000000) (hlt : g ≤ x) : ¬ vp_in x (ix g) := fun w => by
  have a := vp_lt h
  have b := vp_lt hg
  have c := vp_lt w
  have e1 := vp_nI' h (by omega)
  have e2 := vp_nI' hg (by omega)
  generalize ix x = i at *
  generalize ix g = j at *
  subst e1
  subst e2
  exact absurd ((nI_leI (by omega) (by omega)).mp hlt) (by omega)
theorem is_lamp (hQ : LQ ξ τ) (hI : InvX ξ) (h1 : vp_in one 60000) : τ 7 (ix (3 : Int32)) ≤ (one - one / ((τ 7 (ix (3 : Int32))) + (1 : Int32)) * ((τ 7 (ix (3 : Int32))) + (1 : Int32))) ↔ M_isLamp ξ (one - one / ((τ 7 (ix (3 : Int32))) + (1 : Int32)) * ((τ 7 (ix (3 : Int32))) + (1 : Int32))) = 0 := by
  have hIL := IL_of hQ hI
  have g3 : τ 7 (ix (3 : Int32)) = ξ 13 0 := hQ.g.2.2.2.1
  have hx := remv h1 (by decide) (IL_7_3 hIL) (by decide)
  have hg := IL_7_3 hIL
  rw [lamp_iff hI, ← g3]
  constructor
  · intro h
    exact above hx (by decide) hg (by decide) h
  · intro h
    exact Classical.byContradiction fun w => h (below hx (by decide) hg (by decide) w)
theorem is_vil (hQ : LQ ξ τ) (hI : InvX ξ) (h1 : vp_in one 60000) : τ 7 (ix (2 : Int32)) ≤ (one - one / ((τ 7 (ix (2 : Int32))) + (1 : Int32)) * ((τ 7 (ix (2 : Int32))) + (1 : Int32))) ↔ M_isVillage ξ (one - one / ((τ 7 (ix (2 : Int32))) + (1 : Int32)) * ((τ 7 (ix (2 : Int32))) + (1 : Int32))) = 0 := by
  have hIL := IL_of hQ hI
  have g2 : τ 7 (ix (2 : Int32)) = ξ 8 0 := hQ.g.2.2.1
  have hx := remv h1 (by decide) (IL_7_2 hIL) (by decide)
  have hg := IL_7_2 hIL
  rw [village_iff hI, ← g2]
  constructor
  · intro h
    exact above hx (by decide) hg (by decide) h
  · intro h
    exact Classical.byContradiction fun w => h (below hx (by decide) hg (by decide) w)
theorem is_met (hQ : LQ ξ τ) (hI : InvX ξ) (h1 : vp_in one 60000) : τ 7 (ix (4 : Int32)) ≤ (one - one / ((τ 7 (ix (4 : Int32))) + (1 : Int32)) * ((τ 7 (ix (4 : Int32))) + (1 : Int32))) ↔ M_isMeter ξ (one - one / ((τ 7 (ix (4 : Int32))) + (1 : Int32)) * ((τ 7 (ix (4 : Int32))) + (1 : Int32))) = 0 := by
  have hIL := IL_of hQ hI
  have g2 : τ 7 (ix (4 : Int32)) = ξ 26 0 := hQ.g.2.2.2.2.1
  have hx := remv h1 (by decide) (IL_7_4 hIL) (by decide)
  have hg := IL_7_4 hIL
  rw [meter_iff hI, ← g2]
  constructor
  · intro h
    exact above hx (by decide) hg (by decide) h
  · intro h
    exact Classical.byContradiction fun w => h (below hx (by decide) hg (by decide) w)
theorem L1_ok (hQ : LQ ξ τ) (hI : InvX ξ) (hO : InvO ξ) (h1 : vp_in one 60000) (h2 : vp_in two 60000) : L1 τ ξ one two = 1 ∧ LQ (L1_x τ ξ one two) (L1_s τ ξ one two) ∧ InvX (L1_x τ ξ one two) ∧ InvO (L1_x τ ξ one two) := by
  have hil := is_lamp hQ hI h1
  have g0 : τ 7 (ix (0 : Int32)) = ξ 0 0 := hQ.g.1
  have hf : vp_in (L1_j383 τ ξ one two) 25 := by
    unfold L1_j383
    split
    · exact vp_in_nI (n := 24) (by decide) (by decide)
    · exact vp_up (vr_rem (c := 24) h2 (by decide) (by decide) (by decide)) (by decide)
  have ht : vp_in (two / (29 : Int32) - two / (29 : Int32) / (24 : Int32) * (24 : Int32)) 24 := vr_rem (c := 24) (vr_div (c := 29) h2 (by decide) (by decide) (by decide)) (by decide) (by decide) (by decide)
  have e7 : M_hours_j7 ξ (one - one / ((τ 7 (ix (3 : Int32))) + (1 : Int32)) * ((τ 7 (ix (3 : Int32))) + (1 : Int32))) (L1_j383 τ ξ one two) (two / (29 : Int32) - two / (29 : Int32) / (24 : Int32) * (24 : Int32)) = 0 ↔ (24 : Int32) ≤ L1_j383 τ ξ one two := by
    unfold M_hours_j7
    have a1 := isIn_n (a := 0) (b := 23) (A := 0) (B := 23) hf (by decide) rfl rfl (by decide) (by decide)
    have a2 := isIn_n (a := 0) (b := 23) (A := 0) (B := 23) ht (by decide) rfl rfl (by decide) (by decide)
    have b1 := (le_n (c := 24) (N := 24) hf (by decide) (by decide) rfl).1
    have l := vp_lt ht
    rw [if_neg (c := M_isIn (two / (29 : Int32) - two / (29 : Int32) / (24 : Int32) * (24 : Int32)) 0 23 = 0) (fun z => by have := a2.mp z; omega), b1]
    by_cases w : M_isIn (L1_j383 τ ξ one two) 0 23 = 0
    · rw [if_pos w]
      have := a1.mp w
      exact ⟨fun _ => by omega, fun _ => rfl⟩
    · rw [if_neg w]
      exact ⟨fun z => absurd z i10, fun z => absurd (a1.mpr (by omega)) w⟩
  have e24 : L1_j383 τ ξ one two = 24 ↔ (24 : Int32) ≤ L1_j383 τ ξ one two := by
    rw [(le_n (c := 24) (N := 24) hf (by decide) (by decide) rfl).1, eq_n (c := 24) (N := 24) hf (by decide) (by decide) rfl]
    have := vp_lt hf
    omega
  refine ⟨?_, ?_, IO_hours hI hO _ _ _⟩
  · unfold L1 L1_j490 L1_j459 L1_j343 L1_j331 DV_7 M_hours_s M_hours_j65_s
    by_cases a : M_isLamp ξ (one - one / ((τ 7 (ix (3 : Int32))) + (1 : Int32)) * ((τ 7 (ix (3 : Int32))) + (1 : Int32))) = 0
    · have hj : M_hours_j33 ξ (one - one / ((τ 7 (ix (3 : Int32))) + (1 : Int32)) * ((τ 7 (ix (3 : Int32))) + (1 : Int32))) (L1_j383 τ ξ one two) (two / (29 : Int32) - two / (29 : Int32) / (24 : Int32) * (24 : Int32)) = 1 := by
        unfold M_hours_j33
        rw [if_pos a]
      rw [hj, if_neg (nf1 ξ), f41, if_neg i10, if_pos rfl, if_pos (hil.mpr a), if_pos rfl]
      exact if_pos rfl
    rw [if_neg (fun z => a (hil.mp z)), if_neg i10, if_neg i10]
    have hlam : vp_in (one - one / ((τ 7 (ix (3 : Int32))) + (1 : Int32)) * ((τ 7 (ix (3 : Int32))) + (1 : Int32))) (ix (ξ 13 0)) := Classical.byContradiction fun w => a ((lamp_iff hI).mpr w)
    rw [dl_5 hQ (hQ.lam hlam), g0]
    by_cases b : (24 : Int32) ≤ L1_j383 τ ξ one two
    · have hj : M_hours_j33 ξ (one - one / ((τ 7 (ix (3 : Int32))) + (1 : Int32)) * ((τ 7 (ix (3 : Int32))) + (1 : Int32))) (L1_j383 τ ξ one two) (two / (29 : Int32) - two / (29 : Int32) / (24 : Int32) * (24 : Int32)) = 2 := by
        unfold M_hours_j33
        rw [if_neg a, if_pos (e7.mpr b)]
      rw [hj, if_neg (nf2 ξ), f41, if_neg n20, if_neg n21, if_pos rfl, if_pos (e24.mpr b)]
      exact if_pos rfl
    rw [if_neg (fun z => b (e24.mp z))]
    by_cases c : ξ 24 (ix (one - one / ((τ 7 (ix (3 : Int32))) + (1 : Int32)) * ((τ 7 (ix (3 : Int32))) + (1 : Int32)))) ≤ ξ 0 0
    · have hj : M_hours_j33 ξ (one - one / ((τ 7 (ix (3 : Int32))) + (1 : Int32)) * ((τ 7 (ix (3 : Int32))) + (1 : Int32))) (L1_j383 τ ξ one two) (two / (29 : Int32) - two / (29 : Int32) / (24 : Int32) * (24 : Int32)) = 0 := by
        unfold M_hours_j33 M_isBound M_isBound_j10
        rw [if_neg a, if_neg (fun z => b (e7.mp z)), if_pos c, if_pos rfl]
      rw [hj, if_pos (fails_0 ξ), sS_col (by decide), sS_col (by decide), f41, if_pos rfl, if_pos c, if_pos rfl]
      exact if_pos rfl
    · have hj : M_hours_j33 ξ (one - one / ((τ 7 (ix (3 : Int32))) + (1 : Int32)) * ((τ 7 (ix (3 : Int32))) + (1 : Int32))) (L1_j383 τ ξ one two) (two / (29 : Int32) - two / (29 : Int32) / (24 : Int32) * (24 : Int32)) = 3 := by
        unfold M_hours_j33 M_isBound M_isBound_j10
        rw [if_neg a, if_neg (fun z => b (e7.mp z)), if_neg c, if_neg i10]
      rw [hj, if_neg (nf3 ξ), f41, if_neg n30a, if_neg n31, if_neg n32, if_neg c, if_neg i10]
      exact if_pos rfl
  · unfold L1_x L1_s L1_j410_s L1_j343 L1_j331 M_hours_s M_hours_j65_s
    by_cases a : M_isLamp ξ (one - one / ((τ 7 (ix (3 : Int32))) + (1 : Int32)) * ((τ 7 (ix (3 : Int32))) + (1 : Int32))) = 0
    · have hj : M_hours_j33 ξ (one - one / ((τ 7 (ix (3 : Int32))) + (1 : Int32)) * ((τ 7 (ix (3 : Int32))) + (1 : Int32))) (L1_j383 τ ξ one two) (two / (29 : Int32) - two / (29 : Int32) / (24 : Int32) * (24 : Int32)) = 1 := by
        unfold M_hours_j33
        rw [if_pos a]
      rw [hj, if_neg (nf1 ξ), if_pos (hil.mpr a), if_pos rfl]
      exact hQ.ext (sEq.f ξ 1)
    rw [if_neg (fun z => a (hil.mp z)), if_neg i10, if_neg i10]
    have hlam : vp_in (one - one / ((τ 7 (ix (3 : Int32))) + (1 : Int32)) * ((τ 7 (ix (3 : Int32))) + (1 : Int32))) (ix (ξ 13 0)) := Classical.byContradiction fun w => a ((lamp_iff hI).mpr w)
    rw [dl_5 hQ (hQ.lam hlam), g0]
    by_cases b : (24 : Int32) ≤ L1_j383 τ ξ one two
    · have hj : M_hours_j33 ξ (one - one / ((τ 7 (ix (3 : Int32))) + (1 : Int32)) * ((τ 7 (ix (3 : Int32))) + (1 : Int32))) (L1_j383 τ ξ one two) (two / (29 : Int32) - two / (29 : Int32) / (24 : Int32) * (24 : Int32)) = 2 := by
        unfold M_hours_j33
        rw [if_neg a, if_pos (e7.mpr b)]
      rw [hj, if_neg (nf2 ξ), if_pos b]
      exact hQ.ext (sEq.f ξ 2)
    rw [if_neg b]
    by_cases c : ξ 24 (ix (one - one / ((τ 7 (ix (3 : Int32))) + (1 : Int32)) * ((τ 7 (ix (3 : Int32))) + (1 : Int32)))) ≤ ξ 0 0
    · have hj : M_hours_j33 ξ (one - one / ((τ 7 (ix (3 : Int32))) + (1 : Int32)) * ((τ 7 (ix (3 : Int32))) + (1 : Int32))) (L1_j383 τ ξ one two) (two / (29 : Int32) - two / (29 : Int32) / (24 : Int32) * (24 : Int32)) = 0 := by
        unfold M_hours_j33 M_isBound M_isBound_j10
        rw [if_neg a, if_neg (fun z => b (e7.mp z)), if_pos c, if_pos rfl]
      rw [hj, if_pos (fails_0 ξ), if_pos c, if_pos rfl, li6_3 (hQ.lam hlam)]
      exact LQ_hours (hQ.ext (sEq.f ξ 0)) (vp_lt (hQ.lam hlam))
    · have hj : M_hours_j33 ξ (one - one / ((τ 7 (ix (3 : Int32))) + (1 : Int32)) * ((τ 7 (ix (3 : Int32))) + (1 : Int32))) (L1_j383 τ ξ one two) (two / (29 : Int32) - two / (29 : Int32) / (24 : Int32) * (24 : Int32)) = 3 := by
        unfold M_hours_j33 M_isBound M_isBound_j10
        rw [if_neg a, if_neg (fun z => b (e7.mp z)), if_neg c, if_neg i10]
      rw [hj, if_neg (nf3 ξ), if_neg c, if_neg i10]
      exact hQ.ext (sEq.f ξ 3)
theorem L2_ok (hQ : LQ ξ τ) (hI : InvX ξ) (hO : InvO ξ) (h1 : vp_in one 60000) (h2 : vp_in two 60000) : L2 τ ξ one two = 1 ∧ LQ (L2_x τ ξ one two) (L2_s τ ξ one two) ∧ InvX (L2_x τ ξ one two) ∧ InvO (L2_x τ ξ one two) := by
  have hil := is_lamp hQ hI h1
  have hb := L2_j574_b τ ξ one two
  unfold L2 L2_x L2_s L2_j331
  by_cases a : M_isLamp ξ (one - one / ((τ 7 (ix (3 : Int32))) + (1 : Int32)) * ((τ 7 (ix (3 : Int32))) + (1 : Int32))) = 0
  · repeat rw [if_pos (hil.mpr a)]
    repeat rw [if_pos rfl]
    exact ⟨rfl, hQ, hI, hO⟩
  repeat rw [if_neg (fun z => a (hil.mp z))]
  repeat rw [if_neg i10]
  have hlam : vp_in (one - one / ((τ 7 (ix (3 : Int32))) + (1 : Int32)) * ((τ 7 (ix (3 : Int32))) + (1 : Int32))) (ix (ξ 13 0)) := Classical.byContradiction fun w => a ((lamp_iff hI).mpr w)
  obtain ⟨x, y, c, hx, hy, hc, e1, e2, e3, e⟩ := dl0 hQ hI hlam
  have hj : M_exempt_j6 ξ (one - one / ((τ 7 (ix (3 : Int32))) + (1 : Int32)) * ((τ 7 (ix (3 : Int32))) + (1 : Int32))) (L2_j574 τ ξ one two) = 0 := by
    unfold M_exempt_j6
    rw [if_neg a]
  refine ⟨?_, ?_, IO_exempt hI hO _ _ hb⟩
  · unfold L2_j587 L2_j522 M_exempt
    rw [hj, if_pos (fails_0 ξ), e]
    have q : (if nI (x + 64 * y + 128 * c) ≤ (127 : Int32) then (0 : Int32) else 1) = M_fails_s ξ 0 22 (ix (one - one / ((τ 7 (ix (3 : Int32))) + (1 : Int32)) * ((τ 7 (ix (3 : Int32))) + (1 : Int32)))) := by
      rw [fcol ξ 0 (by decide), e3]
      have hc' : c = 0 ∨ c = 1 := by omega
      rcases hc' with z | z
      · subst z
        exact if_pos (nI_le (b := 127) (by omega) (by decide))
      · subst z
        exact if_neg (nI_ge (a := 127) (by omega) (by omega))
    rw [q]
    exact if_pos rfl
  · unfold M_exempt_s
    rw [hj, if_pos (fails_0 ξ), li6 (hQ.lam hlam)]
    refine LQ_exempt (hQ.ext (sEq.f ξ 0)) (vp_lt (hQ.lam hlam)) ?_
    have e' : τ 3 (6 * ix (one - one / ((τ 7 (ix (3 : Int32))) + (1 : Int32)) * ((τ 7 (ix (3 : Int32))) + (1 : Int32)))) = nI (x + 64 * y + 128 * c) := by rw [← e, li6 (hQ.lam hlam)]
    rw [e', fcol ξ 0 (by decide), fcol ξ 0 (by decide), e1, e2, show (128 : Int32) = nI 128 from rfl, pk_rem (by omega) (by decide) (by decide), show (x + 64 * y + 128 * c) % 128 = x + 64 * y by omega, ← nI_add, ← pk_mul, show nI 64 = (64 : Int32) from rfl, show nI 128 = (128 : Int32) from rfl]
    unfold L2_j555 L2_j574
    by_cases d : two - two / (2 : Int32) * (2 : Int32) = 0
    · rw [if_pos d, if_pos d]
      rfl
    · rw [if_neg d, if_neg d]
      rfl
theorem L3_ok (hQ : LQ ξ τ) (hI : InvX ξ) (hO : InvO ξ) (h1 : vp_in one 60000) (h2 : vp_in two 60000) : L3 τ ξ one two = 1 ∧ LQ (L3_x τ ξ one two) (L3_s τ ξ one two) ∧ InvX (L3_x τ ξ one two) ∧ InvO (L3_x τ ξ one two) := by
  have hil := is_vil hQ hI h1
  have g0 : τ 7 (ix (0 : Int32)) = ξ 0 0 := hQ.g.1
  have hf : vp_in (L3_j618 τ ξ one two) 502 := by
    unfold L3_j618
    split
    · exact vp_in_nI (n := 501) (by decide) (by decide)
    · exact vp_up (vr_rem (c := 40) h2 (by decide) (by decide) (by decide)) (by decide)
  have e7 : M_isIn (L3_j618 τ ξ one two) 0 500 = 0 ↔ (501 : Int32) ≤ L3_j618 τ ξ one two := by
    rw [isIn_n (a := 0) (b := 500) (A := 0) (B := 500) hf (by decide) rfl rfl (by decide) (by decide), (le_n (c := 501) (N := 501) hf (by decide) (by decide) rfl).1]
    omega
  have hvil : ¬ M_isVillage ξ (one - one / ((τ 7 (ix (2 : Int32))) + (1 : Int32)) * ((τ 7 (ix (2 : Int32))) + (1 : Int32))) = 0 → vp_in (one - one / ((τ 7 (ix (2 : Int32))) + (1 : Int32)) * ((τ 7 (ix (2 : Int32))) + (1 : Int32))) 2 := fun a => vp_up (Classical.byContradiction fun w => a ((village_iff hI).mpr w)) hQ.lim.1
  have i4 : ¬ M_isVillage ξ (one - one / ((τ 7 (ix (2 : Int32))) + (1 : Int32)) * ((τ 7 (ix (2 : Int32))) + (1 : Int32))) = 0 → ix ((4 : Int32) * (one - one / ((τ 7 (ix (2 : Int32))) + (1 : Int32)) * ((τ 7 (ix (2 : Int32))) + (1 : Int32))) + (3 : Int32)) = 4 * ix (one - one / ((τ 7 (ix (2 : Int32))) + (1 : Int32)) * ((τ 7 (ix (2 : Int32))) + (1 : Int32))) + 3 := fun a => ixc (f := 4) (c := 3) (hvil a) (by decide) (by decide)
  refine ⟨?_, ?_, IO_outage hI hO _ _⟩
  · unfold L3 L3_j755 L3_j732 L3_j652 L3_j640 DV_8 M_outage_s M_outage M_outage_j47
    by_cases a : M_isVillage ξ (one - one / ((τ 7 (ix (2 : Int32))) + (1 : Int32)) * ((τ 7 (ix (2 : Int32))) + (1 : Int32))) = 0
    · have hj : M_outage_j6 ξ (one - one / ((τ 7 (ix (2 : Int32))) + (1 : Int32)) * ((τ 7 (ix (2 : Int32))) + (1 : Int32))) (L3_j618 τ ξ one two) = 1 := by
        unfold M_outage_j6
        rw [if_pos a]
      rw [hj, if_neg (nf1 ξ), f41, if_neg i10, if_pos rfl, if_pos (hil.mpr a), if_pos rfl]
      exact if_pos rfl
    rw [if_neg (fun z => a (hil.mp z)), if_neg i10, if_neg i10, i4 a, (hQ.v (vp_lt (hvil a))).2.2.2, g0]
    by_cases b : (501 : Int32) ≤ L3_j618 τ ξ one two
    · have hj : M_outage_j6 ξ (one - one / ((τ 7 (ix (2 : Int32))) + (1 : Int32)) * ((τ 7 (ix (2 : Int32))) + (1 : Int32))) (L3_j618 τ ξ one two) = 2 := by
        unfold M_outage_j6
        rw [if_neg a, if_pos (e7.mpr b)]
      rw [hj, if_neg (nf2 ξ), f41, if_neg n20, if_neg n21, if_pos b]
      exact if_pos rfl
    · have hj : M_outage_j6 ξ (one - one / ((τ 7 (ix (2 : Int32))) + (1 : Int32)) * ((τ 7 (ix (2 : Int32))) + (1 : Int32))) (L3_j618 τ ξ one two) = 0 := by
        unfold M_outage_j6
        rw [if_neg a, if_neg (fun z => b (e7.mp z))]
      rw [hj, if_pos (fails_0 ξ), if_pos (fails_0 ξ), sS_col (by decide), f41, if_pos rfl, if_neg b, fcol ξ 0 (by decide), fcol ξ 0 (by decide)]
      exact if_pos rfl
  · unfold L3_x L3_s L3_j691_s L3_j640 M_outage_s
    by_cases a : M_isVillage ξ (one - one / ((τ 7 (ix (2 : Int32))) + (1 : Int32)) * ((τ 7 (ix (2 : Int32))) + (1 : Int32))) = 0
    · have hj : M_outage_j6 ξ (one - one / ((τ 7 (ix (2 : Int32))) + (1 : Int32)) * ((τ 7 (ix (2 : Int32))) + (1 : Int32))) (L3_j618 τ ξ one two) = 1 := by
        unfold M_outage_j6
        rw [if_pos a]
      rw [hj, if_neg (nf1 ξ), if_pos (hil.mpr a), if_pos rfl]
      exact hQ.ext (sEq.f ξ 1)
    rw [if_neg (fun z => a (hil.mp z)), if_neg i10]
    by_cases b : (501 : Int32) ≤ L3_j618 τ ξ one two
    · have hj : M_outage_j6 ξ (one - one / ((τ 7 (ix (2 : Int32))) + (1 : Int32)) * ((τ 7 (ix (2 : Int32))) + (1 : Int32))) (L3_j618 τ ξ one two) = 2 := by
        unfold M_outage_j6
        rw [if_neg a, if_pos (e7.mpr b)]
      rw [hj, if_neg (nf2 ξ), if_pos b]
      exact hQ.ext (sEq.f ξ 2)
    · have hj : M_outage_j6 ξ (one - one / ((τ 7 (ix (2 : Int32))) + (1 : Int32)) * ((τ 7 (ix (2 : Int32))) + (1 : Int32))) (L3_j618 τ ξ one two) = 0 := by
        unfold M_outage_j6
        rw [if_neg a, if_neg (fun z => b (e7.mp z))]
      rw [hj, if_pos (fails_0 ξ), if_neg b, i4 a, g0, fcol ξ 0 (by decide)]
      exact LQ_out (hQ.ext (sEq.f ξ 0)) (vp_lt (hvil a))
end OPL
end
