noncomputable section
section OP6
variable {ξ τ : St}
theorem LQ_lamp (hQ : LQ ξ τ) (hI : InvX ξ) {n : Nat} (hn : n < 10) (h13 : ξ 13 0 = nI n) {v p fl co sh : Int32} : LQ (newLamp ξ v p fl co sh) (sS (sS (sS (sS (sS (sS τ 3 (6 * n) (p + 64 * v)) 3 (6 * n + 1) fl) 3 (6 * n + 2) (co + 4 * sh)) 3 (6 * n + 3) 210) 4 n (-720)) 7 3 (ξ 13 0 + 1)) := by
  have in13 : ix (ξ 13 0) = n := by rw [h13, ixn (by omega)]
  obtain ⟨z19, z22, z23, z24⟩ := hI.2.2.2.1 n (by omega)
  have hh := hQ
  unfold LQ at hh ⊢
  obtain ⟨⟨g0, g1, g2, g3, g4, g5, g6, g7⟩, b1, b2, b3, b4, b5, b6, b7, b8, b9, b10⟩ := hh
  have f : ∀ k, k < 13 ∨ 25 < k → newLamp ξ v p fl co sh k = ξ k := fun k h => newLamp_c h
  have e13 : newLamp ξ v p fl co sh 13 0 = ξ 13 0 + 1 := newLamp_13
  simp only [f 0 (by decide), f 1 (by decide), f 2 (by decide), f 3 (by decide), f 4 (by decide), f 5 (by decide), f 6 (by decide), f 7 (by decide), f 8 (by decide), f 9 (by decide), f 10 (by decide), f 11 (by decide), f 12 (by decide), e13, f 26 (by decide), f 27 (by decide), f 28 (by decide), f 29 (by decide), f 30 (by decide), f 31 (by decide), f 32 (by decide), f 33 (by decide), f 34 (by decide), f 35 (by decide), f 36 (by decide)]
  refine ⟨⟨?_, ?_, ?_, ?_, ?_, ?_, ?_, ?_⟩, b1, b2, b3, b4, fun j hj => ?_, b6, b7, b8, b9, b10.1, ?_, b10.2.2⟩
  · rw [sS_at, if_neg (by decide)]; exact g0
  · rw [sS_at, if_neg (by decide)]; exact g1
  · rw [sS_at, if_neg (by decide)]; exact g2
  · rw [sS_at, if_pos rfl]
  · rw [sS_at, if_neg (by decide)]; exact g4
  · rw [sS_at, if_neg (by decide)]; exact g5
  · rw [sS_at, if_neg (by decide)]; exact g6
  · rw [sS_at, if_neg (by decide)]; exact g7
  · obtain ⟨a0, a1, a2, a3, a4, a5, a6⟩ := b5 j hj
    have t3 : ∀ i, (sS (sS (sS (sS (sS (sS τ 3 (6 * n) (p + 64 * v)) 3 (6 * n + 1) fl) 3 (6 * n + 2) (co + 4 * sh)) 3 (6 * n + 3) 210) 4 n (-720)) 7 3 (ξ 13 0 + 1)) 3 i = if i = 6 * n + 3 then 210 else if i = 6 * n + 2 then co + 4 * sh else if i = 6 * n + 1 then fl else if i = 6 * n then p + 64 * v else τ 3 i := by
      intro i
      rw [sS_col (by decide), sS_col (by decide), sS_at, sS_at, sS_at, sS_at]
    have t4 : (sS (sS (sS (sS (sS (sS τ 3 (6 * n) (p + 64 * v)) 3 (6 * n + 1) fl) 3 (6 * n + 2) (co + 4 * sh)) 3 (6 * n + 3) 210) 4 n (-720)) 7 3 (ξ 13 0 + 1)) 4 j = if j = n then -720 else τ 4 j := by
      rw [sS_col (by decide), sS_at]
      by_cases q : j = n
      · rw [if_pos q, if_pos q]
      · rw [if_neg q, if_neg q, sS_col (by decide), sS_col (by decide), sS_col (by decide), sS_col (by decide)]
    have K : ∀ k, k = 19 ∨ k = 22 ∨ k = 23 ∨ k = 24 → newLamp ξ v p fl co sh k = ξ k := fun k h => newLamp_k h
    by_cases q : j = n
    · subst q
      have x14 : newLamp ξ v p fl co sh 14 j = v := by
        unfold newLamp
        rw [in13, sC_col (by decide), sS_col (by decide), sS_col (by decide), sS_col (by decide), sS_col (by decide), sS_col (by decide), sS_col (by decide), sS_col (by decide), sS_same]
      have x15 : newLamp ξ v p fl co sh 15 j = p := by
        unfold newLamp
        rw [in13, sC_col (by decide), sS_col (by decide), sS_col (by decide), sS_col (by decide), sS_col (by decide), sS_col (by decide), sS_col (by decide), sS_same]
      have x16 : newLamp ξ v p fl co sh 16 j = fl := by
        unfold newLamp
        rw [in13, sC_col (by decide), sS_col (by decide), sS_col (by decide), sS_col (by decide), sS_col (by decide), sS_col (by decide), sS_same]
      have x17 : newLamp ξ v p fl co sh 17 j = co := by
        unfold newLamp
        rw [in13, sC_col (by decide), sS_col (by decide), sS_col (by decide), sS_col (by decide), sS_col (by decide), sS_same]
      have x18 : newLamp ξ v p fl co sh 18 j = sh := by
        unfold newLamp
        rw [in13, sC_col (by decide), sS_col (by decide), sS_col (by decide), sS_col (by decide), sS_same]
      have x20 : newLamp ξ v p fl co sh 20 j = 18 := by
        unfold newLamp
        rw [in13, sC_col (by decide), sS_col (by decide), sS_col (by decide), sS_same]
      have x21 : newLamp ξ v p fl co sh 21 j = 6 := by
        unfold newLamp
        rw [in13, sC_col (by decide), sS_col (by decide), sS_same]
      have x25 : newLamp ξ v p fl co sh 25 j = -100000 := by
        unfold newLamp
        rw [in13, sC_col (by decide), sS_same]
      rw [t3, t3, t3, t3, t3, t3, t4, x14, x15, x16, x17, x18, K 19 (by decide), x20, x21, K 22 (by decide), K 23 (by decide), K 24 (by decide), x25]
      refine ⟨?_, ?_, ?_, ?_, ?_, ?_, ?_⟩
      · rw [if_neg (by omega), if_neg (by omega), if_neg (by omega), if_pos rfl, z22]
        exact (Int32.add_zero _).symm
      · rw [if_neg (by omega), if_neg (by omega), if_pos rfl]
      · rw [if_neg (by omega), if_pos rfl, z19]
        exact (Int32.add_zero _).symm
      · rw [if_pos rfl]
        decide
      · rw [if_neg (by omega), if_neg (by omega), if_neg (by omega), if_neg (by omega)]; exact a4
      · rw [if_neg (by omega), if_neg (by omega), if_neg (by omega), if_neg (by omega)]; exact a5
      · rw [if_pos rfl]
        exact Or.inr ⟨rfl, rfl⟩
    · have y : ∀ k, k ≠ 13 → newLamp ξ v p fl co sh k j = ξ k j := fun k hk => newLamp_i hk (by rw [in13]; exact q)
      rw [t3, t3, t3, t3, t3, t3, t4, y 14 (by decide), y 15 (by decide), y 16 (by decide), y 17 (by decide), y 18 (by decide), y 19 (by decide), y 20 (by decide), y 21 (by decide), y 22 (by decide), y 23 (by decide), y 24 (by decide), y 25 (by decide), if_neg q]
      refine ⟨?_, ?_, ?_, ?_, ?_, ?_, a6⟩
      · rw [if_neg (by omega), if_neg (by omega), if_neg (by omega), if_neg (by omega)]; exact a0
      · rw [if_neg (by omega), if_neg (by omega), if_neg (by omega), if_neg (by omega)]; exact a1
      · rw [if_neg (by omega), if_neg (by omega), if_neg (by omega), if_neg (by omega)]; exact a2
      · rw [if_neg (by omega), if_neg (by omega), if_neg (by omega), if_neg (by omega)]; exact a3
      · rw [if_neg (by omega), if_neg (by omega), if_neg (by omega), if_neg (by omega)]; exact a4
      · rw [if_neg (by omega), if_neg (by omega), if_neg (by omega), if_neg (by omega)]; exact a5
  · rw [h13, nI_1, ixn (by omega)]
    omega
theorem oN_len (f : Nat → Int32) (v : Int32) : ∀ n, oN f v n ≤ n := by
  intro n
  induction n with
  | zero => exact Nat.le_refl _
  | succ n ih =>
    show oN f v n + (if f n = v then 1 else 0) ≤ n + 1
    split <;> omega
end OP6
section OPL0
variable {ξ τ : St} {one two : Int32}
theorem L0_ok (hQ : LQ ξ τ) (hI : InvX ξ) (hO : InvO ξ) (h1 : vp_in one 60000) (h2 : vp_in two 60000) : L0 τ ξ one two = 1 ∧ LQ (L0_x τ ξ one two) (L0_s τ ξ one two) ∧ InvX (L0_x τ ξ one two) ∧ InvO (L0_x τ ξ one two) := by
  have g3 : τ 7 (ix (3 : Int32)) = ξ 13 0 := hQ.g.2.2.2.1
  have g2 : τ 7 (ix (2 : Int32)) = ξ 8 0 := hQ.g.2.2.1
  obtain ⟨n, hn41, en⟩ := vn (hI.1 13 0 : vp_in (ξ 13 0) 41) (by decide)
  have in13 : ix (ξ 13 0) = n := by rw [en, ixn (by omega)]
  have hl := hQ.lim.2.1
  rw [in13] at hl
  unfold L0 L0_x L0_s
  by_cases c : τ 7 (ix (3 : Int32)) = 10
  · repeat rw [if_pos c]
    exact ⟨rfl, hQ, hI, hO⟩
  repeat rw [if_neg c]
  rw [g3] at c
  have hn : n < 10 := by
    refine Nat.lt_of_le_of_ne hl fun z => c ?_
    rw [en, z]
    rfl
  have hiv := is_vil hQ hI h1
  have hp : vp_in (L0_j34 τ ξ one two) 65 := by
    unfold L0_j34
    split
    · exact vp_in_nI (n := 64) (by decide) (by decide)
    · exact vp_up (vr_add (vp_in_nI (n := 16) (N := 17) (by decide) (by decide)) (vr_rem (c := 24) h2 (by decide) (by decide) (by decide)) (by decide)) (by decide)
  have hfl : vp_in (L0_j61 τ ξ one two) 10002 ∧ 1 ≤ ix (L0_j61 τ ξ one two) := by
    unfold L0_j61
    split
    · exact ⟨vp_in_nI (n := 10001) (by decide) (by decide), by decide⟩
    · have q := vr_rem (c := 2000) (vr_div (c := 3) h1 (by decide) (by decide) (by decide)) (by decide) (by decide) (by decide)
      obtain ⟨j, hj, e⟩ := vn q (by decide)
      have e' : one / (3 : Int32) - one / (3 : Int32) / (2000 : Int32) * (2000 : Int32) = nI j := e
      rw [e', Int32.add_comm, nI_1]
      exact ⟨vp_in_nI (by omega) (by decide), by rw [ixn (by omega)]; omega⟩
  have hco : vp_in (L0_j92 τ ξ one two) 4 := by
    unfold L0_j92
    split
    · exact vp_in_nI (n := 3) (by decide) (by decide)
    · exact vp_up (vr_rem (c := 3) (vr_div (c := 29) h2 (by decide) (by decide) (by decide)) (by decide) (by decide) (by decide)) (by decide)
  have hsh : vp_in (two / (87 : Int32) - two / (87 : Int32) / (12 : Int32) * (12 : Int32)) 12 := vr_rem (c := 12) (vr_div (c := 87) h2 (by decide) (by decide) (by decide)) (by decide) (by decide) (by decide)
  have ep : M_isPlace (L0_j34 τ ξ one two) = 0 ↔ (64 : Int32) ≤ L0_j34 τ ξ one two := by
    rw [place_iff, (le_n (c := 64) (N := 64) hp (by decide) (by decide) rfl).1]
    constructor
    · intro z
      exact Nat.le_of_not_lt fun w => z (by rw [vp_nI' hp (by decide)]; exact vp_in_nI w (by decide))
    · intro z w
      have := vp_lt w
      omega
  have e8 : M_lamp_j8 ξ (one - one / ((τ 7 (ix (2 : Int32))) + (1 : Int32)) * ((τ 7 (ix (2 : Int32))) + (1 : Int32))) (L0_j34 τ ξ one two) (L0_j61 τ ξ one two) (L0_j92 τ ξ one two) (two / (87 : Int32) - two / (87 : Int32) / (12 : Int32) * (12 : Int32)) = L0_j146 τ ξ one two := by
    unfold M_lamp_j8 L0_j146
    have a1 := isIn_n (a := 1) (b := 10000) (A := 1) (B := 10000) hfl.1 (by decide) rfl rfl (by decide) (by decide)
    have a2 := isIn_n (a := 0) (b := 2) (A := 0) (B := 2) hco (by decide) rfl rfl (by decide) (by decide)
    have a3 := isIn_n (a := 0) (b := 10) (A := 0) (B := 10) hsh (by decide) rfl rfl (by decide) (by decide)
    have b1 := (le_n (c := 10001) (N := 10001) hfl.1 (by decide) (by decide) rfl).1
    have b2 := (le_n (c := 3) (N := 3) hco (by decide) (by decide) rfl).1
    have b3 := (le_n (c := 11) (N := 11) hsh (by decide) (by decide) rfl).1
    have b4 := hfl.2
    simp only [a1, a2, a3, b1, b2, b3]
    (repeat' split) <;> first | rfl | (exfalso; omega)
  have e44 : M_lamp_j44 ξ (one - one / ((τ 7 (ix (2 : Int32))) + (1 : Int32)) * ((τ 7 (ix (2 : Int32))) + (1 : Int32))) (L0_j34 τ ξ one two) (L0_j61 τ ξ one two) (L0_j92 τ ξ one two) (two / (87 : Int32) - two / (87 : Int32) / (12 : Int32) * (12 : Int32)) = L0_j124 τ ξ one two := by
    unfold M_lamp_j44 L0_j124
    by_cases z : M_isVillage ξ (one - one / ((τ 7 (ix (2 : Int32))) + (1 : Int32)) * ((τ 7 (ix (2 : Int32))) + (1 : Int32))) = 0
    · rw [if_pos z, if_pos (hiv.mpr z)]
    rw [if_neg z, if_neg (fun w => z (hiv.mp w))]
    by_cases y : M_isPlace (L0_j34 τ ξ one two) = 0
    · rw [if_pos y, if_pos (ep.mp y)]
    · rw [if_neg y, if_neg (fun w => y (ep.mpr w))]
  have h40 : ¬ ξ 13 0 = 40 := by
    rw [en]
    exact fun z => absurd ((nI_eq (a := n) (b := 40) (by omega) (by decide)).mp z) (by omega)
  have h10 : ¬ M_lampsOf ξ (one - one / ((τ 7 (ix (2 : Int32))) + (1 : Int32)) * ((τ 7 (ix (2 : Int32))) + (1 : Int32))) = 10 := by
    rw [lampsOf_eq hI, cntO_nI, in13]
    have := oN_len (ξ 14) (one - one / ((τ 7 (ix (2 : Int32))) + (1 : Int32)) * ((τ 7 (ix (2 : Int32))) + (1 : Int32))) n
    exact fun z => absurd ((nI_eq (a := oN (ξ 14) (one - one / ((τ 7 (ix (2 : Int32))) + (1 : Int32)) * ((τ 7 (ix (2 : Int32))) + (1 : Int32))) n) (b := 10) (by omega) (by decide)).mp z) (by omega)
  have i6 : ix ((6 : Int32) * ξ 13 0) = 6 * n := by rw [en, show (6 : Int32) = nI 6 from rfl, pk_mul, ixn (by omega)]
  have i61 : ix ((6 : Int32) * ξ 13 0 + (1 : Int32)) = 6 * n + 1 := by rw [en, show (6 : Int32) = nI 6 from rfl, show (1 : Int32) = nI 1 from rfl, pk_mul, nI_add, ixn (by omega)]
  have i62 : ix ((6 : Int32) * ξ 13 0 + (2 : Int32)) = 6 * n + 2 := by rw [en, show (6 : Int32) = nI 6 from rfl, show (2 : Int32) = nI 2 from rfl, pk_mul, nI_add, ixn (by omega)]
  have i63 : ix ((6 : Int32) * ξ 13 0 + (3 : Int32)) = 6 * n + 3 := by rw [en, show (6 : Int32) = nI 6 from rfl, show (3 : Int32) = nI 3 from rfl, pk_mul, nI_add, ixn (by omega)]
  refine ⟨?_, ?_, IO_lamp hI hO _ _ _ _ _⟩
  · unfold L0_j305 L0_j281 L0_j171_s DV_6 M_lamp_s M_lamp
    by_cases y : L0_j124 τ ξ one two = 0
    · have hj : M_lamp_j64 ξ (one - one / ((τ 7 (ix (2 : Int32))) + (1 : Int32)) * ((τ 7 (ix (2 : Int32))) + (1 : Int32))) (L0_j34 τ ξ one two) (L0_j61 τ ξ one two) (L0_j92 τ ξ one two) (two / (87 : Int32) - two / (87 : Int32) / (12 : Int32) * (12 : Int32)) = 1 := by
        unfold M_lamp_j64
        rw [e44, if_pos y]
      rw [hj, if_neg (nf1 ξ), f41, if_neg i10, if_pos rfl, if_pos y]
      exact if_pos rfl
    by_cases d : L0_j146 τ ξ one two = 0
    · have hj : M_lamp_j64 ξ (one - one / ((τ 7 (ix (2 : Int32))) + (1 : Int32)) * ((τ 7 (ix (2 : Int32))) + (1 : Int32))) (L0_j34 τ ξ one two) (L0_j61 τ ξ one two) (L0_j92 τ ξ one two) (two / (87 : Int32) - two / (87 : Int32) / (12 : Int32) * (12 : Int32)) = 2 := by
        unfold M_lamp_j64
        rw [e44, if_neg y, e8, if_pos d]
      rw [hj, if_neg (nf2 ξ), f41, if_neg n20, if_neg n21, if_pos rfl, if_neg y, if_pos d]
      exact if_pos rfl
    · have hj : M_lamp_j64 ξ (one - one / ((τ 7 (ix (2 : Int32))) + (1 : Int32)) * ((τ 7 (ix (2 : Int32))) + (1 : Int32))) (L0_j34 τ ξ one two) (L0_j61 τ ξ one two) (L0_j92 τ ξ one two) (two / (87 : Int32) - two / (87 : Int32) / (12 : Int32) * (12 : Int32)) = 0 := by
        unfold M_lamp_j64
        rw [e44, if_neg y, e8, if_neg d, if_neg h40, if_neg h10]
      rw [hj, if_pos (fails_0 ξ), if_pos (fails_0 ξ), if_neg y, if_neg y, if_neg d, if_neg d, g3]
      simp (disch := decide) only [sS_col, sC_same, sC_col, fcol, f41]
      rw [if_pos trivial, sS_same]
      exact if_pos rfl
  · unfold L0_j171_s M_lamp_s
    by_cases y : L0_j124 τ ξ one two = 0
    · have hj : M_lamp_j64 ξ (one - one / ((τ 7 (ix (2 : Int32))) + (1 : Int32)) * ((τ 7 (ix (2 : Int32))) + (1 : Int32))) (L0_j34 τ ξ one two) (L0_j61 τ ξ one two) (L0_j92 τ ξ one two) (two / (87 : Int32) - two / (87 : Int32) / (12 : Int32) * (12 : Int32)) = 1 := by
        unfold M_lamp_j64
        rw [e44, if_pos y]
      rw [hj, if_neg (nf1 ξ), if_pos y]
      exact hQ.ext (sEq.f ξ 1)
    by_cases d : L0_j146 τ ξ one two = 0
    · have hj : M_lamp_j64 ξ (one - one / ((τ 7 (ix (2 : Int32))) + (1 : Int32)) * ((τ 7 (ix (2 : Int32))) + (1 : Int32))) (L0_j34 τ ξ one two) (L0_j61 τ ξ one two) (L0_j92 τ ξ one two) (two / (87 : Int32) - two / (87 : Int32) / (12 : Int32) * (12 : Int32)) = 2 := by
        unfold M_lamp_j64
        rw [e44, if_neg y, e8, if_pos d]
      rw [hj, if_neg (nf2 ξ), if_neg y, if_pos d]
      exact hQ.ext (sEq.f ξ 2)
    · have hj : M_lamp_j64 ξ (one - one / ((τ 7 (ix (2 : Int32))) + (1 : Int32)) * ((τ 7 (ix (2 : Int32))) + (1 : Int32))) (L0_j34 τ ξ one two) (L0_j61 τ ξ one two) (L0_j92 τ ξ one two) (two / (87 : Int32) - two / (87 : Int32) / (12 : Int32) * (12 : Int32)) = 0 := by
        unfold M_lamp_j64
        rw [e44, if_neg y, e8, if_neg d, if_neg h40, if_neg h10]
      rw [hj, if_pos (fails_0 ξ), if_neg y, if_neg d, g3, i6, i61, i62, i63, in13, show ix (3 : Int32) = 3 from rfl]
      simp (disch := decide) only [sS_col, sC_same, fcol, in13]
      have e := LQ_lamp hQ hI hn en (v := (one - one / ((τ 7 (ix (2 : Int32))) + (1 : Int32)) * ((τ 7 (ix (2 : Int32))) + (1 : Int32)))) (p := L0_j34 τ ξ one two) (fl := L0_j61 τ ξ one two) (co := L0_j92 τ ξ one two) (sh := (two / (87 : Int32) - two / (87 : Int32) / (12 : Int32) * (12 : Int32)))
      unfold newLamp at e
      rw [in13] at e
      exact e.ext (((((((((sEq.f ξ 0).S _ _ _).S _ _ _).S _ _ _).S _ _ _).S _ _ _).S _ _ _).S _ _ _).S _ _ _ |>.C _ _)
theorem inspect_step {x s a b : St} {o t : Int32} {p1 : Int32} {k : Nat} {c : Int32} (hQ : LQ a b) (hI : InvX a) (hk : k < ix (a 13 0)) (hp1 : p1 = o - o / (5 : Int32) * (5 : Int32)) :
    L5_j1230l14 s x o t k c b = M_inspect_j45l2 x p1 k c a ∧ LQ (M_inspect_j45_s x p1 k c a) (L5_j1230_s s x o t k c b) ∧ InvX (M_inspect_j45_s x p1 k c a) ∧ (M_inspect_j45_s x p1 k c a) 13 = a 13 := by
  have hl := hQ.lim.2.1
  have hv : vp_in (nI k) (ix (a 13 0)) := vp_in_nI hk (by omega)
  have h10 := hQ.lam hv
  have ek : ix (nI k) = k := ixn (by omega)
  have g0 : b 7 (ix (0 : Int32)) = a 0 0 := hQ.g.1
  have hpl : ix (a 15 (ix (nI k))) < 64 := IX_place hI _
  have ho5 : vp_in (a 14 (ix (nI k))) 5 := hI.1 14 _
  have ho : ix (a 14 (ix (nI k))) < 2 := Nat.lt_of_lt_of_le (IX_own hI (vp_lt hv)) hQ.lim.1
  have i41 : ix ((4 : Int32) * a 14 (ix (nI k)) + (1 : Int32)) = 4 * ix (a 14 (ix (nI k))) + 1 := ixc (f := 4) (c := 1) ho5 (by decide) (by decide)
  have i42 : ix ((4 : Int32) * a 14 (ix (nI k)) + (2 : Int32)) = 4 * ix (a 14 (ix (nI k))) + 2 := ixc (f := 4) (c := 2) ho5 (by decide) (by decide)
  have ef : b 7 (ix (0 : Int32)) - b 4 (ix (nI k)) ≤ 719 ↔ a 0 0 - a 25 (ix (nI k)) < 720 := by
    rw [g0, Int32.le_iff_toInt_le, Int32.lt_iff_toInt_lt, show (719 : Int32).toInt = 719 from rfl, show (720 : Int32).toInt = 720 from rfl]
    have h20 := vp_in_iff.mp (hI.1 0 0 : vp_in (a 0 0) 20001)
    rcases (hQ.l (show k < 10 by omega)).2.2.2.2.2.2 with e | ⟨e, e'⟩
    · rw [ek, e]
      omega
    · rw [ek, e, e']
      have q1 : (a 0 0 - (-720)).toInt = (a 0 0).toInt + 720 := by
        rw [Int32.toInt_sub, show (-720 : Int32).toInt = -720 from rfl]
        exact (Int.bmod_eq_of_le (by omega) (by omega)).trans (by omega)
      have q2 : (a 0 0 - (-100000)).toInt = (a 0 0).toInt + 100000 := by
        rw [Int32.toInt_sub, show (-100000 : Int32).toInt = -100000 from rfl]
        exact (Int.bmod_eq_of_le (by omega) (by omega)).trans (by omega)
      rw [q1, q2]
      omega
  unfold L5_j1230l14 M_inspect_j45l2 M_inspect_j45_s L5_j1230_s
  rw [dl_place hQ hI hv, dp_zone hQ hI hpl, LM_unlawful hQ hI hv, ← hp1]
  by_cases c1 : a 3 (ix (a 15 (ix (nI k)))) = p1
  · rw [if_pos c1, if_pos c1, if_pos c1, if_pos c1]
    by_cases c2 : M_isUnlawful a (nI k) = 0
    · rw [if_pos c2, if_pos c2, if_pos c2, if_pos c2]
      exact ⟨rfl, hQ, hI, rfl⟩
    rw [if_neg c2, if_neg c2, if_neg c2, if_neg c2]
    by_cases c3 : a 0 0 - a 25 (ix (nI k)) < 720
    · rw [if_pos c3, if_pos c3, if_pos (ef.mpr c3), if_pos (ef.mpr c3)]
      exact ⟨rfl, hQ, hI, rfl⟩
    rw [if_neg c3, if_neg c3, if_neg (fun z => c3 (ef.mp z)), if_neg (fun z => c3 (ef.mp z))]
    rw [dl_own hQ hI hv, i41, i42, g0, ek]
    simp (disch := decide) only [sS_col]
    rw [ek] at ho
    refine ⟨trivial, ?_, ?_, trivial⟩
    · have s1 : LQ (sS (sS a 10 (ix (a 14 k)) (a 10 (ix (a 14 k)) - 10)) 11 (ix (a 14 k)) (a 11 (ix (a 14 k)) + 10)) (sS (sS b 2 (4 * ix (a 14 k) + 1) (b 2 (4 * ix (a 14 k) + 1) - 10)) 2 (4 * ix (a 14 k) + 2) (b 2 (4 * ix (a 14 k) + 2) + 10)) := by
        refine ⟨hQ.1, hQ.2.1, hQ.2.2.1, hQ.2.2.2.1, fun j hj => ?_, hQ.2.2.2.2.2⟩
        obtain ⟨a0, a1, a2, a3⟩ := hQ.v hj
        rw [sS_col (show (9 : Nat) ≠ 11 by decide), sS_col (show (9 : Nat) ≠ 10 by decide), sS_col (show (12 : Nat) ≠ 11 by decide), sS_col (show (12 : Nat) ≠ 10 by decide), sS_col (show (10 : Nat) ≠ 11 by decide)]
        refine ⟨?_, ?_, ?_, ?_⟩
        · rw [sS_at, if_neg (by omega), sS_at, if_neg (by omega)]; exact a0
        · rw [sS_at, if_neg (by omega), sS_at, sS_at]
          by_cases e : j = ix (a 14 k)
          · rw [if_pos e, if_pos (by omega), ← e, a1]
          · rw [if_neg e, if_neg (by omega)]; exact a1
        · have r : (sS (sS a 10 (ix (a 14 k)) (a 10 (ix (a 14 k)) - 10)) 11 (ix (a 14 k)) (a 11 (ix (a 14 k)) + 10)) 11 j = if j = ix (a 14 k) then a 11 (ix (a 14 k)) + 10 else a 11 j := by rw [sS_at, sS_col (show (11 : Nat) ≠ 10 by decide)]
          rw [r, sS_at]
          by_cases e : j = ix (a 14 k)
          · rw [if_pos (by omega), if_pos e, ← e, a2]
          · rw [if_neg (by omega), if_neg e, sS_at, if_neg (by omega)]; exact a2
        · rw [sS_at, if_neg (by omega), sS_at, if_neg (by omega)]; exact a3
      have s2 : LQ (sS (sS (sS a 10 (ix (a 14 k)) (a 10 (ix (a 14 k)) - 10)) 11 (ix (a 14 k)) (a 11 (ix (a 14 k)) + 10)) 25 k (a 0 0)) (sS (sS (sS b 2 (4 * ix (a 14 k) + 1) (b 2 (4 * ix (a 14 k) + 1) - 10)) 2 (4 * ix (a 14 k) + 2) (b 2 (4 * ix (a 14 k) + 2) + 10)) 4 k (a 0 0)) := by
        refine ⟨s1.1, s1.2.1, s1.2.2.1, s1.2.2.2.1, s1.2.2.2.2.1, fun j hj => ?_, s1.2.2.2.2.2.2⟩
        obtain ⟨a0, a1, a2, a3, a4, a5, a6⟩ := s1.l hj
        refine ⟨a0, a1, a2, a3, a4, a5, ?_⟩
        rw [sS_at, sS_at]
        by_cases e : j = k
        · rw [if_pos e, if_pos e]
          exact Or.inl rfl
        · rw [if_neg e, if_neg e]
          exact a6
      rw [sS_swap _ (a := 2) (b := 4) (by decide), sS_swap _ (a := 2) (b := 4) (by decide)] at s2
      have e22 : (sS (sS b 4 k (a 0 0)) 2 (4 * ix (a 14 k) + 1) (b 2 (4 * ix (a 14 k) + 1) - 10)) 2 (4 * ix (a 14 k) + 2) = b 2 (4 * ix (a 14 k) + 2) := by
        rw [sS_at, if_neg (by omega), sS_col (by decide)]
      rw [e22]
      exact s2
    · exact InvX_sS (InvX_sS (InvX_sS hI trivial trivial) trivial (show okC _ 11 _ from by show ix (a 14 k) < ix (a 8 0); rw [← ek]; exact IX_own hI (vp_lt hv))) (Or.inr (hI.1 0 0)) trivial
  · rw [if_neg c1, if_neg c1, if_neg c1, if_neg c1]
    exact ⟨rfl, hQ, hI, rfl⟩
end OPL0
end
