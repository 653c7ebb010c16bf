noncomputable section
section OP5
variable {ξ τ : St}
theorem LQ_vote (hQ : LQ ξ τ) {n v : Nat} (hn : n < 10) (hv : v < 2) {s d c b : Int32} : LQ (sS (sS (sS (sS ξ 18 n s) 19 n d) 10 v c) 24 n b) (sS (sS (sS τ 3 (6 * n + 2) (ξ 17 n + 4 * s + 64 * d)) 3 (6 * n + 5) b) 2 (4 * v + 1) c) := by
  have s1 : LQ (sS (sS ξ 18 n s) 19 n d) (sS τ 3 (6 * n + 2) (ξ 17 n + 4 * s + 64 * d)) := by
    obtain ⟨a0, a1, a2, a3, a4, a5, a6⟩ := hQ.l hn
    refine LQ_lset hQ (by decide) (fun k h1 h2 => ?_) (fun k h1 h2 => ?_) (fun j _ hj k h1 h2 => ?_) rfl a0 a1 ?_ a3 a4 a5
    · rw [sS_col (by omega), sS_col (by omega)]
    · rw [sS_col (by omega), sS_col (by omega)]
    · rw [sS_ne (fun _ => hj), sS_ne (fun _ => hj)]
    · rw [if_pos rfl, sS_same, sS_col (show (17 : Nat) ≠ 19 by decide), sS_col (show (17 : Nat) ≠ 18 by decide), sS_col (show (18 : Nat) ≠ 19 by decide), sS_same]
  have s2 : LQ (sS (sS (sS ξ 18 n s) 19 n d) 24 n b) (sS (sS τ 3 (6 * n + 2) (ξ 17 n + 4 * s + 64 * d)) 3 (6 * n + 5) b) := by
    obtain ⟨a0, a1, a2, a3, a4, a5, a6⟩ := s1.l hn
    refine LQ_lset s1 (by decide) (fun k h1 h2 => ?_) (fun k h1 h2 => ?_) (fun j _ hj k h1 h2 => ?_) rfl a0 a1 a2 a3 a4 ?_
    · rw [sS_col (by omega)]
    · rw [sS_col (by omega)]
    · rw [sS_ne (fun _ => hj)]
    · rw [if_pos rfl, sS_same]
  rw [sS_swap _ (a := 10) (b := 24) (by decide)]
  refine ⟨s2.1, s2.2.1, s2.2.2.1, s2.2.2.2.1, fun k hk => ?_, s2.2.2.2.2.2⟩
  obtain ⟨a0, a1, a2, a3⟩ := s2.v hk
  refine ⟨?_, ?_, ?_, ?_⟩
  · rw [sS_at, if_neg (by omega)]; exact a0
  · rw [sS_at, sS_at]
    by_cases e : k = v
    · rw [if_pos e, if_pos (by omega)]
    · rw [if_neg e, if_neg (by omega)]; exact a1
  · rw [sS_at, if_neg (by omega)]; exact a2
  · rw [sS_at, if_neg (by omega)]; exact a3
end OP5
section OPV
variable {ξ τ : St} {one two : Int32}
/-- the numbers of a vote -/
theorem vote_n {s d : Nat} (hs : s < 11) (hd : d < 11) {u w : Nat} (hu : u < 5) (hw : w < 4) : ((nI s - (1 : Int32)) + nI u).toInt = (s : Int) - 1 + u ∧ ((nI d - (1 : Int32)) + nI w).toInt = (d : Int) - 1 + w := by
  have e : ∀ a b : Nat, a < 11 → b < 5 → ((nI a - (1 : Int32)) + nI b).toInt = (a : Int) - 1 + b := by
    intro a b ha hb
    rw [show (1 : Int32) = nI 1 from rfl, Int32.sub_eq_add_neg, Int32.add_assoc, Int32.add_comm (-nI 1), ← Int32.add_assoc, nI_add, ← Int32.sub_eq_add_neg, pk_sub_toInt (by omega) (by decide)]
    omega
  exact ⟨e s u hs hu, e d w hd (by omega)⟩
theorem L4_ok (hQ : LQ ξ τ) (hI : InvX ξ) (hO : InvO ξ) (h1 : vp_in one 60000) (h2 : vp_in two 60000) : L4 τ ξ one two = 1 ∧ LQ (L4_x τ ξ one two) (L4_s τ ξ one two) ∧ InvX (L4_x τ ξ one two) ∧ InvO (L4_x τ ξ one two) := by
  have hil := is_lamp hQ hI h1
  have g0 : τ 7 (ix (0 : Int32)) = ξ 0 0 := hQ.g.1
  by_cases a : M_isLamp ξ (one - one / ((τ 7 (ix (3 : Int32))) + (1 : Int32)) * ((τ 7 (ix (3 : Int32))) + (1 : Int32))) = 0
  · have e331 : L4_j331 τ ξ one two = 0 := by
      unfold L4_j331
      rw [if_pos (hil.mpr a)]
    have e940 : L4_j940 τ ξ one two = 0 := by
      unfold L4_j940
      rw [if_pos e331]
    have e1001 : L4_j1001 τ ξ one two = 0 := by
      unfold L4_j1001
      rw [if_pos e940]
    have hj : M_vote_j117 ξ (one - one / ((τ 7 (ix (3 : Int32))) + (1 : Int32)) * ((τ 7 (ix (3 : Int32))) + (1 : Int32))) ((L4_j772 τ ξ one two - (1 : Int32)) + (two - two / (5 : Int32) * (5 : Int32))) ((L4_j798 τ ξ one two - (1 : Int32)) + (two / (5 : Int32) - two / (5 : Int32) / (4 : Int32) * (4 : Int32))) (two / (20 : Int32) - two / (20 : Int32) / (20 : Int32) * (20 : Int32)) (two / (400 : Int32) - two / (400 : Int32) / (12 : Int32) * (12 : Int32)) = 1 := by
      unfold M_vote_j117
      rw [if_pos a]
    refine ⟨?_, ?_, IO_vote hI hO _ _ _ _ _⟩
    · unfold L4 L4_j1177 L4_j1138 DV_9 M_vote_s
      rw [hj, if_neg (nf1 ξ), f41, if_neg i10, if_pos rfl, if_pos e331]
      exact if_pos rfl
    · unfold L4_x L4_s L4_j1053_s M_vote_s
      rw [hj, if_neg (nf1 ξ), if_pos e1001]
      exact hQ.ext (sEq.f ξ 1)
  have e331 : ¬ L4_j331 τ ξ one two = 0 := by
    unfold L4_j331
    rw [if_neg (fun z => a (hil.mp z))]
    exact i10
  have hlam : vp_in (one - one / ((τ 7 (ix (3 : Int32))) + (1 : Int32)) * ((τ 7 (ix (3 : Int32))) + (1 : Int32))) (ix (ξ 13 0)) := Classical.byContradiction fun w => a ((lamp_iff hI).mpr w)
  have h10 := hQ.lam hlam
  have ho : ix (ξ 14 (ix (one - one / ((τ 7 (ix (3 : Int32))) + (1 : Int32)) * ((τ 7 (ix (3 : Int32))) + (1 : Int32))))) < 2 := Nat.lt_of_lt_of_le (IX_own hI (vp_lt hlam)) hQ.lim.1
  have e772 : L4_j772 τ ξ one two = ξ 18 (ix (one - one / ((τ 7 (ix (3 : Int32))) + (1 : Int32)) * ((τ 7 (ix (3 : Int32))) + (1 : Int32)))) := by
    unfold L4_j772
    rw [if_neg e331, dl_shd hQ hI h10]
  have e798 : L4_j798 τ ξ one two = ξ 19 (ix (one - one / ((τ 7 (ix (3 : Int32))) + (1 : Int32)) * ((τ 7 (ix (3 : Int32))) + (1 : Int32)))) := by
    unfold L4_j798
    rw [if_neg e331, dl_dim hQ hI h10]
  have e822 : L4_j822 τ ξ one two = ξ 14 (ix (one - one / ((τ 7 (ix (3 : Int32))) + (1 : Int32)) * ((τ 7 (ix (3 : Int32))) + (1 : Int32)))) := by
    unfold L4_j822
    rw [if_neg e331, dl_own hQ hI hlam]
  have e343 : L4_j343 τ ξ one two = M_isBound ξ (one - one / ((τ 7 (ix (3 : Int32))) + (1 : Int32)) * ((τ 7 (ix (3 : Int32))) + (1 : Int32))) := by
    unfold L4_j343 M_isBound M_isBound_j10
    rw [if_neg e331, dl_5 hQ h10, g0]
  have i4 : ix ((4 : Int32) * ξ 14 (ix (one - one / ((τ 7 (ix (3 : Int32))) + (1 : Int32)) * ((τ 7 (ix (3 : Int32))) + (1 : Int32))))) = 4 * ix (ξ 14 (ix (one - one / ((τ 7 (ix (3 : Int32))) + (1 : Int32)) * ((τ 7 (ix (3 : Int32))) + (1 : Int32))))) := ixm (f := 4) (hI.1 14 (ix (one - one / ((τ 7 (ix (3 : Int32))) + (1 : Int32)) * ((τ 7 (ix (3 : Int32))) + (1 : Int32)))) : vp_in (ξ 14 (ix (one - one / ((τ 7 (ix (3 : Int32))) + (1 : Int32)) * ((τ 7 (ix (3 : Int32))) + (1 : Int32))))) 5) (by decide) (by decide)
  have i41 : ix ((4 : Int32) * ξ 14 (ix (one - one / ((τ 7 (ix (3 : Int32))) + (1 : Int32)) * ((τ 7 (ix (3 : Int32))) + (1 : Int32)))) + (1 : Int32)) = 4 * ix (ξ 14 (ix (one - one / ((τ 7 (ix (3 : Int32))) + (1 : Int32)) * ((τ 7 (ix (3 : Int32))) + (1 : Int32))))) + 1 := ixc (f := 4) (c := 1) (hI.1 14 (ix (one - one / ((τ 7 (ix (3 : Int32))) + (1 : Int32)) * ((τ 7 (ix (3 : Int32))) + (1 : Int32)))) : vp_in (ξ 14 (ix (one - one / ((τ 7 (ix (3 : Int32))) + (1 : Int32)) * ((τ 7 (ix (3 : Int32))) + (1 : Int32))))) 5) (by decide) (by decide)
  obtain ⟨s, hs, es⟩ := vn (hI.1 18 (ix (one - one / ((τ 7 (ix (3 : Int32))) + (1 : Int32)) * ((τ 7 (ix (3 : Int32))) + (1 : Int32)))) : vp_in (ξ 18 (ix (one - one / ((τ 7 (ix (3 : Int32))) + (1 : Int32)) * ((τ 7 (ix (3 : Int32))) + (1 : Int32))))) 11) (by decide)
  obtain ⟨d, hd, ed⟩ := vn (hI.1 19 (ix (one - one / ((τ 7 (ix (3 : Int32))) + (1 : Int32)) * ((τ 7 (ix (3 : Int32))) + (1 : Int32)))) : vp_in (ξ 19 (ix (one - one / ((τ 7 (ix (3 : Int32))) + (1 : Int32)) * ((τ 7 (ix (3 : Int32))) + (1 : Int32))))) 11) (by decide)
  obtain ⟨u, hu, eu⟩ := vn (vr_rem (c := 5) h2 (by decide) (by decide) (by decide)) (by decide)
  obtain ⟨w, hw, ew⟩ := vn (vr_rem (c := 4) (vr_div (c := 5) h2 (by decide) (by decide) (by decide)) (by decide) (by decide) (by decide)) (by decide)
  obtain ⟨y, hy, ey⟩ := vn (vr_rem (c := 20) (vr_div (c := 20) h2 (by decide) (by decide) (by decide)) (by decide) (by decide) (by decide)) (by decide)
  obtain ⟨m, hm, em⟩ := vn (vr_rem (c := 12) (vr_div (c := 400) h2 (by decide) (by decide) (by decide)) (by decide) (by decide) (by decide)) (by decide)
  have eu' : two - two / (5 : Int32) * (5 : Int32) = nI u := eu
  have ew' : two / (5 : Int32) - two / (5 : Int32) / (4 : Int32) * (4 : Int32) = nI w := ew
  have ey' : (two / (20 : Int32) - two / (20 : Int32) / (20 : Int32) * (20 : Int32)) = nI y := ey
  have em' : (two / (400 : Int32) - two / (400 : Int32) / (12 : Int32) * (12 : Int32)) = nI m := em
  have vU := (vote_n hs hd hu hw).1
  have vM := (vote_n hs hd hu hw).2
  -- the votes' test
  have e893 : L4_j893 τ ξ one two = M_vote_j60 ξ (one - one / ((τ 7 (ix (3 : Int32))) + (1 : Int32)) * ((τ 7 (ix (3 : Int32))) + (1 : Int32))) ((L4_j772 τ ξ one two - (1 : Int32)) + (two - two / (5 : Int32) * (5 : Int32))) ((L4_j798 τ ξ one two - (1 : Int32)) + (two / (5 : Int32) - two / (5 : Int32) / (4 : Int32) * (4 : Int32))) (two / (20 : Int32) - two / (20 : Int32) / (20 : Int32) * (20 : Int32)) (two / (400 : Int32) - two / (400 : Int32) / (12 : Int32) * (12 : Int32)) := by
    unfold L4_j893 M_vote_j60 M_vote_j14
    rw [e772, e798, e822, i4, (hQ.v ho).1, if_neg a, eu', ew', ey', em', es, ed]
    have b1 := isIn_iff (v := nI s - 1 + nI u) (a := 0) (b := 10)
    have b2 := isIn_iff (v := nI d - 1 + nI w) (a := 0) (b := 10)
    have b3 := isIn_n (x := nI y) (a := 0) (b := 500) (A := 0) (B := 500) (vp_in_nI hy (by decide)) (by decide) rfl rfl (by decide) (by decide)
    have b4 := isIn_n (x := nI m) (a := 0) (b := 500) (A := 0) (B := 500) (vp_in_nI hm (by decide)) (by decide) rfl rfl (by decide) (by decide)
    rw [Int32.toInt_zero, show (10 : Int32).toInt = 10 from rfl, vU] at b1
    rw [Int32.toInt_zero, show (10 : Int32).toInt = 10 from rfl, vM] at b2
    rw [ixn (by omega)] at b3
    rw [ixn (by omega)] at b4
    have c1 : nI s - 1 + nI u < nI s ↔ (s : Int) - 1 + u < s := by rw [Int32.lt_iff_toInt_lt, vU, nI_toInt (by omega)]
    have c2 : (11 : Int32) ≤ nI s - 1 + nI u ↔ 11 ≤ (s : Int) - 1 + u := by rw [Int32.le_iff_toInt_le, vU]; exact Iff.rfl
    have c3 : nI d - 1 + nI w < nI d ↔ (d : Int) - 1 + w < d := by rw [Int32.lt_iff_toInt_lt, vM, nI_toInt (by omega)]
    have c4 : (11 : Int32) ≤ nI d - 1 + nI w ↔ 11 ≤ (d : Int) - 1 + w := by rw [Int32.le_iff_toInt_le, vM]; exact Iff.rfl
    rw [if_neg (c := M_isIn (nI y) 0 500 = 0) (fun z => by have := b3.mp z; omega), if_neg (c := M_isIn (nI m) 0 500 = 0) (fun z => by have := b4.mp z; omega)]
    by_cases q1 : nI s - 1 + nI u < nI s
    · rw [if_pos q1, if_pos q1, ite_self]
    rw [if_neg q1, if_neg q1]
    by_cases q3 : nI d - 1 + nI w < nI d
    · rw [if_pos q3, if_pos q3, ite_self, ite_self]
    rw [if_neg q3, if_neg q3]
    have p1 := fun z => q1 (c1.mpr z)
    have p3 := fun z => q3 (c3.mpr z)
    by_cases q2 : (11 : Int32) ≤ nI s - 1 + nI u
    · have := c2.mp q2
      rw [if_pos q2, if_pos (c := M_isIn (nI s - 1 + nI u) 0 10 = 0) (Classical.byContradiction fun z => by have := b1.mp z; omega), if_pos rfl]
    rw [if_neg q2, if_neg (c := M_isIn (nI s - 1 + nI u) 0 10 = 0) (b1.mpr ⟨by have : ¬ (s : Int) - 1 + u < s := p1; omega, by have : ¬ 11 ≤ (s : Int) - 1 + u := fun z => q2 (c2.mpr z); omega⟩)]
    by_cases q4 : (11 : Int32) ≤ nI d - 1 + nI w
    · have := c4.mp q4
      rw [if_pos q4, if_pos (c := M_isIn (nI d - 1 + nI w) 0 10 = 0) (Classical.byContradiction fun z => by have := b2.mp z; omega), if_pos rfl]
    rw [if_neg q4, if_neg (c := M_isIn (nI d - 1 + nI w) 0 10 = 0) (b2.mpr ⟨by have : ¬ (d : Int) - 1 + w < d := p3; omega, by have : ¬ 11 ≤ (d : Int) - 1 + w := fun z => q4 (c4.mpr z); omega⟩), if_neg i10]
  by_cases b : M_vote_j60 ξ (one - one / ((τ 7 (ix (3 : Int32))) + (1 : Int32)) * ((τ 7 (ix (3 : Int32))) + (1 : Int32))) ((L4_j772 τ ξ one two - (1 : Int32)) + (two - two / (5 : Int32) * (5 : Int32))) ((L4_j798 τ ξ one two - (1 : Int32)) + (two / (5 : Int32) - two / (5 : Int32) / (4 : Int32) * (4 : Int32))) (two / (20 : Int32) - two / (20 : Int32) / (20 : Int32) * (20 : Int32)) (two / (400 : Int32) - two / (400 : Int32) / (12 : Int32) * (12 : Int32)) = 0
  · have e940 : L4_j940 τ ξ one two = 0 := by
      unfold L4_j940
      rw [if_neg e331, e893, if_pos b]
    have e1001 : L4_j1001 τ ξ one two = 0 := by
      unfold L4_j1001
      rw [if_pos e940]
    have hj : M_vote_j117 ξ (one - one / ((τ 7 (ix (3 : Int32))) + (1 : Int32)) * ((τ 7 (ix (3 : Int32))) + (1 : Int32))) ((L4_j772 τ ξ one two - (1 : Int32)) + (two - two / (5 : Int32) * (5 : Int32))) ((L4_j798 τ ξ one two - (1 : Int32)) + (two / (5 : Int32) - two / (5 : Int32) / (4 : Int32) * (4 : Int32))) (two / (20 : Int32) - two / (20 : Int32) / (20 : Int32) * (20 : Int32)) (two / (400 : Int32) - two / (400 : Int32) / (12 : Int32) * (12 : Int32)) = 2 := by
      unfold M_vote_j117
      rw [if_neg a, if_pos b]
    refine ⟨?_, ?_, IO_vote hI hO _ _ _ _ _⟩
    · unfold L4 L4_j1177 L4_j1138 DV_9 M_vote_s
      rw [hj, if_neg (nf2 ξ), f41, if_neg n20, if_neg n21, if_pos rfl, if_neg e331, e893, if_pos b]
      exact if_pos rfl
    · unfold L4_x L4_s L4_j1053_s M_vote_s
      rw [hj, if_neg (nf2 ξ), if_pos e1001]
      exact hQ.ext (sEq.f ξ 2)
  -- right: the refit is not less
  have hr : (s : Int) ≤ (s : Int) - 1 + u ∧ (d : Int) ≤ (d : Int) - 1 + w ∧ (s : Int) - 1 + u ≤ 10 ∧ (d : Int) - 1 + w ≤ 10 := by
    rw [← e893] at b
    unfold L4_j893 at b
    rw [e772, e798, eu', ew', es, ed] at b
    have c1 : nI s - 1 + nI u < nI s ↔ (s : Int) - 1 + u < s := by rw [Int32.lt_iff_toInt_lt, vU, nI_toInt (by omega)]
    have c2 : (11 : Int32) ≤ nI s - 1 + nI u ↔ 11 ≤ (s : Int) - 1 + u := by rw [Int32.le_iff_toInt_le, vU]; exact Iff.rfl
    have c3 : nI d - 1 + nI w < nI d ↔ (d : Int) - 1 + w < d := by rw [Int32.lt_iff_toInt_lt, vM, nI_toInt (by omega)]
    have c4 : (11 : Int32) ≤ nI d - 1 + nI w ↔ 11 ≤ (d : Int) - 1 + w := by rw [Int32.le_iff_toInt_le, vM]; exact Iff.rfl
    by_cases q1 : nI s - 1 + nI u < nI s
    · rw [if_pos q1] at b; exact absurd rfl b
    rw [if_neg q1] at b
    by_cases q2 : (11 : Int32) ≤ nI s - 1 + nI u
    · rw [if_pos q2] at b; exact absurd rfl b
    rw [if_neg q2] at b
    by_cases q3 : nI d - 1 + nI w < nI d
    · rw [if_pos q3] at b; exact absurd rfl b
    rw [if_neg q3] at b
    by_cases q4 : (11 : Int32) ≤ nI d - 1 + nI w
    · rw [if_pos q4] at b; exact absurd rfl b
    rw [c1] at q1
    rw [c2] at q2
    rw [c3] at q3
    rw [c4] at q4
    omega
  have hU : ((L4_j772 τ ξ one two - (1 : Int32)) + (two - two / (5 : Int32) * (5 : Int32))) = nI (s + u - 1) := by
    rw [e772, es, eu']
    apply Int32.toInt_inj.mp
    rw [vU, nI_toInt (by omega)]
    omega
  have hM : ((L4_j798 τ ξ one two - (1 : Int32)) + (two / (5 : Int32) - two / (5 : Int32) / (4 : Int32) * (4 : Int32))) = nI (d + w - 1) := by
    rw [e798, ed, ew']
    apply Int32.toInt_inj.mp
    rw [vM, nI_toInt (by omega)]
    omega
  obtain ⟨U, eU⟩ : ∃ U, U = s + u - 1 := ⟨_, rfl⟩
  obtain ⟨M, eM⟩ : ∃ M, M = d + w - 1 := ⟨_, rfl⟩
  rw [← eU] at hU
  rw [← eM] at hM
  have lU : s ≤ U ∧ U ≤ 10 := by omega
  have lM : d ≤ M ∧ M ≤ 10 := by omega
  unfold L4 L4_j1177 L4_x L4_s L4_j1053_s
  rw [hU, hM, ey', em']
  rw [hU, hM, ey', em'] at b e893
  refine ⟨?_, ?_, IO_vote hI hO _ _ _ _ _⟩ <;> by_cases c : M_isBound ξ (one - one / ((τ 7 (ix (3 : Int32))) + (1 : Int32)) * ((τ 7 (ix (3 : Int32))) + (1 : Int32))) = 0
  rotate_left
  · have hj : M_vote_j117 ξ (one - one / ((τ 7 (ix (3 : Int32))) + (1 : Int32)) * ((τ 7 (ix (3 : Int32))) + (1 : Int32))) (nI U) (nI M) (nI y) (nI m) = 3 := by
      unfold M_vote_j117
      rw [if_neg a, if_neg b, if_neg c]
    have e940 : L4_j940 τ ξ one two = 0 := by
      unfold L4_j940
      rw [if_neg e331, e893, if_neg b, e343, if_neg c]
    unfold L4_j1138 DV_9 M_vote_s
    rw [hj, if_neg (nf3 ξ), f41, if_neg n30a, if_neg n31, if_neg n32, if_neg e331, e893, if_neg b, if_pos e940]
    exact if_pos rfl
  rotate_left
  · have hj : M_vote_j117 ξ (one - one / ((τ 7 (ix (3 : Int32))) + (1 : Int32)) * ((τ 7 (ix (3 : Int32))) + (1 : Int32))) (nI U) (nI M) (nI y) (nI m) = 3 := by
      unfold M_vote_j117
      rw [if_neg a, if_neg b, if_neg c]
    have e940 : L4_j940 τ ξ one two = 0 := by
      unfold L4_j940
      rw [if_neg e331, e893, if_neg b, e343, if_neg c]
    have e1001 : L4_j1001 τ ξ one two = 0 := by
      unfold L4_j1001
      rw [if_pos e940]
    unfold M_vote_s
    rw [hj, if_neg (nf3 ξ), if_pos e1001]
    exact hQ.ext (sEq.f ξ 3)
  all_goals
    have cs : nI s < nI U ↔ s < U := nI_ltI (by omega) (by omega)
    have cd : nI M ≤ nI d ↔ M ≤ d := nI_leI (by omega) (by omega)
    have cs' : nI U = nI s ↔ U = s := nI_eq (by omega) (by omega)
    have cd' : nI M = nI d ↔ M = d := nI_eq (by omega) (by omega)
  all_goals by_cases n : U = s ∧ M = d
  · have hj : M_vote_j117 ξ (one - one / ((τ 7 (ix (3 : Int32))) + (1 : Int32)) * ((τ 7 (ix (3 : Int32))) + (1 : Int32))) (nI U) (nI M) (nI y) (nI m) = 3 := by
      unfold M_vote_j117
      rw [if_neg a, if_neg b, if_pos c, es, ed, if_pos (cs'.mpr n.1), if_pos (cd'.mpr n.2)]
    have e940 : L4_j940 τ ξ one two = 0 := by
      unfold L4_j940
      rw [if_neg e331, e893, if_neg b, e343, if_pos c, hU, hM, e772, e798, es, ed, if_neg (fun z => by have := cs.mp z; omega), if_pos (cd.mpr (by omega))]
    unfold L4_j1138 DV_9 M_vote_s
    rw [hj, if_neg (nf3 ξ), f41, if_neg n30a, if_neg n31, if_neg n32, if_neg e331, e893, if_neg b, if_pos e940]
    exact if_pos rfl
  rotate_left
  · have hj : M_vote_j117 ξ (one - one / ((τ 7 (ix (3 : Int32))) + (1 : Int32)) * ((τ 7 (ix (3 : Int32))) + (1 : Int32))) (nI U) (nI M) (nI y) (nI m) = 3 := by
      unfold M_vote_j117
      rw [if_neg a, if_neg b, if_pos c, es, ed, if_pos (cs'.mpr n.1), if_pos (cd'.mpr n.2)]
    have e940 : L4_j940 τ ξ one two = 0 := by
      unfold L4_j940
      rw [if_neg e331, e893, if_neg b, e343, if_pos c, hU, hM, e772, e798, es, ed, if_neg (fun z => by have := cs.mp z; omega), if_pos (cd.mpr (by omega))]
    have e1001 : L4_j1001 τ ξ one two = 0 := by
      unfold L4_j1001
      rw [if_pos e940]
    unfold M_vote_s
    rw [hj, if_neg (nf3 ξ), if_pos e1001]
    exact hQ.ext (sEq.f ξ 3)
  rotate_left
  all_goals
    have hj : M_vote_j117 ξ (one - one / ((τ 7 (ix (3 : Int32))) + (1 : Int32)) * ((τ 7 (ix (3 : Int32))) + (1 : Int32))) (nI U) (nI M) (nI y) (nI m) = 0 := by
      unfold M_vote_j117
      rw [if_neg a, if_neg b, if_pos c, es, ed]
      by_cases z : U = s
      · rw [if_pos (cs'.mpr z), if_neg (fun q => n ⟨z, cd'.mp q⟩)]
      · rw [if_neg (fun q => z (cs'.mp q))]
    have e940 : ¬ L4_j940 τ ξ one two = 0 := by
      unfold L4_j940
      rw [if_neg e331, e893, if_neg b, e343, if_pos c, hU, hM, e772, e798, es, ed]
      by_cases z : U = s
      · rw [if_neg (fun q => by have := cs.mp q; omega), if_neg (fun q => n ⟨z, by have := cd.mp q; omega⟩)]
        exact i10
      · rw [if_pos (cs.mpr (by omega))]
        exact i10
    obtain ⟨C, eC⟩ : ∃ C, C = 2 * (U - s) + 3 * (M - d) := ⟨_, rfl⟩
    have costs : (2 : Int32) * (nI U - nI s) + (3 : Int32) * (nI M - nI d) = nI C := by
      rw [pk_sub lU.1, pk_sub lM.1, show (2 : Int32) = nI 2 from rfl, show (3 : Int32) = nI 3 from rfl, pk_mul, pk_mul, nI_add, eC]
    have paysL : (nI C + (1 : Int32)) / (2 : Int32) = nI ((C + 1) / 2) := by
      rw [nI_1, show (2 : Int32) = nI 2 from rfl, pk_div (by omega) (by decide) (by decide)]
    have paysM : nI C - nI C / (2 : Int32) = nI ((C + 1) / 2) := by
      rw [show (2 : Int32) = nI 2 from rfl, pk_div (by omega) (by decide) (by decide), pk_sub (by omega)]
      congr 1
      omega
    have two4 : nI y + nI m + nI y + nI m = (2 : Int32) * (nI y + nI m) := by
      rw [nI_add, nI_add, nI_add, show (2 : Int32) = nI 2 from rfl, pk_mul]
      congr 1
      omega
    have e1001 : L4_j1001 τ ξ one two = if nI y ≤ nI m then 0 else if (2 : Int32) * (nI y + nI m) < ξ 9 (ix (ξ 14 (ix (one - one / ((τ 7 (ix (3 : Int32))) + (1 : Int32)) * ((τ 7 (ix (3 : Int32))) + (1 : Int32)))))) then 0 else if nI ((C + 1) / 2) ≤ ξ 10 (ix (ξ 14 (ix (one - one / ((τ 7 (ix (3 : Int32))) + (1 : Int32)) * ((τ 7 (ix (3 : Int32))) + (1 : Int32)))))) then 1 else 0 := by
      unfold L4_j1001
      rw [if_neg e940, hU, hM, ey', em', e772, e798, es, ed, costs, paysL, two4, e822, i4, i41, (hQ.v ho).1, (hQ.v ho).2.1]
      by_cases z1 : nI y ≤ nI m
      · rw [if_pos z1, if_pos z1]
      rw [if_neg z1, if_neg z1]
      by_cases z2 : (2 : Int32) * (nI y + nI m) < ξ 9 (ix (ξ 14 (ix (one - one / ((τ 7 (ix (3 : Int32))) + (1 : Int32)) * ((τ 7 (ix (3 : Int32))) + (1 : Int32))))))
      · rw [if_pos z2, if_pos z2]
      rw [if_neg z2, if_neg z2]
      by_cases z3 : ξ 10 (ix (ξ 14 (ix (one - one / ((τ 7 (ix (3 : Int32))) + (1 : Int32)) * ((τ 7 (ix (3 : Int32))) + (1 : Int32)))))) < nI ((C + 1) / 2)
      · rw [if_pos z3, if_neg (Int32.not_le.mpr z3)]
      · rw [if_neg z3, if_pos (Int32.not_lt.mp z3)]
  rotate_left
  · -- the state
    unfold M_vote_s
    rw [hj, if_pos (fails_0 ξ), fcol ξ 0 (by decide), fcol ξ 0 (by decide), fcol ξ 0 (by decide), fcol ξ 0 (by decide), fcol ξ 0 (by decide), es, ed, costs, paysM, e1001]
    by_cases z1 : nI y ≤ nI m
    · rw [if_pos z1, if_pos z1, if_pos rfl]
      exact hQ.ext (sEq.f ξ 0)
    rw [if_neg z1, if_neg z1]
    by_cases z2 : (2 : Int32) * (nI y + nI m) < ξ 9 (ix (ξ 14 (ix (one - one / ((τ 7 (ix (3 : Int32))) + (1 : Int32)) * ((τ 7 (ix (3 : Int32))) + (1 : Int32))))))
    · rw [if_pos z2, if_pos z2, if_pos rfl]
      exact hQ.ext (sEq.f ξ 0)
    rw [if_neg z2, if_neg z2]
    by_cases z3 : nI ((C + 1) / 2) ≤ ξ 10 (ix (ξ 14 (ix (one - one / ((τ 7 (ix (3 : Int32))) + (1 : Int32)) * ((τ 7 (ix (3 : Int32))) + (1 : Int32))))))
    · rw [if_pos z3, if_pos z3, if_neg i10]
      rw [dl_col hQ hI h10, li6_2 h10, li6_5 h10, g0, e772, e798, es, ed, costs, paysL, e822, i41, (hQ.v ho).2.1]
      simp (disch := decide) only [sS_col, fcol]
      exact (LQ_vote hQ (vp_lt h10) ho).ext (((((sEq.f ξ 0).S _ _ _).S _ _ _).S _ _ _).S _ _ _)
    · rw [if_neg z3, if_neg z3, if_pos rfl]
      exact hQ.ext (sEq.f ξ 0)
  · -- the answer
    unfold L4_j1138 DV_9
    have t0 : M_vote_s ξ (one - one / ((τ 7 (ix (3 : Int32))) + (1 : Int32)) * ((τ 7 (ix (3 : Int32))) + (1 : Int32))) (nI U) (nI M) (nI y) (nI m) 41 0 = 0 := by
      unfold M_vote_s
      rw [hj, if_pos (fails_0 ξ)]
      (repeat' split) <;> first | exact f41 ξ 0 | (simp (disch := decide) only [sS_col]; exact f41 ξ 0)
    rw [t0, if_pos rfl, if_neg e331, e893, if_neg b, if_neg e940, e1001]
    unfold M_vote
    rw [hj, if_pos (fails_0 ξ), fcol ξ 0 (by decide), fcol ξ 0 (by decide), fcol ξ 0 (by decide), fcol ξ 0 (by decide), fcol ξ 0 (by decide), es, ed, costs, paysM, hU, hM, e772, e798, es, ed, costs, paysL]
    by_cases z1 : nI y ≤ nI m
    · rw [if_pos z1, if_pos z1, if_pos rfl]
      exact if_pos rfl
    rw [if_neg z1, if_neg z1]
    by_cases z2 : (2 : Int32) * (nI y + nI m) < ξ 9 (ix (ξ 14 (ix (one - one / ((τ 7 (ix (3 : Int32))) + (1 : Int32)) * ((τ 7 (ix (3 : Int32))) + (1 : Int32))))))
    · rw [if_pos z2, if_pos z2, if_pos rfl]
      exact if_pos rfl
    rw [if_neg z2, if_neg z2]
    by_cases z3 : nI ((C + 1) / 2) ≤ ξ 10 (ix (ξ 14 (ix (one - one / ((τ 7 (ix (3 : Int32))) + (1 : Int32)) * ((τ 7 (ix (3 : Int32))) + (1 : Int32))))))
    · rw [if_pos z3, if_pos z3, if_neg i10]
      exact if_pos rfl
    · rw [if_neg z3, if_neg z3, if_pos rfl]
      exact if_pos rfl
end OPV
end
