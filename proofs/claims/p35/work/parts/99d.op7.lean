noncomputable section
section OP7
variable {ξ τ : St}
theorem LQ_meter (hQ : LQ ξ τ) {n : Nat} (hn : n < 2) (h26 : ξ 26 0 = nI n) {p ze dr : Int32} (hz : vp_in (ze + 50) 101) (hd : vp_in (dr + 3) 7) : LQ (sC (sS (sS (sS ξ 27 n p) 28 n ze) 29 n dr) 26 (ξ 26 0 + 1)) (sS (sS τ 5 (3 * n) (p + 64 * (ze + 50) + 8192 * (dr + 3))) 7 4 (ξ 26 0 + 1)) := by
  have i26 : ix (ξ 26 0) = n := by rw [h26, ixn (by omega)]
  have e26 : ix (ξ 26 0 + 1) = n + 1 := by rw [h26, nI_1, ixn (by omega)]
  obtain ⟨g0, g1, g2, g3, g4, g5, g6, g7⟩ := hQ.g
  have c27 : ∀ k, (sC (sS (sS (sS ξ 27 n p) 28 n ze) 29 n dr) 26 (ξ 26 0 + 1)) 27 k = if k = n then p else ξ 27 k := fun k => by
    rw [sC_col (by decide), sS_col (by decide), sS_col (by decide), sS_at]
  have c28 : ∀ k, (sC (sS (sS (sS ξ 27 n p) 28 n ze) 29 n dr) 26 (ξ 26 0 + 1)) 28 k = if k = n then ze else ξ 28 k := fun k => by
    rw [sC_col (by decide), sS_col (by decide), sS_at, sS_col (show (28 : Nat) ≠ 27 by decide)]
  have c29 : ∀ k, (sC (sS (sS (sS ξ 27 n p) 28 n ze) 29 n dr) 26 (ξ 26 0 + 1)) 29 k = if k = n then dr else ξ 29 k := fun k => by
    rw [sC_col (by decide), sS_at, sS_col (show (29 : Nat) ≠ 28 by decide), sS_col (show (29 : Nat) ≠ 27 by decide)]
  have c26 : (sC (sS (sS (sS ξ 27 n p) 28 n ze) 29 n dr) 26 (ξ 26 0 + 1)) 26 0 = ξ 26 0 + 1 := sC_same ..
  have t5 : ∀ i, (sS (sS τ 5 (3 * n) (p + 64 * (ze + 50) + 8192 * (dr + 3))) 7 4 (ξ 26 0 + 1)) 5 i = if i = 3 * n then p + 64 * (ze + 50) + 8192 * (dr + 3) else τ 5 i := fun i => by
    rw [sS_col (by decide), sS_at]
  refine ⟨⟨?_, ?_, ?_, ?_, ?_, ?_, ?_, ?_⟩, hQ.2.1, hQ.2.2.1, hQ.2.2.2.1, hQ.2.2.2.2.1, hQ.2.2.2.2.2.1, fun k hk => ?_, fun k hk => ?_, fun k hk hk' => ?_, hQ.2.2.2.2.2.2.2.2.2.1, hQ.lim.1, hQ.lim.2.1, ?_⟩
  · rw [sS_at, if_neg (by decide)]; exact g0
  · rw [sS_at, if_neg (by decide)]; exact g1
  · rw [sS_at, if_neg (by decide)]; exact g2
  · rw [sS_at, if_neg (by decide)]; exact g3
  · rw [sS_at, if_pos rfl]; exact c26.symm
  · rw [sS_at, if_neg (by decide)]; exact g5
  · rw [sS_at, if_neg (by decide)]; exact g6
  · rw [sS_at, if_neg (by decide)]; exact g7
  · obtain ⟨m1, m2⟩ := hQ.m hk
    rw [t5, t5, if_neg (by omega), if_neg (by omega)]
    exact ⟨m1, m2⟩
  · rw [c26, e26] at hk
    rw [t5, c27, c28, c29]
    by_cases e : k = n
    · rw [if_pos e, if_pos e, if_pos e, if_pos (by omega)]
      exact ⟨rfl, hz, hd⟩
    · rw [if_neg e, if_neg e, if_neg e, if_neg (by omega)]
      exact hQ.m1 (by omega)
  · rw [c26, e26] at hk'
    rw [t5, if_neg (by omega)]
    exact hQ.m0 hk (by omega)
  · rw [c26, e26]
    omega
theorem LQ_tell (hQ : LQ ξ τ) {n : Nat} (hn : n < 2) {z : Int32} : LQ (sS ξ 30 n z) (sS τ 5 (3 * n + 1) z) := by
  refine ⟨hQ.1, hQ.2.1, hQ.2.2.1, hQ.2.2.2.1, hQ.2.2.2.2.1, hQ.2.2.2.2.2.1, fun k hk => ?_, fun k hk => ?_, fun k hk hk' => ?_, hQ.2.2.2.2.2.2.2.2.2⟩
  · obtain ⟨m1, m2⟩ := hQ.m hk
    rw [sS_at, sS_at, sS_at, if_neg (show ¬ 3 * k + 2 = 3 * n + 1 by omega)]
    refine ⟨?_, m2⟩
    by_cases e : k = n
    · rw [if_pos e, if_pos (by omega)]
    · rw [if_neg e, if_neg (by omega)]; exact m1
  · rw [sS_at, if_neg (by omega)]
    exact hQ.m1 hk
  · rw [sS_at, if_neg (by omega)]
    exact hQ.m0 hk hk'
theorem inspect_ok {x s : St} {o t : Int32} {p1 : Int32} (hp1 : p1 = o - o / (5 : Int32) * (5 : Int32)) (h4 : ¬ (4 : Int32) ≤ o - o / (5 : Int32) * (5 : Int32)) (KL : Int32 → St → Int32) (KS KX : Int32 → St → St) : ∀ n k (c : Int32) (a b : St), LQ a b → InvX a → a 13 = x 13 → k + n = ix (x 13 0) →
    ∃ b' : St, LQ (M_inspect_L25_s x p1 (fun _ s => s) n k c a) b' ∧ L5_L1198 s x o t KL n k c b = KL (M_inspect_L25 x p1 (fun c _ => c) n k c a) b' ∧ L5_L1198_s s x o t KS n k c b = KS (M_inspect_L25 x p1 (fun c _ => c) n k c a) b' ∧ L5_L1198_x s x o t KX n k c b = KX (M_inspect_L25 x p1 (fun c _ => c) n k c a) b' ∧ (M_inspect_L25_s x p1 (fun _ s => s) n k c a) 41 = a 41 := by
  intro n
  induction n with
  | zero =>
    intro k c a b hQ hI h13 _
    rw [M_inspect_L25_s, M_inspect_L25, L5_L1198, L5_L1198_s, L5_L1198_x]
    exact ⟨b, hQ, rfl, rfl, rfl, rfl⟩
  | succ n ih =>
    intro k c a b hQ hI h13 hk
    obtain ⟨e1, e2, e3, e4⟩ := inspect_step (x := x) (s := s) (o := o) (t := t) (p1 := p1) (c := c) hQ hI (show k < ix (a 13 0) by rw [h13]; omega) hp1
    rw [M_inspect_L25_s, M_inspect_L25, L5_L1198, L5_L1198_s, L5_L1198_x, if_neg h4, if_neg h4, if_neg h4, e1]
    obtain ⟨b', r1, r2, r3, r4, r5⟩ := ih (k + 1) (M_inspect_j45l2 x p1 k c a) _ _ e2 e3 (e4.trans h13) (by omega)
    refine ⟨b', r1, r2, r3, r4, r5.trans ?_⟩
    unfold M_inspect_j45_s
    (repeat' split) <;> rfl
end OP7
section OPR
variable {ξ τ : St} {one two : Int32}
theorem L5_ok (hQ : LQ ξ τ) (hI : InvX ξ) (hO : InvO ξ) (h1 : vp_in one 60000) (_ : vp_in two 60000) : L5 τ ξ one two = 1 ∧ LQ (L5_x τ ξ one two) (L5_s τ ξ one two) ∧ InvX (L5_x τ ξ one two) ∧ InvO (L5_x τ ξ one two) := by
  have g3 : τ 7 (ix (3 : Int32)) = ξ 13 0 := hQ.g.2.2.2.1
  have hz : vp_in (one - one / (5 : Int32) * (5 : Int32)) 5 := vr_rem (c := 5) h1 (by decide) (by decide) (by decide)
  have ez : M_isZone (one - one / (5 : Int32) * (5 : Int32)) = 0 ↔ (4 : Int32) ≤ (one - one / (5 : Int32) * (5 : Int32)) := by
    rw [zone_iff, (le_n (c := 4) (N := 4) hz (by decide) (by decide) rfl).1]
    constructor
    · intro z
      exact Nat.le_of_not_lt fun w => z (by rw [vp_nI' hz (by decide)]; exact vp_in_nI w (by decide))
    · intro z w
      have := vp_lt w
      omega
  have ez4 : (one - one / (5 : Int32) * (5 : Int32)) = 4 ↔ (4 : Int32) ≤ (one - one / (5 : Int32) * (5 : Int32)) := by
    rw [(le_n (c := 4) (N := 4) hz (by decide) (by decide) rfl).1, eq_n (c := 4) (N := 4) hz (by decide) (by decide) rfl]
    have := vp_lt hz
    omega
  unfold L5 L5_s L5_x
  rw [g3]
  by_cases c : (4 : Int32) ≤ (one - one / (5 : Int32) * (5 : Int32))
  · have hj : M_inspect_j5 ξ (one - one / (5 : Int32) * (5 : Int32)) = 1 := by
      unfold M_inspect_j5
      rw [if_pos (ez.mpr c)]
    have hx : M_inspect_s ξ (one - one / (5 : Int32) * (5 : Int32)) = M_fails_s ξ 1 := by
      unfold M_inspect_s
      rw [hj, if_neg (nf1 ξ)]
    have key : ∀ n, L5_L1198 τ ξ one two (fun a s => L5_j1352 τ ξ one two a s) n 0 0 τ = L5_j1352 τ ξ one two 0 τ ∧ L5_L1198_s τ ξ one two (fun _ s => s) n 0 0 τ = τ ∧ L5_L1198_x τ ξ one two (fun _ _ => M_inspect_s ξ (one - one / (5 : Int32) * (5 : Int32))) n 0 0 τ = M_inspect_s ξ (one - one / (5 : Int32) * (5 : Int32)) := by
      intro n
      cases n with
      | zero => rw [L5_L1198, L5_L1198_s, L5_L1198_x]; exact ⟨rfl, rfl, rfl⟩
      | succ n => rw [L5_L1198, L5_L1198_s, L5_L1198_x, if_pos c, if_pos c, if_pos c]; exact ⟨rfl, rfl, rfl⟩
    obtain ⟨k1, k2, k3⟩ := key (ix (ξ 13 0))
    rw [k1, k2, k3]
    refine ⟨?_, ?_, IO_inspect hI hO _⟩
    · unfold L5_j1352 L5_j1342 DV_10
      rw [hx, f41, if_neg i10, if_pos (ez4.mpr c)]
      exact if_pos rfl
    · rw [hx]
      exact hQ.ext (sEq.f ξ 1)
  · have hj : M_inspect_j5 ξ (one - one / (5 : Int32) * (5 : Int32)) = 0 := by
      unfold M_inspect_j5
      rw [if_neg (fun z => c (ez.mp z))]
    obtain ⟨b', p1, p2, p3, p4, p5⟩ := inspect_ok (s := τ) (t := two) rfl c (fun a s => L5_j1352 τ ξ one two a s) (fun _ s => s) (fun _ _ => M_inspect_s ξ (one - one / (5 : Int32) * (5 : Int32))) (ix (ξ 13 0)) 0 0 (M_fails_s ξ 0) τ (hQ.ext (sEq.f ξ 0)) (IO_A hI hO 0).1 (fcol ξ 0 (by decide)) (Nat.zero_add _)
    have hx : M_inspect_s ξ (one - one / (5 : Int32) * (5 : Int32)) = M_inspect_L25_s ξ (one - one / (5 : Int32) * (5 : Int32)) (fun _ s => s) (ix (ξ 13 0)) 0 0 (M_fails_s ξ 0) := by
      unfold M_inspect_s
      rw [hj, if_pos (fails_0 ξ)]
    have hv : M_inspect ξ (one - one / (5 : Int32) * (5 : Int32)) = M_inspect_L25 ξ (one - one / (5 : Int32) * (5 : Int32)) (fun c _ => c) (ix (ξ 13 0)) 0 0 (M_fails_s ξ 0) := by
      unfold M_inspect
      rw [hj, if_pos (fails_0 ξ)]
    rw [p2, p3, p4]
    refine ⟨?_, by rw [hx]; exact p1, IO_inspect hI hO _⟩
    unfold L5_j1352 L5_j1342 DV_10
    rw [hx, p5, f41, if_pos rfl, if_neg (fun z => c (ez4.mp z)), hv]
    exact if_pos rfl
/-- a number less a number, as an integer -/
theorem subI {x : Int32} {M c : Nat} (h : vp_in x M) (hM : M < 1000000) (hc : c < 1000000) : (x - nI c).toInt = (ix x : Int) - c := by
  have a := vp_lt h
  have e := vp_nI' h (by omega)
  generalize ix x = j at *
  subst e
  exact pk_sub_toInt (by omega) (by omega)
theorem R0_ok (hQ : LQ ξ τ) (hI : InvX ξ) (hO : InvO ξ) (h1 : vp_in one 60000) (h2 : vp_in two 60000) : R0 τ ξ one two = 1 ∧ LQ (R0_x τ ξ one two) (R0_s τ ξ one two) ∧ InvX (R0_x τ ξ one two) ∧ InvO (R0_x τ ξ one two) := by
  have g4 : τ 7 (ix (4 : Int32)) = ξ 26 0 := hQ.g.2.2.2.2.1
  obtain ⟨n, hn9, en⟩ := vn (hI.1 26 0 : vp_in (ξ 26 0) 9) (by decide)
  have i26 : ix (ξ 26 0) = n := by rw [en, ixn (by omega)]
  have hl := hQ.lim.2.2
  rw [i26] at hl
  unfold R0 R0_x R0_s
  by_cases c : τ 7 (ix (4 : Int32)) = 2
  · repeat rw [if_pos c]
    exact ⟨rfl, hQ, hI, hO⟩
  repeat rw [if_neg c]
  rw [g4] at c
  have hn : n < 2 := by
    refine Nat.lt_of_le_of_ne hl fun z => c ?_
    rw [en, z]
    rfl
  have hp : vp_in (R0_j22 τ ξ one two) 65 := by
    unfold R0_j22
    split
    · exact vp_in_nI (n := 64) (by decide) (by decide)
    · exact vp_up (vr_add (vp_in_nI (n := 16) (N := 17) (by decide) (by decide)) (vr_rem (c := 24) h1 (by decide) (by decide) (by decide)) (by decide)) (by decide)
  obtain ⟨z, hz, ez⟩ : ∃ z : Nat, z < 102 ∧ R0_j47 τ ξ one two = nI z - nI 50 := by
    unfold R0_j47
    split
    · exact ⟨101, by decide, by decide⟩
    · obtain ⟨z, hz, e⟩ := vn (vr_rem (c := 101) h2 (by decide) (by decide) (by decide)) (by decide)
      have e' : two - two / (101 : Int32) * (101 : Int32) = nI z := e
      exact ⟨z, by omega, by rw [e']; rfl⟩
  obtain ⟨d, hd, e⟩ := vn (vr_rem (c := 8) (vr_div (c := 101) h2 (by decide) (by decide) (by decide)) (by decide) (by decide) (by decide)) (by decide)
  have ed : ((two / (101 : Int32) - two / (101 : Int32) / (8 : Int32) * (8 : Int32)) - (3 : Int32)) = nI d - nI 3 := by
    have e' : two / (101 : Int32) - two / (101 : Int32) / (8 : Int32) * (8 : Int32) = nI d := e
    rw [e']
    rfl
  have ep : M_isPlace (R0_j22 τ ξ one two) = 0 ↔ (64 : Int32) ≤ R0_j22 τ ξ one two := by
    rw [place_iff, (le_n (c := 64) (N := 64) hp (by decide) (by decide) rfl).1]
    constructor
    · intro z
      exact Nat.le_of_not_lt fun w => z (by rw [vp_nI' hp (by decide)]; exact vp_in_nI w (by decide))
    · intro z w
      have := vp_lt w
      omega
  have ep4 : R0_j22 τ ξ one two = 64 ↔ (64 : Int32) ≤ R0_j22 τ ξ one two := by
    rw [(le_n (c := 64) (N := 64) hp (by decide) (by decide) rfl).1, eq_n (c := 64) (N := 64) hp (by decide) (by decide) rfl]
    have := vp_lt hp
    omega
  have tz : (nI z - nI 50).toInt = (z : Int) - 50 := pk_sub_toInt (by omega) (by decide)
  have td : (nI d - nI 3).toInt = (d : Int) - 3 := pk_sub_toInt (by omega) (by decide)
  have e8 : M_meter_j8 ξ (R0_j22 τ ξ one two) (R0_j47 τ ξ one two) ((two / (101 : Int32) - two / (101 : Int32) / (8 : Int32) * (8 : Int32)) - (3 : Int32)) = R0_j81 τ ξ one two := by
    unfold M_meter_j8 R0_j81
    rw [ez, ed]
    have a1 := isIn_iff (v := nI z - nI 50) (a := -50) (b := 50)
    have a2 := isIn_iff (v := nI d - nI 3) (a := -3) (b := 3)
    rw [tz, show (-50 : Int32).toInt = -50 from rfl, show (50 : Int32).toInt = 50 from rfl] at a1
    rw [td, show (-3 : Int32).toInt = -3 from rfl, show (3 : Int32).toInt = 3 from rfl] at a2
    have b1 : (51 : Int32) ≤ nI z - nI 50 ↔ 51 ≤ (z : Int) - 50 := by rw [Int32.le_iff_toInt_le, tz]; exact Iff.rfl
    have b2 : (4 : Int32) ≤ nI d - nI 3 ↔ 4 ≤ (d : Int) - 3 := by rw [Int32.le_iff_toInt_le, td]; exact Iff.rfl
    by_cases q1 : (51 : Int32) ≤ nI z - nI 50
    · have := b1.mp q1
      rw [if_pos q1, if_pos (Classical.byContradiction fun w => by have := a1.mp w; omega)]
    have q1' : ¬ 51 ≤ (z : Int) - 50 := fun w => q1 (b1.mpr w)
    rw [if_neg q1, if_neg (a1.mpr (by omega))]
    by_cases q2 : (4 : Int32) ≤ nI d - nI 3
    · have := b2.mp q2
      rw [if_pos q2, if_pos (Classical.byContradiction fun w => by have := a2.mp w; omega)]
    have q2' : ¬ 4 ≤ (d : Int) - 3 := fun w => q2 (b2.mpr w)
    rw [if_neg q2, if_neg (a2.mpr (by omega))]
  have hr : ¬ R0_j81 τ ξ one two = 0 → z < 101 ∧ d < 7 := by
    intro h
    unfold R0_j81 at h
    rw [ez, ed] at h
    by_cases q1 : (51 : Int32) ≤ nI z - nI 50
    · rw [if_pos q1] at h; exact absurd rfl h
    rw [if_neg q1] at h
    by_cases q2 : (4 : Int32) ≤ nI d - nI 3
    · rw [if_pos q2] at h; exact absurd rfl h
    rw [Int32.le_iff_toInt_le, tz, show (51 : Int32).toInt = 51 from rfl] at q1
    rw [Int32.le_iff_toInt_le, td, show (4 : Int32).toInt = 4 from rfl] at q2
    omega
  have h8 : ¬ ξ 26 0 = 8 := by
    rw [en]
    exact fun z => absurd ((nI_eq (a := n) (b := 8) (by omega) (by decide)).mp z) (by omega)
  have i3 : ix ((3 : Int32) * ξ 26 0) = 3 * n := by rw [en, show (3 : Int32) = nI 3 from rfl, pk_mul, ixn (by omega)]
  refine ⟨?_, ?_, IO_meter hI hO _ _ _⟩
  · unfold R0_j188 R0_j164 R0_j101_s DV_11 M_meter_s M_meter
    by_cases y : (64 : Int32) ≤ R0_j22 τ ξ one two
    · have hj : M_meter_j33 ξ (R0_j22 τ ξ one two) (R0_j47 τ ξ one two) ((two / (101 : Int32) - two / (101 : Int32) / (8 : Int32) * (8 : Int32)) - (3 : Int32)) = 1 := by
        unfold M_meter_j33
        rw [if_pos (ep.mpr y)]
      rw [hj, if_neg (nf1 ξ), f41, if_neg i10, if_pos rfl, if_pos (ep4.mpr y)]
      exact if_pos rfl
    rw [if_neg (fun w => y (ep4.mp w)), if_neg y]
    by_cases q : R0_j81 τ ξ one two = 0
    · have hj : M_meter_j33 ξ (R0_j22 τ ξ one two) (R0_j47 τ ξ one two) ((two / (101 : Int32) - two / (101 : Int32) / (8 : Int32) * (8 : Int32)) - (3 : Int32)) = 2 := by
        unfold M_meter_j33
        rw [if_neg (fun w => y (ep.mp w)), e8, if_pos q]
      rw [hj, if_neg (nf2 ξ), f41, if_neg n20, if_neg n21, if_pos rfl, if_pos q]
      exact if_pos rfl
    · have hj : M_meter_j33 ξ (R0_j22 τ ξ one two) (R0_j47 τ ξ one two) ((two / (101 : Int32) - two / (101 : Int32) / (8 : Int32) * (8 : Int32)) - (3 : Int32)) = 0 := by
        unfold M_meter_j33
        rw [if_neg (fun w => y (ep.mp w)), e8, if_neg q, if_neg h8]
      rw [hj, if_pos (fails_0 ξ), if_pos (fails_0 ξ), if_neg q, if_neg q, g4]
      simp (disch := decide) only [sS_col, sC_same, sC_col, fcol, f41]
      rw [if_pos trivial, sS_same]
      exact if_pos rfl
  · unfold R0_j101_s M_meter_s
    by_cases y : (64 : Int32) ≤ R0_j22 τ ξ one two
    · have hj : M_meter_j33 ξ (R0_j22 τ ξ one two) (R0_j47 τ ξ one two) ((two / (101 : Int32) - two / (101 : Int32) / (8 : Int32) * (8 : Int32)) - (3 : Int32)) = 1 := by
        unfold M_meter_j33
        rw [if_pos (ep.mpr y)]
      rw [hj, if_neg (nf1 ξ), if_pos y]
      exact hQ.ext (sEq.f ξ 1)
    rw [if_neg y]
    by_cases q : R0_j81 τ ξ one two = 0
    · have hj : M_meter_j33 ξ (R0_j22 τ ξ one two) (R0_j47 τ ξ one two) ((two / (101 : Int32) - two / (101 : Int32) / (8 : Int32) * (8 : Int32)) - (3 : Int32)) = 2 := by
        unfold M_meter_j33
        rw [if_neg (fun w => y (ep.mp w)), e8, if_pos q]
      rw [hj, if_neg (nf2 ξ), if_pos q]
      exact hQ.ext (sEq.f ξ 2)
    · have hj : M_meter_j33 ξ (R0_j22 τ ξ one two) (R0_j47 τ ξ one two) ((two / (101 : Int32) - two / (101 : Int32) / (8 : Int32) * (8 : Int32)) - (3 : Int32)) = 0 := by
        unfold M_meter_j33
        rw [if_neg (fun w => y (ep.mp w)), e8, if_neg q, if_neg h8]
      rw [hj, if_pos (fails_0 ξ), if_neg q, g4, i3, show ix (4 : Int32) = 4 from rfl]
      simp (disch := decide) only [sS_col, sC_same, fcol, i26]
      have b := hr q
      have z50 : R0_j47 τ ξ one two + 50 = nI z := by
        rw [ez, show (50 : Int32) = nI 50 from rfl, sub_add (by omega), Nat.add_sub_cancel]
      have d3 : ((two / (101 : Int32) - two / (101 : Int32) / (8 : Int32) * (8 : Int32)) - (3 : Int32)) + 3 = nI d := by
        rw [ed, show (3 : Int32) = nI 3 from rfl, sub_add (by omega), Nat.add_sub_cancel]
      exact (LQ_meter hQ hn en (p := R0_j22 τ ξ one two) (by rw [z50]; exact vp_in_nI b.1 (by decide)) (by rw [d3]; exact vp_in_nI b.2 (by decide))).ext (((((sEq.f ξ 0).S _ _ _).S _ _ _).S _ _ _).C _ _)
theorem R2_ok (hQ : LQ ξ τ) (hI : InvX ξ) (hO : InvO ξ) (h1 : vp_in one 60000) (h2 : vp_in two 60000) : R2 τ ξ one two = 1 ∧ LQ (R2_x τ ξ one two) (R2_s τ ξ one two) ∧ InvX (R2_x τ ξ one two) ∧ InvO (R2_x τ ξ one two) := by
  have him := is_met hQ hI h1
  obtain ⟨z, hz, ez⟩ : ∃ z : Nat, z < 5202 ∧ R2_j489 τ ξ one two = nI z - nI 200 ∧ (¬ z = 5201 → z < 400) := by
    unfold R2_j489
    split
    · exact ⟨5201, by decide, by decide, fun h => absurd rfl h⟩
    · obtain ⟨z, hz, e⟩ := vn (vr_rem (c := 400) h2 (by decide) (by decide) (by decide)) (by decide)
      have e' : two - two / (400 : Int32) * (400 : Int32) = nI z := e
      exact ⟨z, by omega, by rw [e']; rfl, fun _ => hz⟩
  have tz : (nI z - nI 200).toInt = (z : Int) - 200 := pk_sub_toInt (by omega) (by decide)
  have e7 : M_isIn (R2_j489 τ ξ one two) (-5000) 5000 = 0 ↔ (5001 : Int32) ≤ R2_j489 τ ξ one two := by
    have a1 := isIn_iff (v := nI z - nI 200) (a := -5000) (b := 5000)
    rw [tz, show (-5000 : Int32).toInt = -5000 from rfl, show (5000 : Int32).toInt = 5000 from rfl] at a1
    rw [ez.1, Int32.le_iff_toInt_le, tz, show (5001 : Int32).toInt = 5001 from rfl]
    constructor
    · intro w
      exact Classical.byContradiction fun v => a1.mpr (by omega) w
    · intro w
      exact Classical.byContradiction fun v => by have := a1.mp v; omega
  have hmet : ¬ M_isMeter ξ (one - one / ((τ 7 (ix (4 : Int32))) + (1 : Int32)) * ((τ 7 (ix (4 : Int32))) + (1 : Int32))) = 0 → vp_in (one - one / ((τ 7 (ix (4 : Int32))) + (1 : Int32)) * ((τ 7 (ix (4 : Int32))) + (1 : Int32))) 2 := fun a => vp_up (Classical.byContradiction fun w => a ((meter_iff hI).mpr w)) hQ.lim.2.2
  have i3 : ¬ M_isMeter ξ (one - one / ((τ 7 (ix (4 : Int32))) + (1 : Int32)) * ((τ 7 (ix (4 : Int32))) + (1 : Int32))) = 0 → ix ((3 : Int32) * (one - one / ((τ 7 (ix (4 : Int32))) + (1 : Int32)) * ((τ 7 (ix (4 : Int32))) + (1 : Int32))) + (1 : Int32)) = 3 * ix (one - one / ((τ 7 (ix (4 : Int32))) + (1 : Int32)) * ((τ 7 (ix (4 : Int32))) + (1 : Int32))) + 1 := fun a => ixc (f := 3) (c := 1) (hmet a) (by decide) (by decide)
  refine ⟨?_, ?_, IO_tell hI hO _ _⟩
  · unfold R2 R2_j592 R2_j569 R2_j512 R2_j214 DV_13 M_tell_s M_tell
    by_cases a : M_isMeter ξ (one - one / ((τ 7 (ix (4 : Int32))) + (1 : Int32)) * ((τ 7 (ix (4 : Int32))) + (1 : Int32))) = 0
    · have hj : M_tell_j6 ξ (one - one / ((τ 7 (ix (4 : Int32))) + (1 : Int32)) * ((τ 7 (ix (4 : Int32))) + (1 : Int32))) (R2_j489 τ ξ one two) = 1 := by
        unfold M_tell_j6
        rw [if_pos a]
      rw [hj, if_neg (nf1 ξ), f41, if_neg i10, if_pos rfl, if_pos (him.mpr a), if_pos rfl]
      exact if_pos rfl
    rw [if_neg (fun z => a (him.mp z)), if_neg i10, if_neg i10, i3 a, (hQ.m (vp_lt (hmet a))).1]
    by_cases b : (5001 : Int32) ≤ R2_j489 τ ξ one two
    · have hj : M_tell_j6 ξ (one - one / ((τ 7 (ix (4 : Int32))) + (1 : Int32)) * ((τ 7 (ix (4 : Int32))) + (1 : Int32))) (R2_j489 τ ξ one two) = 2 := by
        unfold M_tell_j6
        rw [if_neg a, if_pos (e7.mpr b)]
      rw [hj, if_neg (nf2 ξ), f41, if_neg n20, if_neg n21, if_pos b]
      exact if_pos rfl
    · have hj : M_tell_j6 ξ (one - one / ((τ 7 (ix (4 : Int32))) + (1 : Int32)) * ((τ 7 (ix (4 : Int32))) + (1 : Int32))) (R2_j489 τ ξ one two) = 0 := by
        unfold M_tell_j6
        rw [if_neg a, if_neg (fun z => b (e7.mp z))]
      rw [hj, if_pos (fails_0 ξ), if_pos (fails_0 ξ), sS_col (by decide), f41, if_pos rfl, if_neg b, fcol ξ 0 (by decide)]
      exact if_pos rfl
  · unfold R2_x R2_s R2_j532_s R2_j214 M_tell_s
    by_cases a : M_isMeter ξ (one - one / ((τ 7 (ix (4 : Int32))) + (1 : Int32)) * ((τ 7 (ix (4 : Int32))) + (1 : Int32))) = 0
    · have hj : M_tell_j6 ξ (one - one / ((τ 7 (ix (4 : Int32))) + (1 : Int32)) * ((τ 7 (ix (4 : Int32))) + (1 : Int32))) (R2_j489 τ ξ one two) = 1 := by
        unfold M_tell_j6
        rw [if_pos a]
      rw [hj, if_neg (nf1 ξ), if_pos (him.mpr a), if_pos rfl]
      exact hQ.ext (sEq.f ξ 1)
    rw [if_neg (fun z => a (him.mp z)), if_neg i10]
    by_cases b : (5001 : Int32) ≤ R2_j489 τ ξ one two
    · have hj : M_tell_j6 ξ (one - one / ((τ 7 (ix (4 : Int32))) + (1 : Int32)) * ((τ 7 (ix (4 : Int32))) + (1 : Int32))) (R2_j489 τ ξ one two) = 2 := by
        unfold M_tell_j6
        rw [if_neg a, if_pos (e7.mpr b)]
      rw [hj, if_neg (nf2 ξ), if_pos b]
      exact hQ.ext (sEq.f ξ 2)
    · have hj : M_tell_j6 ξ (one - one / ((τ 7 (ix (4 : Int32))) + (1 : Int32)) * ((τ 7 (ix (4 : Int32))) + (1 : Int32))) (R2_j489 τ ξ one two) = 0 := by
        unfold M_tell_j6
        rw [if_neg a, if_neg (fun z => b (e7.mp z))]
      rw [hj, if_pos (fails_0 ξ), if_neg b, i3 a]
      exact LQ_tell (hQ.ext (sEq.f ξ 0)) (vp_lt (hmet a))
end OPR
end
