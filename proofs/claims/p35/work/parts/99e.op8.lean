noncomputable section
section OP8
variable {ξ τ : St} {p : Int32}
theorem addsub (a b c : Int32) : a + b - c = a + (b - c) := by rw [Int32.sub_eq_add_neg, Int32.sub_eq_add_neg, Int32.add_assoc]
theorem LM_val (hQ : LQ ξ τ) (hI : InvX ξ) (h : vp_in p (ix (ξ 26 0))) : ((((((L_glow τ ((τ 5 (ix ((3 : Int32) * p))) - (τ 5 (ix ((3 : Int32) * p))) / (64 : Int32) * (64 : Int32)) (5 : Int32)) + (L_moon (τ 7 (ix (0 : Int32))))) + (20 : Int32)) + (((τ 5 (ix ((3 : Int32) * p))) / (64 : Int32)) - ((τ 5 (ix ((3 : Int32) * p))) / (64 : Int32)) / (128 : Int32) * (128 : Int32))) - (50 : Int32)) + ((((τ 5 (ix ((3 : Int32) * p))) / (8192 : Int32)) - (3 : Int32)) * ((τ 7 (ix (0 : Int32))) / (24 : Int32)))) = ((((M_glowOf ξ (ξ 27 (ix p))) + (M_moon (ξ 0 0))) + (20 : Int32)) + (ξ 28 (ix p))) + ((ξ 29 (ix p)) * ((ξ 0 0) / (24 : Int32))) := by
  have g0 : τ 7 (ix (0 : Int32)) = ξ 0 0 := hQ.g.1
  have h2 := vp_up h hQ.lim.2.2
  obtain ⟨a, b, c, ha, hb, hc, e1, e2, e3, e⟩ := dm hQ hI (vp_lt h)
  have i3 : ix ((3 : Int32) * p) = 3 * ix p := ixm (f := 3) h2 (by decide) (by decide)
  have x1 : τ 5 (3 * ix p) - τ 5 (3 * ix p) / (64 : Int32) * (64 : Int32) = ξ 27 (ix p) := by
    rw [e, e1, show (64 : Int32) = nI 64 from rfl, pk_rem (by omega) (by decide) (by decide)]
    congr 1
    omega
  have x2 : (τ 5 (3 * ix p) / (64 : Int32)) - (τ 5 (3 * ix p) / (64 : Int32)) / (128 : Int32) * (128 : Int32) = ξ 28 (ix p) + 50 := by
    rw [e, e2, show (64 : Int32) = nI 64 from rfl, show (128 : Int32) = nI 128 from rfl, pk_div (by omega) (by decide) (by decide), pk_rem (by omega) (by decide) (by decide)]
    congr 1
    omega
  have x3 : τ 5 (3 * ix p) / (8192 : Int32) = ξ 29 (ix p) + 3 := by
    rw [e, e3, show (8192 : Int32) = nI 8192 from rfl, pk_div (by omega) (by decide) (by decide)]
    congr 1
    omega
  rw [i3, x1, x2, x3, g0, LM_glow5 hQ hI (hI.1 27 (ix p) : vp_in (ξ 27 (ix p)) 64), LM_moon (hI.1 0 0 : vp_in (ξ 0 0) 20001), addsub, addsub, addsub, Int32.sub_self, Int32.add_zero, Int32.sub_self, Int32.add_zero]
theorem LQ_rd (hQ : LQ ξ τ) {k : Nat} (hk : k < 2) {c : Int32} : LQ (sS ξ 31 k c) (sS τ 5 (3 * k + 2) c) := by
  refine ⟨hQ.1, hQ.2.1, hQ.2.2.1, hQ.2.2.2.1, hQ.2.2.2.2.1, hQ.2.2.2.2.2.1, fun j hj => ?_, fun j hj => ?_, fun j hj hj' => ?_, hQ.2.2.2.2.2.2.2.2.2⟩
  · obtain ⟨m1, m2⟩ := hQ.m hj
    rw [sS_at, sS_at, sS_at, if_neg (show ¬ 3 * j + 1 = 3 * k + 2 by omega)]
    refine ⟨m1, ?_⟩
    by_cases e : j = k
    · rw [if_pos e, if_pos (by omega)]
    · rw [if_neg e, if_neg (by omega)]; exact m2
  · rw [sS_at, if_neg (by omega)]
    exact hQ.m1 hj
  · rw [sS_at, if_neg (by omega)]
    exact hQ.m0 hj hj'
theorem LQ_wr (hQ : LQ ξ τ) {i : Nat} (hi : i < 20) {t v : Int32} (ht : vp_in t 20001) : LQ (sS (sS ξ 32 i t) 33 i v) (sS (sS τ 6 i t) 6 (20 + i) v) := by
  refine ⟨hQ.1, hQ.2.1, hQ.2.2.1, hQ.2.2.2.1, hQ.2.2.2.2.1, hQ.2.2.2.2.2.1, hQ.2.2.2.2.2.2.1, hQ.2.2.2.2.2.2.2.1, hQ.2.2.2.2.2.2.2.2.1, fun j hj => ?_, hQ.2.2.2.2.2.2.2.2.2.2⟩
  obtain ⟨q1, q2, q3⟩ := hQ.q hj
  have c32 : (sS (sS ξ 32 i t) 33 i v) 32 j = if j = i then t else ξ 32 j := by rw [sS_col (by decide), sS_at]
  have c33 : (sS (sS ξ 32 i t) 33 i v) 33 j = if j = i then v else ξ 33 j := by rw [sS_at, sS_col (by decide)]
  have c6 : ∀ x, (sS (sS τ 6 i t) 6 (20 + i) v) 6 x = if x = 20 + i then v else if x = i then t else τ 6 x := fun x => by rw [sS_at, sS_at]
  rw [c32, c33, c6, c6, if_neg (show ¬ j = 20 + i by omega), if_neg (show ¬ 20 + j = i by omega)]
  by_cases e : j = i
  · rw [if_pos (show 20 + j = 20 + i by omega)]
    repeat rw [if_pos e]
    exact ⟨rfl, rfl, ht⟩
  · rw [if_neg (show ¬ 20 + j = 20 + i by omega)]
    repeat rw [if_neg e]
    exact ⟨q1, q2, q3⟩
theorem LQ_sh1 (hQ : LQ ξ τ) {i : Nat} (hi : i < 19) : LQ (sS (sS ξ 32 i (ξ 32 (i + 1))) 33 i (ξ 33 (i + 1))) (sS (sS τ 6 (ix (nI i)) (τ 6 (ix ((nI i) + (1 : Int32))))) 6 (ix ((20 : Int32) + (nI i))) ((sS τ 6 (ix (nI i)) (τ 6 (ix ((nI i) + (1 : Int32))))) 6 (ix ((21 : Int32) + (nI i))))) := by
  obtain ⟨q1, q2, q3⟩ := hQ.q (show i + 1 < 20 by omega)
  rw [show (20 : Int32) = nI 20 from rfl, show (21 : Int32) = nI 21 from rfl, nI_1, nI_add, nI_add, ixn (by omega), ixn (by omega), ixn (by omega), ixn (by omega)]
  have e : (sS τ 6 i (τ 6 (i + 1))) 6 (21 + i) = ξ 33 (i + 1) := by
    rw [sS_at, if_neg (by omega), show 21 + i = 20 + (i + 1) by omega, q2]
  rw [e, q1]
  exact LQ_wr hQ (by omega) q3
theorem shift_ok {x s : St} {o t : Int32} (KL : St → Int32) (KS KX : St → St) : ∀ n k a b, LQ a b → k + n < 20 → ∃ b', LQ (shL n k a) b' ∧ R1_L327 s x o t KL n k b = KL b' ∧ R1_L327_s s x o t KS n k b = KS b' ∧ R1_L327_x s x o t KX n k b = KX b' := by
  intro n
  induction n with
  | zero =>
    intro k a b hQ _
    rw [R1_L327, R1_L327_s, R1_L327_x]
    exact ⟨b, hQ, rfl, rfl, rfl⟩
  | succ n ih =>
    intro k a b hQ hk
    rw [R1_L327, R1_L327_s, R1_L327_x]
    exact ih (k + 1) _ _ (LQ_sh1 hQ (by omega)) (by omega)
theorem ix20r {m r : Int32} (hm : vp_in m 2) (hr : vp_in r 10) : ix ((((20 : Int32) + ((10 : Int32) * m)) + r)) = 20 + (10 * ix m + ix r) := by
  have a1 := vp_lt hm
  have a2 := vp_lt hr
  have e1 := vp_nI' hm (by decide)
  have e2 := vp_nI' hr (by decide)
  generalize ix m = i at *
  generalize ix r = j at *
  subst e1
  subst e2
  rw [show (20 : Int32) = nI 20 from rfl, show (10 : Int32) = nI 10 from rfl, pk_mul, nI_add, nI_add, ixn (by omega)]
  omega
/-- what read writes, out of A (its meter's shelf not full) -/
theorem read_push {A : St} {b : St} {v : Int32} (hQ : LQ A b) (hI : InvX ξ) (hA : ∀ k, k < 40 → k ≠ 31 → k ≠ 32 → k ≠ 33 → A k = ξ k) (h : vp_in p (ix (ξ 26 0))) (h2 : vp_in p 2) (hr : vp_in (A 31 (ix p)) 10) (hv : v = ((((M_glowOf ξ (ξ 27 (ix p))) + (M_moon (ξ 0 0))) + (20 : Int32)) + (ξ 28 (ix p))) + ((ξ 29 (ix p)) * ((ξ 0 0) / (24 : Int32)))) :
    LQ (pS2 A p) (sS (sS (sS b 6 (10 * ix p + ix (A 31 (ix p))) (ξ 0 0)) 6 (20 + (10 * ix p + ix (A 31 (ix p)))) v) 5 (3 * ix p + 2) (A 31 (ix p) + 1)) ∧ pS2 A p 33 (ix (((10 : Int32) * p) + (A 31 (ix p)))) = v ∧ pS2 A p 41 0 = A 41 0 := by
  have hB : ∀ k, k < 40 → k ≠ 31 → k ≠ 32 → k ≠ 33 → pB A p k = ξ k := fun k a b d e => by
    unfold pB
    rw [sS_col d, hA k a b d e]
  have hpv : pVal A p = v := by
    rw [hv]
    unfold pVal
    rw [glow_c (s' := ξ) (fun k hk => hB k (by omega) (by omega) (by omega) (by omega)), hB 27 (by decide) (by decide) (by decide) (by decide), hB 0 (by decide) (by decide) (by decide) (by decide), hB 28 (by decide) (by decide) (by decide) (by decide), hB 29 (by decide) (by decide) (by decide) (by decide)]
  have hi : ix (((10 : Int32) * p) + (A 31 (ix p))) = 10 * ix p + ix (A 31 (ix p)) := rix (vp_up h2 (by decide)) hr
  have e0 : A 0 = ξ 0 := hA 0 (by decide) (by decide) (by decide) (by decide)
  have a1 := vp_lt h2
  have a2 := vp_lt hr
  refine ⟨?_, ?_, ?_⟩
  · unfold pS2
    rw [hpv, hi, sS_col (show (31 : Nat) ≠ 33 by decide)]
    unfold pB
    rw [hi, sS_col (show (31 : Nat) ≠ 32 by decide), e0]
    exact LQ_rd (LQ_wr hQ (by omega) (hI.1 0 0 : vp_in (ξ 0 0) 20001)) a1
  · unfold pS2
    rw [sS_col (show (33 : Nat) ≠ 31 by decide), sS_same, hpv]
  · unfold pS2 pB
    rw [sS_col (show (41 : Nat) ≠ 31 by decide), sS_col (show (41 : Nat) ≠ 33 by decide), sS_col (show (41 : Nat) ≠ 32 by decide)]
end OP8
section OPR1
variable {ξ τ : St} {one two : Int32}
theorem R1_ok (hQ : LQ ξ τ) (hI : InvX ξ) (hO : InvO ξ) (h1 : vp_in one 60000) (_ : vp_in two 60000) : R1 τ ξ one two = 1 ∧ LQ (R1_x τ ξ one two) (R1_s τ ξ one two) ∧ InvX (R1_x τ ξ one two) ∧ InvO (R1_x τ ξ one two) := by
  have him := is_met hQ hI h1
  have j214 : R1_j214 τ ξ one two = 0 ↔ M_isMeter ξ (one - one / ((τ 7 (ix (4 : Int32))) + (1 : Int32)) * ((τ 7 (ix (4 : Int32))) + (1 : Int32))) = 0 := by
    rw [← him]
    unfold R1_j214
    constructor
    · intro z
      split at z
      · assumption
      · exact absurd z (by decide)
    · exact fun z => if_pos z
  have g0 : τ 7 (ix (0 : Int32)) = ξ 0 0 := hQ.g.1
  by_cases a : M_isMeter ξ (one - one / ((τ 7 (ix (4 : Int32))) + (1 : Int32)) * ((τ 7 (ix (4 : Int32))) + (1 : Int32))) = 0
  · have hj : M_read_j6 ξ (one - one / ((τ 7 (ix (4 : Int32))) + (1 : Int32)) * ((τ 7 (ix (4 : Int32))) + (1 : Int32))) = 1 := by
      unfold M_read_j6
      rw [if_pos a]
    have hx : M_read_s ξ (one - one / ((τ 7 (ix (4 : Int32))) + (1 : Int32)) * ((τ 7 (ix (4 : Int32))) + (1 : Int32))) = M_fails_s ξ 1 := by
      rw [M_read_s_eq, hj, if_neg (nf1 ξ)]
    unfold R1 R1_s R1_x
    repeat rw [if_pos (j214.mpr a)]
    refine ⟨?_, ?_, IO_read hI hO _⟩
    · unfold R1_j467 R1_j457 DV_12
      rw [hx, f41, if_neg i10, if_pos (j214.mpr a)]
      exact if_pos rfl
    · rw [hx]
      exact hQ.ext (sEq.f ξ 1)
  have c : vp_in (one - one / ((τ 7 (ix (4 : Int32))) + (1 : Int32)) * ((τ 7 (ix (4 : Int32))) + (1 : Int32))) (ix (ξ 26 0)) := Classical.byContradiction fun w => a ((meter_iff hI).mpr w)
  have c2 : vp_in (one - one / ((τ 7 (ix (4 : Int32))) + (1 : Int32)) * ((τ 7 (ix (4 : Int32))) + (1 : Int32))) 2 := vp_up c hQ.lim.2.2
  have a214 : ¬ R1_j214 τ ξ one two = 0 := fun z => a (j214.mp z)
  have hval := LM_val hQ hI c
  have hj : M_read_j6 ξ (one - one / ((τ 7 (ix (4 : Int32))) + (1 : Int32)) * ((τ 7 (ix (4 : Int32))) + (1 : Int32))) = 0 := by
    unfold M_read_j6
    rw [if_neg a]
  have i2 : ix ((3 : Int32) * (one - one / ((τ 7 (ix (4 : Int32))) + (1 : Int32)) * ((τ 7 (ix (4 : Int32))) + (1 : Int32))) + (2 : Int32)) = 3 * ix (one - one / ((τ 7 (ix (4 : Int32))) + (1 : Int32)) * ((τ 7 (ix (4 : Int32))) + (1 : Int32))) + 2 := ixc (f := 3) (c := 2) c2 (by decide) (by decide)
  have t31 : τ 5 (3 * ix (one - one / ((τ 7 (ix (4 : Int32))) + (1 : Int32)) * ((τ 7 (ix (4 : Int32))) + (1 : Int32))) + 2) = ξ 31 (ix (one - one / ((τ 7 (ix (4 : Int32))) + (1 : Int32)) * ((τ 7 (ix (4 : Int32))) + (1 : Int32)))) := (hQ.m (vp_lt c2)).2
  have v1 : R1_j457x1 τ ξ one two = ((((((L_glow τ ((τ 5 (ix ((3 : Int32) * (one - one / ((τ 7 (ix (4 : Int32))) + (1 : Int32)) * ((τ 7 (ix (4 : Int32))) + (1 : Int32)))))) - (τ 5 (ix ((3 : Int32) * (one - one / ((τ 7 (ix (4 : Int32))) + (1 : Int32)) * ((τ 7 (ix (4 : Int32))) + (1 : Int32)))))) / (64 : Int32) * (64 : Int32)) (5 : Int32)) + (L_moon (τ 7 (ix (0 : Int32))))) + (20 : Int32)) + (((τ 5 (ix ((3 : Int32) * (one - one / ((τ 7 (ix (4 : Int32))) + (1 : Int32)) * ((τ 7 (ix (4 : Int32))) + (1 : Int32)))))) / (64 : Int32)) - ((τ 5 (ix ((3 : Int32) * (one - one / ((τ 7 (ix (4 : Int32))) + (1 : Int32)) * ((τ 7 (ix (4 : Int32))) + (1 : Int32)))))) / (64 : Int32)) / (128 : Int32) * (128 : Int32))) - (50 : Int32)) + ((((τ 5 (ix ((3 : Int32) * (one - one / ((τ 7 (ix (4 : Int32))) + (1 : Int32)) * ((τ 7 (ix (4 : Int32))) + (1 : Int32)))))) / (8192 : Int32)) - (3 : Int32)) * ((τ 7 (ix (0 : Int32))) / (24 : Int32)))) := by
    unfold R1_j457x1
    exact if_neg a214
  have v2 : ∀ s, R1_j457x2 τ ξ one two s = ((((((L_glow τ ((τ 5 (ix ((3 : Int32) * (one - one / ((τ 7 (ix (4 : Int32))) + (1 : Int32)) * ((τ 7 (ix (4 : Int32))) + (1 : Int32)))))) - (τ 5 (ix ((3 : Int32) * (one - one / ((τ 7 (ix (4 : Int32))) + (1 : Int32)) * ((τ 7 (ix (4 : Int32))) + (1 : Int32)))))) / (64 : Int32) * (64 : Int32)) (5 : Int32)) + (L_moon (τ 7 (ix (0 : Int32))))) + (20 : Int32)) + (((τ 5 (ix ((3 : Int32) * (one - one / ((τ 7 (ix (4 : Int32))) + (1 : Int32)) * ((τ 7 (ix (4 : Int32))) + (1 : Int32)))))) / (64 : Int32)) - ((τ 5 (ix ((3 : Int32) * (one - one / ((τ 7 (ix (4 : Int32))) + (1 : Int32)) * ((τ 7 (ix (4 : Int32))) + (1 : Int32)))))) / (64 : Int32)) / (128 : Int32) * (128 : Int32))) - (50 : Int32)) + ((((τ 5 (ix ((3 : Int32) * (one - one / ((τ 7 (ix (4 : Int32))) + (1 : Int32)) * ((τ 7 (ix (4 : Int32))) + (1 : Int32)))))) / (8192 : Int32)) - (3 : Int32)) * ((τ 7 (ix (0 : Int32))) / (24 : Int32)))) := fun s => by
    unfold R1_j457x2
    exact if_neg a214
  have lk := vp_lt c2
  unfold R1 R1_s R1_x
  repeat rw [if_neg a214]
  rw [i2, t31]
  by_cases w : ξ 31 (ix (one - one / ((τ 7 (ix (4 : Int32))) + (1 : Int32)) * ((τ 7 (ix (4 : Int32))) + (1 : Int32)))) = 10
  · repeat rw [if_pos w]
    obtain ⟨b', p1, p2, p3, p4⟩ := shift_ok (x := ξ) (s := τ) (o := one) (t := two) (fun s327 => R1_j467x2 τ ξ one two s327) (fun s327 => (sS (sS (sS (sS s327 5 (3 * ix (one - one / ((τ 7 (ix (4 : Int32))) + (1 : Int32)) * ((τ 7 (ix (4 : Int32))) + (1 : Int32))) + 2) (9 : Int32)) 6 (ix (((10 : Int32) * (one - one / ((τ 7 (ix (4 : Int32))) + (1 : Int32)) * ((τ 7 (ix (4 : Int32))) + (1 : Int32)))) + (9 : Int32))) (s327 7 (ix (0 : Int32)))) 6 (ix (((20 : Int32) + ((10 : Int32) * (one - one / ((τ 7 (ix (4 : Int32))) + (1 : Int32)) * ((τ 7 (ix (4 : Int32))) + (1 : Int32))))) + (9 : Int32))) ((((((L_glow τ ((τ 5 (ix ((3 : Int32) * (one - one / ((τ 7 (ix (4 : Int32))) + (1 : Int32)) * ((τ 7 (ix (4 : Int32))) + (1 : Int32)))))) - (τ 5 (ix ((3 : Int32) * (one - one / ((τ 7 (ix (4 : Int32))) + (1 : Int32)) * ((τ 7 (ix (4 : Int32))) + (1 : Int32)))))) / (64 : Int32) * (64 : Int32)) (5 : Int32)) + (L_moon (τ 7 (ix (0 : Int32))))) + (20 : Int32)) + (((τ 5 (ix ((3 : Int32) * (one - one / ((τ 7 (ix (4 : Int32))) + (1 : Int32)) * ((τ 7 (ix (4 : Int32))) + (1 : Int32)))))) / (64 : Int32)) - ((τ 5 (ix ((3 : Int32) * (one - one / ((τ 7 (ix (4 : Int32))) + (1 : Int32)) * ((τ 7 (ix (4 : Int32))) + (1 : Int32)))))) / (64 : Int32)) / (128 : Int32) * (128 : Int32))) - (50 : Int32)) + ((((τ 5 (ix ((3 : Int32) * (one - one / ((τ 7 (ix (4 : Int32))) + (1 : Int32)) * ((τ 7 (ix (4 : Int32))) + (1 : Int32)))))) / (8192 : Int32)) - (3 : Int32)) * ((τ 7 (ix (0 : Int32))) / (24 : Int32))))) 5 (3 * ix (one - one / ((τ 7 (ix (4 : Int32))) + (1 : Int32)) * ((τ 7 (ix (4 : Int32))) + (1 : Int32))) + 2) ((9 : Int32) + (1 : Int32)))) (fun _ => M_read_s ξ (one - one / ((τ 7 (ix (4 : Int32))) + (1 : Int32)) * ((τ 7 (ix (4 : Int32))) + (1 : Int32)))) 9 (10 * ix (one - one / ((τ 7 (ix (4 : Int32))) + (1 : Int32)) * ((τ 7 (ix (4 : Int32))) + (1 : Int32)))) (M_fails_s ξ 0) τ (hQ.ext (sEq.f ξ 0)) (by omega)
    rw [n9_eq, p2, p3, p4]
    have hc : ∀ k, k < 40 → k ≠ 31 → k ≠ 32 → k ≠ 33 → pA1 (shL 9 (10 * ix (one - one / ((τ 7 (ix (4 : Int32))) + (1 : Int32)) * ((τ 7 (ix (4 : Int32))) + (1 : Int32)))) (M_fails_s ξ 0)) (one - one / ((τ 7 (ix (4 : Int32))) + (1 : Int32)) * ((τ 7 (ix (4 : Int32))) + (1 : Int32))) k = ξ k := fun k x y z v => by
      unfold pA1
      rw [sS_col y, shL_col z v]
      exact funext fun i => by rw [sEq.f ξ 0 k x]
    have h31 : pA1 (shL 9 (10 * ix (one - one / ((τ 7 (ix (4 : Int32))) + (1 : Int32)) * ((τ 7 (ix (4 : Int32))) + (1 : Int32)))) (M_fails_s ξ 0)) (one - one / ((τ 7 (ix (4 : Int32))) + (1 : Int32)) * ((τ 7 (ix (4 : Int32))) + (1 : Int32))) 31 (ix (one - one / ((τ 7 (ix (4 : Int32))) + (1 : Int32)) * ((τ 7 (ix (4 : Int32))) + (1 : Int32)))) = 9 := by
      unfold pA1
      rw [sS_same, shL_col (by decide) (by decide), sEq.f ξ 0 31 (by decide), w]
      decide
    have hQ9 : LQ (pA1 (shL 9 (10 * ix (one - one / ((τ 7 (ix (4 : Int32))) + (1 : Int32)) * ((τ 7 (ix (4 : Int32))) + (1 : Int32)))) (M_fails_s ξ 0)) (one - one / ((τ 7 (ix (4 : Int32))) + (1 : Int32)) * ((τ 7 (ix (4 : Int32))) + (1 : Int32)))) (sS b' 5 (3 * ix (one - one / ((τ 7 (ix (4 : Int32))) + (1 : Int32)) * ((τ 7 (ix (4 : Int32))) + (1 : Int32))) + 2) (9 : Int32)) := by
      have q := LQ_rd p1 lk (c := 9)
      unfold pA1
      rw [show shL 9 (10 * ix (one - one / ((τ 7 (ix (4 : Int32))) + (1 : Int32)) * ((τ 7 (ix (4 : Int32))) + (1 : Int32)))) (M_fails_s ξ 0) 31 (ix (one - one / ((τ 7 (ix (4 : Int32))) + (1 : Int32)) * ((τ 7 (ix (4 : Int32))) + (1 : Int32)))) - (1 : Int32) = 9 by
        rw [shL_col (by decide) (by decide), sEq.f ξ 0 31 (by decide), w]
        decide]
      exact q
    obtain ⟨q1, q2, q3⟩ := read_push hQ9 hI hc c c2 (by rw [h31]; exact vp_in_nI (n := 9) (by decide) (by decide)) hval
    have b0 : b' 7 (ix (0 : Int32)) = ξ 0 0 := by
      rw [show ix (0 : Int32) = 0 from rfl, p1.g.1, shL_col (by decide) (by decide), sEq.f ξ 0 0 (by decide)]
    have hx : M_read_s ξ (one - one / ((τ 7 (ix (4 : Int32))) + (1 : Int32)) * ((τ 7 (ix (4 : Int32))) + (1 : Int32))) = pS2 (pA1 (shL 9 (10 * ix (one - one / ((τ 7 (ix (4 : Int32))) + (1 : Int32)) * ((τ 7 (ix (4 : Int32))) + (1 : Int32)))) (M_fails_s ξ 0)) (one - one / ((τ 7 (ix (4 : Int32))) + (1 : Int32)) * ((τ 7 (ix (4 : Int32))) + (1 : Int32)))) (one - one / ((τ 7 (ix (4 : Int32))) + (1 : Int32)) * ((τ 7 (ix (4 : Int32))) + (1 : Int32))) := by
      rw [M_read_s_eq, hj, if_pos (fails_0 ξ), sEq.f ξ 0 31 (by decide), if_pos w, n9_eq, L40_s _ _ _ _ _ _ (by omega)]
    have hv : M_read ξ (one - one / ((τ 7 (ix (4 : Int32))) + (1 : Int32)) * ((τ 7 (ix (4 : Int32))) + (1 : Int32))) = ((((((L_glow τ ((τ 5 (ix ((3 : Int32) * (one - one / ((τ 7 (ix (4 : Int32))) + (1 : Int32)) * ((τ 7 (ix (4 : Int32))) + (1 : Int32)))))) - (τ 5 (ix ((3 : Int32) * (one - one / ((τ 7 (ix (4 : Int32))) + (1 : Int32)) * ((τ 7 (ix (4 : Int32))) + (1 : Int32)))))) / (64 : Int32) * (64 : Int32)) (5 : Int32)) + (L_moon (τ 7 (ix (0 : Int32))))) + (20 : Int32)) + (((τ 5 (ix ((3 : Int32) * (one - one / ((τ 7 (ix (4 : Int32))) + (1 : Int32)) * ((τ 7 (ix (4 : Int32))) + (1 : Int32)))))) / (64 : Int32)) - ((τ 5 (ix ((3 : Int32) * (one - one / ((τ 7 (ix (4 : Int32))) + (1 : Int32)) * ((τ 7 (ix (4 : Int32))) + (1 : Int32)))))) / (64 : Int32)) / (128 : Int32) * (128 : Int32))) - (50 : Int32)) + ((((τ 5 (ix ((3 : Int32) * (one - one / ((τ 7 (ix (4 : Int32))) + (1 : Int32)) * ((τ 7 (ix (4 : Int32))) + (1 : Int32)))))) / (8192 : Int32)) - (3 : Int32)) * ((τ 7 (ix (0 : Int32))) / (24 : Int32)))) := by
      rw [M_read_eq, hj, if_pos (fails_0 ξ), sEq.f ξ 0 31 (by decide), if_pos w, n9_eq, L40_v _ _ _ _ _ _ (by omega)]
      exact q2
    refine ⟨?_, ?_, IO_read hI hO _⟩
    · unfold R1_j467x2 DV_12
      rw [hx, q3, v2, hv]
      unfold pA1
      rw [sS_col (show (41 : Nat) ≠ 31 by decide), shL_col (by decide) (by decide), f41, if_pos rfl]
      exact if_pos rfl
    · rw [hx]
      rw [h31, show ix (9 : Int32) = 9 from rfl] at q1
      rw [b0, show ix ((10 : Int32) * (one - one / ((τ 7 (ix (4 : Int32))) + (1 : Int32)) * ((τ 7 (ix (4 : Int32))) + (1 : Int32))) + (9 : Int32)) = 10 * ix (one - one / ((τ 7 (ix (4 : Int32))) + (1 : Int32)) * ((τ 7 (ix (4 : Int32))) + (1 : Int32))) + 9 from ixc (f := 10) (c := 9) c2 (by decide) (by decide), show ix (((20 : Int32) + ((10 : Int32) * (one - one / ((τ 7 (ix (4 : Int32))) + (1 : Int32)) * ((τ 7 (ix (4 : Int32))) + (1 : Int32))))) + (9 : Int32)) = 20 + (10 * ix (one - one / ((τ 7 (ix (4 : Int32))) + (1 : Int32)) * ((τ 7 (ix (4 : Int32))) + (1 : Int32))) + 9) from ix20r c2 (r := 9) (vp_in_nI (n := 9) (by decide) (by decide))]
      exact q1
  · repeat rw [if_neg w]
    have hr : vp_in (ξ 31 (ix (one - one / ((τ 7 (ix (4 : Int32))) + (1 : Int32)) * ((τ 7 (ix (4 : Int32))) + (1 : Int32))))) 10 := by
      have h1 := (r10 hI).mpr w
      obtain ⟨z, _⟩ := cnt (N := 10) (hI.1 31 (ix (one - one / ((τ 7 (ix (4 : Int32))) + (1 : Int32)) * ((τ 7 (ix (4 : Int32))) + (1 : Int32))))) (by decide)
      rw [z]
      exact vp_in_nI h1 (by decide)
    have f31 : M_fails_s ξ 0 31 (ix (one - one / ((τ 7 (ix (4 : Int32))) + (1 : Int32)) * ((τ 7 (ix (4 : Int32))) + (1 : Int32)))) = ξ 31 (ix (one - one / ((τ 7 (ix (4 : Int32))) + (1 : Int32)) * ((τ 7 (ix (4 : Int32))) + (1 : Int32)))) := by rw [sEq.f ξ 0 31 (by decide)]
    obtain ⟨q1, q2, q3⟩ := read_push (hQ.ext (sEq.f ξ 0)) hI (fun k x _ _ _ => sEq.f ξ 0 k x) c c2 (by rw [f31]; exact hr) hval
    have hx : M_read_s ξ (one - one / ((τ 7 (ix (4 : Int32))) + (1 : Int32)) * ((τ 7 (ix (4 : Int32))) + (1 : Int32))) = pS2 (M_fails_s ξ 0) (one - one / ((τ 7 (ix (4 : Int32))) + (1 : Int32)) * ((τ 7 (ix (4 : Int32))) + (1 : Int32))) := by
      rw [M_read_s_eq, hj, if_pos (fails_0 ξ), f31, if_neg w]
    have hv : M_read ξ (one - one / ((τ 7 (ix (4 : Int32))) + (1 : Int32)) * ((τ 7 (ix (4 : Int32))) + (1 : Int32))) = ((((((L_glow τ ((τ 5 (ix ((3 : Int32) * (one - one / ((τ 7 (ix (4 : Int32))) + (1 : Int32)) * ((τ 7 (ix (4 : Int32))) + (1 : Int32)))))) - (τ 5 (ix ((3 : Int32) * (one - one / ((τ 7 (ix (4 : Int32))) + (1 : Int32)) * ((τ 7 (ix (4 : Int32))) + (1 : Int32)))))) / (64 : Int32) * (64 : Int32)) (5 : Int32)) + (L_moon (τ 7 (ix (0 : Int32))))) + (20 : Int32)) + (((τ 5 (ix ((3 : Int32) * (one - one / ((τ 7 (ix (4 : Int32))) + (1 : Int32)) * ((τ 7 (ix (4 : Int32))) + (1 : Int32)))))) / (64 : Int32)) - ((τ 5 (ix ((3 : Int32) * (one - one / ((τ 7 (ix (4 : Int32))) + (1 : Int32)) * ((τ 7 (ix (4 : Int32))) + (1 : Int32)))))) / (64 : Int32)) / (128 : Int32) * (128 : Int32))) - (50 : Int32)) + ((((τ 5 (ix ((3 : Int32) * (one - one / ((τ 7 (ix (4 : Int32))) + (1 : Int32)) * ((τ 7 (ix (4 : Int32))) + (1 : Int32)))))) / (8192 : Int32)) - (3 : Int32)) * ((τ 7 (ix (0 : Int32))) / (24 : Int32)))) := by
      rw [M_read_eq, hj, if_pos (fails_0 ξ), f31, if_neg w]
      rw [f31] at q2
      exact q2
    refine ⟨?_, ?_, IO_read hI hO _⟩
    · unfold R1_j467x1 DV_12
      rw [hx, q3, v1, hv, f41, if_pos rfl]
      exact if_pos rfl
    · rw [hx]
      rw [f31] at q1
      rw [g0] at q1
      rw [g0, rix (vp_up c2 (by decide)) hr, ix20r c2 hr]
      exact q1
theorem R3_val {a : Int32} {k : Nat} (hQ : LQ ξ τ) (hI : InvX ξ) (h2 : vp_in two 60000) (hk : k < ix (ξ 26 0)) : R3_j673 τ ξ one two k a = M_audit_j37 ξ (R3_j605 τ ξ one two) k a := by
  have hk2 : k < 2 := Nat.lt_of_lt_of_le hk hQ.lim.2.2
  have hat := R3_at (one := one) (two := two) (IL_of hQ hI) hk2 a (ξ := ξ)
  have h1 := vp_in_iff.mp (R3_lim (σ := τ) (ξ := ξ) (one := one) h2)
  have hj : M_audit_j8 ξ (R3_j605 τ ξ one two) = 0 := by
    unfold M_audit_j8
    exact if_neg ((isIn_iff (v := R3_j605 τ ξ one two) (a := 0) (b := 100000)).mpr ⟨by rw [Int32.toInt_zero]; exact h1.1, by rw [show (100000 : Int32).toInt = 100000 from rfl]; omega⟩)
  have i2 : ix (((3 : Int32) * (nI k)) + (2 : Int32)) = 3 * k + 2 := by
    rw [show (3 : Int32) = nI 3 from rfl, show (2 : Int32) = nI 2 from rfl, pk_mul, nI_add, ixn (by omega)]
  have i1 : ix (((3 : Int32) * (nI k)) + (1 : Int32)) = 3 * k + 1 := by
    rw [show (3 : Int32) = nI 3 from rfl, show (1 : Int32) = nI 1 from rfl, pk_mul, nI_add, ixn (by omega)]
  obtain ⟨m1, m2⟩ := hQ.m hk2
  obtain ⟨r, hr, er⟩ := vn (hI.1 31 k : vp_in (ξ 31 k) 11) (by decide)
  unfold R3_j673 M_audit_j37
  rw [hj, sEq.f ξ 0 31 (by decide), ixn (by omega), i2, i1, m1, m2]
  split
  · rfl
  by_cases z : r = 0
  · rw [er, z, if_pos (show nI 0 - (1 : Int32) < 0 by decide), if_pos (show nI 0 = (0 : Int32) by decide)]
  have z1 : ¬ nI r = 0 := fun w => z ((nI_eq (a := r) (b := 0) (by omega) (by decide)).mp w)
  have es : nI r - (1 : Int32) = nI (r - 1) := by rw [show (1 : Int32) = nI 1 from rfl, pk_sub (by omega)]
  have en : ¬ nI r - (1 : Int32) < 0 := by
    rw [es, Int32.lt_iff_toInt_lt, nI_toInt (by omega), Int32.toInt_zero]
    omega
  have at' : R3_j654 τ ξ one two k a = (10 : Int32) * nI k + (nI r - 1) := by
    unfold R3_j654
    rw [i2, m2, er, if_pos (show (0 : Int32) ≤ nI r - 1 by rw [es]; exact nI_le (a := 0) (by omega) (by omega))]
  have ia : ix (R3_j654 τ ξ one two k a) = 10 * k + (r - 1) := by
    rw [at', es, show (10 : Int32) = nI 10 from rfl, pk_mul, nI_add, ixn (by omega)]
  have ib : ix ((20 : Int32) + R3_j654 τ ξ one two k a) = 20 + (10 * k + (r - 1)) := by
    rw [at', es, show (20 : Int32) = nI 20 from rfl, show (10 : Int32) = nI 10 from rfl, pk_mul, nI_add, nI_add, ixn (by omega)]
  have ic : ix ((10 : Int32) * nI k + nI (r - 1)) = 10 * k + (r - 1) := by
    rw [show (10 : Int32) = nI 10 from rfl, pk_mul, nI_add, ixn (by omega)]
  obtain ⟨q1, q2, q3⟩ := hQ.q (j := 10 * k + (r - 1)) (by omega)
  rw [er, if_neg en, if_neg z1, ia, ib, q1, q2, LM_moon q3]
  unfold M_corrected
  rw [sEq.f ξ 0 33 (by decide), sEq.f ξ 0 32 (by decide), sEq.f ξ 0 30 (by decide), es, ic, ixn (by omega)]
theorem R3_loop (hQ : LQ ξ τ) (hI : InvX ξ) (h2 : vp_in two 60000) (KL : Int32 → Int32) (KS KX : Int32 → St) : ∀ n k a, k + n = ix (ξ 26 0) → R3_L630 τ ξ one two KL n k a = KL (M_audit_L28 ξ (R3_j605 τ ξ one two) (fun a => a) n k a) ∧ R3_L630_s τ ξ one two KS n k a = KS (M_audit_L28 ξ (R3_j605 τ ξ one two) (fun a => a) n k a) ∧ R3_L630_x τ ξ one two KX n k a = KX (M_audit_L28 ξ (R3_j605 τ ξ one two) (fun a => a) n k a) := by
  intro n
  induction n with
  | zero => intro k a _; rw [R3_L630, R3_L630_s, R3_L630_x, M_audit_L28]; exact ⟨rfl, rfl, rfl⟩
  | succ n ih =>
    intro k a hk
    rw [R3_L630, R3_L630_s, R3_L630_x, M_audit_L28, R3_val hQ hI h2 (by omega)]
    exact ih (k + 1) _ (by omega)
theorem LQ_label (hQ : LQ ξ τ) {f s l : Int32} : LQ (sC (sC (sC ξ 35 f) 36 s) 34 l) (sS (sS (sS τ 7 5 f) 7 6 s) 7 7 l) := by
  obtain ⟨g0, g1, g2, g3, g4, g5, g6, g7⟩ := hQ.g
  have c7 : ∀ x, (sS (sS (sS τ 7 5 f) 7 6 s) 7 7 l) 7 x = if x = 7 then l else if x = 6 then s else if x = 5 then f else τ 7 x := fun x => by rw [sS_at, sS_at, sS_at]
  refine ⟨⟨?_, ?_, ?_, ?_, ?_, ?_, ?_, ?_⟩, hQ.2⟩
  · rw [c7]; exact g0
  · rw [c7]; exact g1
  · rw [c7]; exact g2
  · rw [c7]; exact g3
  · rw [c7]; exact g4
  · rw [c7, sC_col (by decide), sC_col (by decide), sC_same]; rfl
  · rw [c7, sC_col (by decide), sC_same]; rfl
  · rw [c7, sC_same]; rfl
theorem R3_ok (hQ : LQ ξ τ) (hI : InvX ξ) (hO : InvO ξ) (_ : vp_in one 60000) (h2 : vp_in two 60000) : R3 τ ξ one two = 1 ∧ LQ (R3_x τ ξ one two) (R3_s τ ξ one two) ∧ InvX (R3_x τ ξ one two) ∧ InvO (R3_x τ ξ one two) := by
  have g4 : τ 7 (ix (4 : Int32)) = ξ 26 0 := hQ.g.2.2.2.2.1
  have g5 : τ 7 (ix (5 : Int32)) = ξ 35 0 := hQ.g.2.2.2.2.2.1
  have g6 : τ 7 6 = ξ 36 0 := hQ.g.2.2.2.2.2.2.1
  have g7 : τ 7 7 = ξ 34 0 := hQ.g.2.2.2.2.2.2.2
  have h1 := vp_in_iff.mp (R3_lim (σ := τ) (ξ := ξ) (one := one) h2)
  have hj : M_audit_j8 ξ (R3_j605 τ ξ one two) = 0 := by
    unfold M_audit_j8
    exact if_neg ((isIn_iff (v := R3_j605 τ ξ one two) (a := 0) (b := 100000)).mpr ⟨by rw [Int32.toInt_zero]; exact h1.1, by rw [show (100000 : Int32).toInt = 100000 from rfl]; omega⟩)
  have hv : M_audit ξ (R3_j605 τ ξ one two) = M_audit_L28 ξ (R3_j605 τ ξ one two) (fun a => a) (ix (ξ 26 0)) 0 1 := by
    unfold M_audit
    rw [hj, if_pos (fails_0 ξ)]
  obtain ⟨e1, e2, e3⟩ := R3_loop (one := one) hQ hI h2 (fun a => R3_j812 τ ξ one two a) (fun a630_14 => (sS (sS (sS τ 7 (ix (5 : Int32)) (R3_j734 τ ξ one two a630_14)) 7 (ix (6 : Int32)) (R3_j754 τ ξ one two a630_14)) 7 (ix (7 : Int32)) (R3_j778 τ ξ one two a630_14))) (fun _ => M_audit_s ξ (R3_j605 τ ξ one two)) (ix (ξ 26 0)) 0 1 (Nat.zero_add _)
  unfold R3 R3_s R3_x
  rw [g4, e1, e2, e3, ← hv]
  refine ⟨?_, ?_, IO_audit hI hO _⟩
  · unfold R3_j812
    exact if_pos rfl
  · have hs : M_audit_s ξ (R3_j605 τ ξ one two) = sC (sC (sC (M_fails_s ξ 0) 35 (M_audit_j80 ξ (R3_j605 τ ξ one two) (M_audit ξ (R3_j605 τ ξ one two)))) 36 (M_audit_j98 ξ (R3_j605 τ ξ one two) (M_audit ξ (R3_j605 τ ξ one two)))) 34 (M_audit_j120 ξ (R3_j605 τ ξ one two) (M_audit ξ (R3_j605 τ ξ one two))) := by
      unfold M_audit_s
      rw [hj, if_pos (fails_0 ξ), audM_s, ← hv]
    rw [hs]
    generalize M_audit ξ (R3_j605 τ ξ one two) = v
    have a1 : R3_j734 τ ξ one two v = M_audit_j80 ξ (R3_j605 τ ξ one two) v := by
      unfold R3_j734 M_audit_j80
      rw [g5, sEq.f ξ _ 35 (by decide)]
    have a2 : R3_j754 τ ξ one two v = M_audit_j98 ξ (R3_j605 τ ξ one two) v := by
      unfold R3_j754 M_audit_j98
      rw [show ix (5 : Int32) = 5 from rfl, show ix (6 : Int32) = 6 from rfl, show (sS τ 7 5 (R3_j734 τ ξ one two v)) 7 6 = ξ 36 0 by rw [sS_at, if_neg (by decide), g6], sC_col (by decide), sEq.f ξ _ 36 (by decide)]
    have a3 : R3_j778 τ ξ one two v = M_audit_j120 ξ (R3_j605 τ ξ one two) v := by
      unfold R3_j778 M_audit_j120
      rw [a1, a2, show ix (5 : Int32) = 5 from rfl, show ix (6 : Int32) = 6 from rfl, show ix (7 : Int32) = 7 from rfl]
      generalize M_audit_j80 ξ (R3_j605 τ ξ one two) v = f
      generalize M_audit_j98 ξ (R3_j605 τ ξ one two) v = s
      have b5 : (sS (sS τ 7 5 f) 7 6 s) 7 5 = f := by rw [sS_at, if_neg (by decide), sS_at, if_pos rfl]
      have b7 : (sS (sS τ 7 5 f) 7 6 s) 7 7 = ξ 34 0 := by rw [sS_at, if_neg (by decide), sS_at, if_neg (by decide), g7]
      have d5 : (sC (sC (M_fails_s ξ (M_audit_j8 ξ (R3_j605 τ ξ one two))) 35 f) 36 s) 35 0 = f := by rw [sC_col (by decide), sC_same]
      have d6 : (sC (sC (M_fails_s ξ (M_audit_j8 ξ (R3_j605 τ ξ one two))) 35 f) 36 s) 36 0 = s := by rw [sC_same]
      have d4 : (sC (sC (M_fails_s ξ (M_audit_j8 ξ (R3_j605 τ ξ one two))) 35 f) 36 s) 34 0 = ξ 34 0 := by rw [sC_col (by decide), sC_col (by decide), sEq.f ξ _ 34 (by decide)]
      rw [b5, b7, d5, d6, d4]
      have l1 : f ≤ (1 : Int32) ↔ ¬ (2 : Int32) ≤ f := by
        rw [Int32.le_iff_toInt_le, Int32.le_iff_toInt_le, show (1 : Int32).toInt = 1 from rfl, show (2 : Int32).toInt = 2 from rfl]
        omega
      have l2 : s ≤ (2 : Int32) ↔ ¬ (3 : Int32) ≤ s := by
        rw [Int32.le_iff_toInt_le, Int32.le_iff_toInt_le, show (2 : Int32).toInt = 2 from rfl, show (3 : Int32).toInt = 3 from rfl]
        omega
      by_cases c1 : (2 : Int32) ≤ f
      · rw [if_pos c1, if_neg (fun z => l1.mp z c1)]
      rw [if_neg c1, if_pos (l1.mpr c1)]
      rcases (hI.1 34 0 : ξ 34 0 = 0 ∨ ξ 34 0 = 1) with z | z
      · rw [z]
        by_cases c2 : (3 : Int32) ≤ s
        · rw [if_pos (show (0 : Int32) = 0 from rfl), if_neg (fun z => l2.mp z c2)]
        · rw [if_pos (show (0 : Int32) = 0 from rfl), if_pos (l2.mpr c2)]
      · rw [z, if_neg (show ¬ (1 : Int32) = 0 by decide)]
        by_cases c2 : (3 : Int32) ≤ s
        · rw [if_pos c2, if_neg (fun z => l2.mp z c2)]
        · rw [if_neg c2, if_pos (l2.mpr c2)]
    rw [a1, a2, a3, show ix (5 : Int32) = 5 from rfl, show ix (6 : Int32) = 6 from rfl, show ix (7 : Int32) = 7 from rfl]
    exact (LQ_label hQ).ext (((((sEq.f ξ 0).C _ _)).C _ _).C _ _)
end OPR1
end
