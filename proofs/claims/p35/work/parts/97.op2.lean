noncomputable section
section OP2
variable {ξ τ : St}
theorem LQ_age (hQ : LQ ξ τ) {k : Nat} (hk : k < 10) {v : Int32} : LQ (sS ξ 23 k v) (sS τ 3 (6 * k + 4) v) := by
  refine ⟨hQ.1, hQ.2.1, hQ.2.2.1, hQ.2.2.2.1, hQ.2.2.2.2.1, fun n hn => ?_, hQ.2.2.2.2.2.2⟩
  obtain ⟨a0, a1, a2, a3, a4, a5, a6⟩ := hQ.l hn
  refine ⟨?_, ?_, ?_, ?_, ?_, ?_, a6⟩
  · rw [sS_at, if_neg (by omega)]; exact a0
  · rw [sS_at, if_neg (by omega)]; exact a1
  · rw [sS_at, if_neg (by omega)]; exact a2
  · rw [sS_at, if_neg (by omega)]; exact a3
  · rw [sS_at, sS_at]
    by_cases c : n = k
    · rw [if_pos c, if_pos (by omega)]
    · rw [if_neg c, if_neg (by omega)]; exact a4
  · rw [sS_at, if_neg (by omega)]; exact a5
theorem LQ_time (hQ : LQ ξ τ) {a : Int32} : LQ (sC ξ 0 a) (sS τ 7 0 a) := by
  obtain ⟨g0, g1, g2, g3, g4, g5, g6, g7⟩ := hQ.g
  refine ⟨⟨?_, ?_, ?_, ?_, ?_, ?_, ?_, ?_⟩, hQ.2⟩
  · rw [sS_at, if_pos rfl]; exact (sC_same ..).symm
  · rw [sS_at, if_neg (by decide)]; exact g1
  · rw [sS_at, if_neg (by decide)]; exact g2
  · rw [sS_at, if_neg (by decide)]; exact g3
  · rw [sS_at, if_neg (by decide)]; exact g4
  · rw [sS_at, if_neg (by decide)]; exact g5
  · rw [sS_at, if_neg (by decide)]; exact g6
  · rw [sS_at, if_neg (by decide)]; exact g7
theorem LQ_village (hQ : LQ ξ τ) {n : Nat} (hn : n < 2) (h8 : ξ 8 0 = nI n) {h c : Int32} : LQ (sC (sS (sS ξ 9 n h) 10 n c) 8 (ξ 8 0 + 1)) (sS (sS (sS τ 2 (4 * n) h) 2 (4 * n + 1) c) 7 2 (ξ 8 0 + 1)) := by
  obtain ⟨g0, g1, g2, g3, g4, g5, g6, g7⟩ := hQ.g
  refine ⟨⟨?_, ?_, ?_, ?_, ?_, ?_, ?_, ?_⟩, hQ.2.1, hQ.2.2.1, hQ.2.2.2.1, fun k hk => ?_, hQ.2.2.2.2.2.1, hQ.2.2.2.2.2.2.1, hQ.2.2.2.2.2.2.2.1, hQ.2.2.2.2.2.2.2.2.1, hQ.2.2.2.2.2.2.2.2.2.1, ?_, hQ.lim.2⟩
  · rw [sS_at, if_neg (by decide)]; exact g0
  · rw [sS_at, if_neg (by decide)]; exact g1
  · rw [sS_at, if_pos rfl]; exact (sC_same ..).symm
  · rw [sS_at, if_neg (by decide)]; exact g3
  · rw [sS_at, if_neg (by decide)]; exact g4
  · rw [sS_at, if_neg (by decide)]; exact g5
  · rw [sS_at, if_neg (by decide)]; exact g6
  · rw [sS_at, if_neg (by decide)]; exact g7
  · obtain ⟨a0, a1, a2, a3⟩ := hQ.v hk
    rw [sS_col (show (2 : Nat) ≠ 7 by decide), sC_col (show (9 : Nat) ≠ 8 by decide), sS_col (show (9 : Nat) ≠ 10 by decide), sC_col (show (10 : Nat) ≠ 8 by decide)]
    refine ⟨?_, ?_, ?_, ?_⟩
    · rw [sS_at, if_neg (by omega), sS_at, sS_at]
      by_cases e : k = n
      · rw [if_pos e, if_pos (by omega)]
      · rw [if_neg e, if_neg (by omega)]; exact a0
    · rw [sS_at, sS_at, sS_at]
      by_cases e : k = n
      · rw [if_pos e, if_pos (by omega)]
      · rw [if_neg e, if_neg (by omega), if_neg (by omega)]; exact a1
    · rw [sS_at, if_neg (by omega), sS_at, if_neg (by omega)]; exact a2
    · rw [sS_at, if_neg (by omega), sS_at, if_neg (by omega)]; exact a3
  · rw [sC_same, h8, nI_1, ixn (by omega)]
    omega
end OP2
section OPT2
variable {ξ τ : St} {one two : Int32}
theorem T6_rg (h1 : vp_in one 60000) (h2 : vp_in two 60000) : vp_in (T6_j872 τ ξ one two) 502 ∧ vp_in (T6_j905 τ ξ one two) 10002 := by
  unfold T6_j872 T6_j905
  constructor
  · split
    · exact vp_up (vr_mul (vr_rem (c := 2) (vr_div (c := 9) h1 (by decide) (by decide) (by decide)) (by decide) (by decide) (by decide)) (vp_in_nI (n := 501) (N := 502) (by decide) (by decide)) (by decide)) (by decide)
    · exact vp_up (vr_add (vp_in_nI (n := 1) (N := 2) (by decide) (by decide)) (vr_rem (c := 30) h1 (by decide) (by decide) (by decide)) (by decide)) (by decide)
  · split
    · exact vp_in_nI (n := 10001) (by decide) (by decide)
    · exact vp_up (vr_rem (c := 80) h2 (by decide) (by decide) (by decide)) (by decide)
theorem T6_ok (hQ : LQ ξ τ) (hI : InvX ξ) (hO : InvO ξ) (h1 : vp_in one 60000) (h2 : vp_in two 60000) : T6 τ ξ one two = 1 ∧ LQ (T6_x τ ξ one two) (T6_s τ ξ one two) ∧ InvX (T6_x τ ξ one two) ∧ InvO (T6_x τ ξ one two) := by
  have g2 : τ 7 (ix (2 : Int32)) = ξ 8 0 := hQ.g.2.2.1
  obtain ⟨n, hn6, en⟩ := vn (hI.1 8 0 : vp_in (ξ 8 0) 6) (by decide)
  have hl := hQ.lim.1
  rw [en, ixn (by omega)] at hl
  unfold T6 T6_x T6_s
  rw [g2]
  by_cases c : ξ 8 0 = 2
  · repeat rw [if_pos c]
    exact ⟨rfl, hQ, hI, hO⟩
  repeat rw [if_neg c]
  have hn : n < 2 := by
    refine Nat.lt_of_le_of_ne hl fun z => c ?_
    rw [en, z]
    rfl
  obtain ⟨hh, hc⟩ := T6_rg (τ := τ) (ξ := ξ) (one := one) (two := two) h1 h2
  have e8 : M_village_j8 ξ (T6_j872 τ ξ one two) (T6_j905 τ ξ one two) = T6_j923 τ ξ one two := by
    unfold M_village_j8 T6_j923
    have a1 := isIn_n (a := 1) (b := 500) (A := 1) (B := 500) hh (by decide) rfl rfl (by decide) (by decide)
    have a2 := isIn_n (a := 0) (b := 10000) (A := 0) (B := 10000) hc (by decide) rfl rfl (by decide) (by decide)
    have b1 := (le_n (c := 0) (N := 0) hh (by decide) (by decide) rfl).2
    have b2 := (le_n (c := 501) (N := 501) hh (by decide) (by decide) rfl).1
    have b3 := (le_n (c := 10001) (N := 10001) hc (by decide) (by decide) rfl).1
    simp only [a1, a2, b1, b2, b3]
    (repeat' split) <;> first | rfl | (exfalso; omega)
  have h5 : ¬ ξ 8 0 = 5 := by
    rw [en]
    exact fun z => absurd ((nI_eq (a := n) (b := 5) (by omega) (by decide)).mp z) (by omega)
  have i4 : ix ((4 : Int32) * ξ 8 0) = 4 * n := by
    rw [en, show (4 : Int32) = nI 4 from rfl, pk_mul, ixn (by omega)]
  have i41 : ix ((4 : Int32) * ξ 8 0 + (1 : Int32)) = 4 * n + 1 := by
    rw [en, show (4 : Int32) = nI 4 from rfl, pk_mul, nI_1, ixn (by omega)]
  have in8 : ix (ξ 8 0) = n := by rw [en, ixn (by omega)]
  refine ⟨?_, ?_, IO_village hI hO _ _⟩
  · unfold T6_j1012 T6_j998 T6_j951_s DV_5 M_village_s M_village
    by_cases d : T6_j923 τ ξ one two = 0
    · have hj : M_village_j30 ξ (T6_j872 τ ξ one two) (T6_j905 τ ξ one two) = 1 := by
        unfold M_village_j30
        rw [e8, if_pos d]
      rw [hj, if_neg (nf1 ξ), f41, if_neg i10, if_pos rfl, if_pos d]
      exact if_pos rfl
    · have hj : M_village_j30 ξ (T6_j872 τ ξ one two) (T6_j905 τ ξ one two) = 0 := by
        unfold M_village_j30
        rw [e8, if_neg d, if_neg h5]
      rw [hj, if_pos (fails_0 ξ), if_pos (fails_0 ξ), if_neg d, if_neg d, g2]
      simp (disch := decide) only [sS_col, sC_same, sC_col, fcol, f41]
      rw [if_pos trivial, sS_same]
      exact if_pos rfl
  · unfold T6_j951_s M_village_s
    by_cases d : T6_j923 τ ξ one two = 0
    · have hj : M_village_j30 ξ (T6_j872 τ ξ one two) (T6_j905 τ ξ one two) = 1 := by
        unfold M_village_j30
        rw [e8, if_pos d]
      rw [hj, if_neg (nf1 ξ), if_pos d]
      exact hQ.ext (sEq.f ξ 1)
    · have hj : M_village_j30 ξ (T6_j872 τ ξ one two) (T6_j905 τ ξ one two) = 0 := by
        unfold M_village_j30
        rw [e8, if_neg d, if_neg h5]
      rw [hj, if_pos (fails_0 ξ), if_neg d, g2, i4, i41]
      simp (disch := decide) only [sS_col, sC_same, fcol]
      rw [in8, show ix (2 : Int32) = 2 from rfl]
      exact (LQ_village hQ hn en).ext ((((sEq.f ξ 0).S _ _ _).S _ _ _).C _ _)
/-- the hours that pass -/
theorem age_ok {x s : St} {o t : Int32} {p1 : Int32} {k0 : Nat} {s0 z0 : St} : ∀ n k, k + n = ix (x 13 0) → ∀ a b : St, LQ a b → InvX a → a 13 = x 13 →
    LQ (M_pass_L50_s x p1 k0 s0 (fun s => s) n k a) (T5_L761_s s x o t k0 z0 (fun s => s) n k b) ∧ InvX (M_pass_L50_s x p1 k0 s0 (fun s => s) n k a) ∧ (M_pass_L50_s x p1 k0 s0 (fun s => s) n k a) 13 = x 13 ∧ (M_pass_L50_s x p1 k0 s0 (fun s => s) n k a) 0 = a 0 := by
  intro n
  induction n with
  | zero =>
    intro k _ a b hQ hI h13
    rw [M_pass_L50_s, T5_L761_s]
    exact ⟨hQ, hI, h13, rfl⟩
  | succ n ih =>
    intro k hk a b hQ hI h13
    have hl := hQ.lim.2.1
    have hka : k < ix (a 13 0) := by rw [h13]; omega
    have hv : vp_in (nI k) (ix (a 13 0)) := vp_in_nI hka (by omega)
    have h10 := hQ.lam hv
    have ek : ix (nI k) = k := ixn (by omega)
    rw [M_pass_L50_s, T5_L761_s, li6_4 h10, ek]
    have e : b 3 (6 * k + 4) + T5_j793 s x o t k0 z0 k b = a 23 k + M_pass_j70 x p1 k0 s0 k a := by
      rw [(hQ.l (show k < 10 by omega)).2.2.2.2.1]
      unfold T5_j793 M_pass_j70
      rw [LM_burns hQ hI hv]
    rw [e]
    obtain ⟨r1, r2, r3, r4⟩ := ih (k + 1) (by omega) _ _ (LQ_age hQ (show k < 10 by omega) (v := a 23 k + M_pass_j70 x p1 k0 s0 k a)) (InvX_sS hI trivial (show okC a 23 k from hka)) (by rw [sS_col (by decide)]; exact h13)
    exact ⟨r1, r2, r3, by rw [r4, sS_col (by decide)]⟩
theorem T5_K (s x : St) (o t : Int32) (k0 : Nat) (z0 : St) (K : St → Int32) : ∀ n k b, T5_L761 s x o t k0 z0 K n k b = K (T5_L761_s s x o t k0 z0 (fun s => s) n k b) := by
  intro n
  induction n with
  | zero => intro k b; rw [T5_L761, T5_L761_s]
  | succ n ih => intro k b; rw [T5_L761, T5_L761_s, ih]
theorem T5_Ks (s x : St) (o t : Int32) (k0 : Nat) (z0 : St) (K : St → St) : ∀ n k b, T5_L761_s s x o t k0 z0 K n k b = K (T5_L761_s s x o t k0 z0 (fun s => s) n k b) := by
  intro n
  induction n with
  | zero => intro k b; rw [T5_L761_s, T5_L761_s]
  | succ n ih => intro k b; rw [T5_L761_s, T5_L761_s, ih]
theorem T5_Kx (s x : St) (o t : Int32) (k0 : Nat) (z0 : St) (K : St → St) : ∀ n k b, T5_L761_x s x o t k0 z0 K n k b = K (T5_L761_s s x o t k0 z0 (fun s => s) n k b) := by
  intro n
  induction n with
  | zero => intro k b; rw [T5_L761_x, T5_L761_s]
  | succ n ih => intro k b; rw [T5_L761_x, T5_L761_s, ih]
theorem p50_41 {x : St} {p1 : Int32} {k0 : Nat} {s0 : St} : ∀ n k a, (M_pass_L50_s x p1 k0 s0 (fun s => s) n k a) 41 = a 41 := by
  intro n
  induction n with
  | zero => intro k a; rw [M_pass_L50_s]
  | succ n ih => intro k a; rw [M_pass_L50_s, ih, sS_col (by decide)]
theorem p43_41 {x : St} {p1 : Int32} : ∀ n k a, (M_pass_L43_s x p1 (fun s => s) n k a) 41 = a 41 := by
  intro n
  induction n with
  | zero => intro k a; rw [M_pass_L43_s]
  | succ n ih => intro k a; rw [M_pass_L43_s, p50_Ks, ih, sC_col (by decide), p50_41]
theorem pass_ok {x s : St} {o t : Int32} {p1 : Int32} (hr : ¬ T5_j725 s x o t = 0) (KL : St → Int32) (KS KX : St → St) : ∀ n k, ∀ a b : St, LQ a b → InvX a → a 13 = x 13 → ix (a 0 0) + n ≤ 20000 →
    ∃ b' : St, LQ (M_pass_L43_s x p1 (fun s => s) n k a) b' ∧ M_pass_L43 x p1 (fun s => s 0 0) n k a = b' 7 0 ∧ T5_L746 s x o t KL n k b = KL b' ∧ T5_L746_s s x o t KS n k b = KS b' ∧ T5_L746_x s x o t KX n k b = KX b' := by
  intro n
  induction n with
  | zero =>
    intro k a b hQ hI h13 _
    rw [M_pass_L43_s, M_pass_L43, T5_L746, T5_L746_s, T5_L746_x]
    exact ⟨b, hQ, hQ.g.1.symm, rfl, rfl, rfl⟩
  | succ n ih =>
    intro k a b hQ hI h13 ht
    have g3 : b 7 (ix (3 : Int32)) = a 13 0 := hQ.g.2.2.2.1
    obtain ⟨r1, r2, r3, r4⟩ := age_ok (x := x) (s := s) (o := o) (t := t) (p1 := p1) (k0 := k) (s0 := a) (z0 := b) (ix (x 13 0)) 0 (Nat.zero_add _) a b hQ hI h13
    rw [M_pass_L43_s, p50_Ks, M_pass_L43, p50_K, T5_L746, if_neg hr, T5_K, T5_L746_s, if_neg hr, T5_Ks s x o t k b (fun s761 => T5_L746_s s x o t KS n (k + 1) (sS s761 7 (ix (0 : Int32)) (s761 7 (ix (0 : Int32)) + (1 : Int32)))), T5_L746_x, if_neg hr, T5_Kx, g3, h13]
    generalize M_pass_L50_s x p1 k a (fun s => s) (ix (x 13 0)) 0 a = a' at *
    generalize T5_L761_s s x o t k b (fun s => s) (ix (x 13 0)) 0 b = b' at *
    have e7 : b' 7 (ix (0 : Int32)) = a' 0 0 := r1.g.1
    have e0 : a' 0 0 + 1 = nI (ix (a 0 0) + 1) := by rw [r4, vp_nI' (hI.1 0 0 : vp_in (a 0 0) 20001) (by decide), nI_1, ixn (by have := vp_lt (hI.1 0 0 : vp_in (a 0 0) 20001); omega)]
    rw [e7, show ix (0 : Int32) = 0 from rfl]
    exact ih (k + 1) _ _ (LQ_time r1) (InvX_sC r2 (by show vp_in (a' 0 0 + 1) 20001; rw [e0]; exact vp_in_nI (by omega) (by decide)) (Or.inl rfl)) (by rw [sC_col (by decide)]; exact r3) (by rw [sC_same, e0, ixn (by omega)]; omega)
theorem T5_ok (hQ : LQ ξ τ) (hI : InvX ξ) (hO : InvO ξ) (h1 : vp_in one 60000) (h2 : vp_in two 60000) (ht : ix (ξ 0 0) ≤ 19700) : T5 τ ξ one two = 1 ∧ LQ (T5_x τ ξ one two) (T5_s τ ξ one two) ∧ InvX (T5_x τ ξ one two) ∧ InvO (T5_x τ ξ one two) := by
  have hh := T5_hr (σ := τ) (ξ := ξ) (one := one) h1 h2
  have e8 : M_isIn (T5_j682 τ ξ one two) 1 500 = T5_j725 τ ξ one two := by
    have a1 := isIn_n (a := 1) (b := 500) (A := 1) (B := 500) hh (by decide) rfl rfl (by decide) (by decide)
    have b1 := (le_n (c := 0) (N := 0) hh (by decide) (by decide) rfl).2
    have b2 := (le_n (c := 501) (N := 501) hh (by decide) (by decide) rfl).1
    rcases M_isIn_b (T5_j682 τ ξ one two) 1 500 with z | z
    · have h0 := a1.mp z
      unfold T5_j725
      rw [z]
      by_cases w : T5_j682 τ ξ one two ≤ 0
      · rw [if_pos w]
      · have hw : ¬ ix (T5_j682 τ ξ one two) ≤ 0 := fun q => w (b1.mpr q)
        rw [if_neg w, if_pos (b2.mpr (by omega))]
    · have hn : 1 ≤ ix (T5_j682 τ ξ one two) ∧ ix (T5_j682 τ ξ one two) ≤ 500 := Classical.byContradiction fun q => by
        have := a1.mpr q
        rw [z] at this
        exact i10 this
      unfold T5_j725
      rw [z, if_neg (fun q => by have := b1.mp q; omega), if_neg (fun q => by have := b2.mp q; omega)]
  by_cases d : T5_j725 τ ξ one two = 0
  · have hj : M_pass_j9 ξ (T5_j682 τ ξ one two) = 1 := by
      unfold M_pass_j9
      rw [e8, if_pos d]
    have hx : M_pass_s ξ (T5_j682 τ ξ one two) = M_fails_s ξ 1 := by
      unfold M_pass_s
      rw [hj, if_neg (nf1 ξ)]
    have key : ∀ n, T5_L746 τ ξ one two (fun s746 => T5_j848 τ ξ one two s746) n 0 τ = T5_j848 τ ξ one two τ ∧ T5_L746_s τ ξ one two (fun s => s) n 0 τ = τ ∧ T5_L746_x τ ξ one two (fun _ => M_pass_s ξ (T5_j682 τ ξ one two)) n 0 τ = M_pass_s ξ (T5_j682 τ ξ one two) := by
      intro n
      cases n with
      | zero => rw [T5_L746, T5_L746_s, T5_L746_x]; exact ⟨rfl, rfl, rfl⟩
      | succ n => rw [T5_L746, T5_L746_s, T5_L746_x, if_pos d, if_pos d, if_pos d]; exact ⟨rfl, rfl, rfl⟩
    obtain ⟨k1, k2, k3⟩ := key (ix (T5_j682 τ ξ one two))
    unfold T5 T5_s T5_x
    rw [k1, k2, k3]
    refine ⟨?_, ?_, IO_pass hI hO _⟩
    · unfold T5_j848 T5_j836 DV_4
      rw [hx, f41, if_neg i10, if_pos rfl, if_pos d]
      exact if_pos rfl
    · rw [hx]
      exact hQ.ext (sEq.f ξ 1)
  · have h300 := vp_lt (T5_300 (σ := τ) (ξ := ξ) (one := one) (two := two) h2 d)
    have hsum : ξ 0 0 + T5_j682 τ ξ one two ≤ 20000 := by
      rw [vp_nI' (hI.1 0 0 : vp_in (ξ 0 0) 20001) (by decide), vp_nI' hh (by decide), nI_add]
      exact nI_le (b := 20000) (by omega) (by decide)
    have hj : M_pass_j9 ξ (T5_j682 τ ξ one two) = 0 := by
      unfold M_pass_j9
      rw [e8, if_neg d, if_pos hsum]
    obtain ⟨b', p1, p2, p3, p4, p5⟩ := pass_ok (p1 := T5_j682 τ ξ one two) d (fun s746 => T5_j848 τ ξ one two s746) (fun s => s) (fun _ => M_pass_s ξ (T5_j682 τ ξ one two)) (ix (T5_j682 τ ξ one two)) 0 (M_fails_s ξ 0) τ (hQ.ext (sEq.f ξ 0)) (IO_A hI hO 0).1 (fcol ξ 0 (by decide)) (by rw [fcol ξ 0 (by decide)]; omega)
    have hx : M_pass_s ξ (T5_j682 τ ξ one two) = M_pass_L43_s ξ (T5_j682 τ ξ one two) (fun s => s) (ix (T5_j682 τ ξ one two)) 0 (M_fails_s ξ 0) := by
      unfold M_pass_s
      rw [hj, if_pos (fails_0 ξ)]
    have hv : M_pass ξ (T5_j682 τ ξ one two) = b' 7 0 := by
      unfold M_pass
      rw [hj, if_pos (fails_0 ξ)]
      exact p2
    have h41 : M_pass_s ξ (T5_j682 τ ξ one two) 41 0 = 0 := by
      rw [hx, p43_41]
      exact f41 ξ 0
    unfold T5 T5_s T5_x
    rw [p3, p4, p5]
    refine ⟨?_, by rw [hx]; exact p1, IO_pass hI hO _⟩
    unfold T5_j848 T5_j836 DV_4
    rw [h41, if_pos rfl, if_neg d, hv]
    exact if_pos rfl
end OPT2
end
