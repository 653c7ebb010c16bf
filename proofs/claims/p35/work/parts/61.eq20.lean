noncomputable section
theorem shine_L {σ μ : St} {v : Int32} {j : Nat} : ∀ n k s, k + n = 64 → ∀ p, p < 64 → X_shine_L2_s σ μ v j (fun s => s) n k s 10 p = (if p < k then s 10 p else s 10 p + X_weakened v (nI (p % 8) - nI (j % 8)) (nI (p / 8) - nI (j / 8))) := by
  intro n
  induction n with
  | zero =>
    intro k s hk p hp
    rw [X_shine_L2_s, if_pos (by omega)]
  | succ n ih =>
    intro k s hk p hp
    rw [X_shine_L2_s, ih (k + 1) _ (by omega) p hp, ixn (a := k) (by omega), rm8 (a := k) (by omega), q8 (a := k) (by omega)]
    by_cases e : p = k
    · subst e
      rw [if_pos (by omega), if_neg (by omega), sS_same]
    · rw [sS_ne (fun _ => e)]
      by_cases d : p < k
      · rw [if_pos d, if_pos (by omega)]
      · rw [if_neg d, if_neg (by omega)]
theorem way_g {σ μ : St} (hI : InvX σ) {p1 p2 p3 : Int32} {p : Nat} (hp : p < 64) : ∀ n k s, X_way_L29_s σ μ p1 p2 p3 (fun s => s) n k s 10 p = M_groundOf_L4 σ (nI p) (fun a => a) n k (s 10 p) := by
  intro n
  induction n with
  | zero => intro k s; rw [X_way_L29_s, M_groundOf_L4]
  | succ n ih =>
    intro k s
    rw [X_way_L29_s, M_groundOf_L4, ih]
    congr 1
    unfold X_way_j61_s M_groundOf_j18
    rw [burns_eq hI]
    by_cases c : M_burns σ (nI k) = 0
    · rw [if_pos c, if_pos c, Int32.add_zero]
    · rw [if_neg c, if_neg c]
      unfold X_shine_s
      rw [n64_eq, shine_L 64 0 s rfl p hp, if_neg (Nat.not_lt_zero _), light_eq]
      have h := weak_eq hI (p1 := nI k) (p2 := nI p) (vp_in_nI (N := 64) (by omega) (by omega)) (M_light σ (nI k))
      rw [ixn (a := p) (by omega)] at h
      rw [h]
theorem way_K (σ μ : St) (p1 p2 p3 : Int32) (K : St → Int32) : ∀ n k s, X_way_L29 σ μ p1 p2 p3 K n k s = K (X_way_L29_s σ μ p1 p2 p3 (fun s => s) n k s) := by
  intro n
  induction n with
  | zero => intro k s; rw [X_way_L29, X_way_L29_s]
  | succ n ih => intro k s; rw [X_way_L29, X_way_L29_s, ih]
theorem way_c (σ μ : St) (p1 p2 p3 : Int32) (v : Int32) : ∀ n k s, X_way_L29_c σ μ p1 p2 p3 (fun _ => v) n k s = v := by
  intro n
  induction n with
  | zero => intro k s; rw [X_way_L29_c]
  | succ n ih => intro k s; rw [X_way_L29_c, ih]
theorem wR_cong {dk dk' : Nat → Prop} {f : Nat} (hf : f < 64) (h : ∀ q, q < 64 → (dk q ↔ dk' q)) : ∀ t p, p < 64 → (wR dk f t p ↔ wR dk' f t p) := by
  intro t
  induction t with
  | zero =>
    intro p hp
    exact ⟨fun ⟨a, b⟩ => ⟨a, (h p hp).mp b⟩, fun ⟨a, b⟩ => ⟨a, (h p hp).mpr b⟩⟩
  | succ t ih =>
    intro p hp
    exact ⟨fun ⟨a, q, b, c, d⟩ => ⟨(h p hp).mp a, q, b, c, (ih q b).mp d⟩, fun ⟨a, q, b, c, d⟩ => ⟨(h p hp).mpr a, q, b, c, (ih q b).mpr d⟩⟩
theorem nz_all {f : Nat → Int32} : ∀ n, (∀ p, p < n → f p = -1) → nz f n = 0 := by
  intro n
  induction n with
  | zero => intro _; rfl
  | succ n ih =>
    intro h
    show nz f n + (if f n = -1 then 0 else 1) = 0
    rw [ih (fun p hp => h p (by omega)), if_pos (h n (by omega))]
theorem WB_0 {σ s : St} {b : Int32} {f : Nat} (hf : f < 64) : ∃ c, WB (s 10) b f 0 c (X_reach_s σ (sS (sF s 11 (-1)) 1 0 0) (nI f) 0 b) := by
  have f11 : ∀ p, p < 64 → sS (sF s 11 (-1)) 1 0 0 11 p = -1 := fun p hp => by
    rw [sS_col (by decide)]
    unfold sF
    rw [sU_same, if_pos hp]
  have f10 : sS (sF s 11 (-1)) 1 0 0 10 = s 10 := by
    rw [sS_col (by decide)]
    unfold sF
    rw [sU_ne (by decide)]
  have f1 : sS (sF s 11 (-1)) 1 0 0 1 0 = nI 0 := sS_same ..
  generalize sS (sF s 11 (-1)) 1 0 0 = s0 at *
  have ef : ix (nI f) = f := ixn (by omega)
  unfold X_reach_s
  rw [if_neg (nIlt (a := f) (by omega)), if_neg (show ¬ (64 : Int32) ≤ nI f from fun z => absurd ((nI_leI (a := 64) (b := f) (by omega) (by omega)).mp z) (by omega)), f1, if_neg (by decide), if_pos (by decide)]
  unfold X_reach_j37_s
  rw [ef, if_pos (f11 f hf), f10]
  by_cases d : b < s 10 f
  · rw [if_pos d]
    refine ⟨0, f1, (nz_all 64 f11).symm, fun j hj => absurd hj (Nat.not_lt_zero _), fun p hp ho => absurd (f11 p hp) ho, fun j j' _ hj => absurd hj (Nat.not_lt_zero _), fun j hj => absurd hj (Nat.not_lt_zero _), fun j hj => absurd hj (Nat.not_lt_zero _), fun z => absurd d (not_lt32.mpr z), f10⟩
  · rw [if_neg d]
    simp only [sS_col (show (1 : Nat) ≠ 11 by decide), sS_col (show (1 : Nat) ≠ 12 by decide)]
    rw [f1, show ix (nI 0) = 0 from rfl, show nI 0 + 1 = nI 1 from rfl]
    have g11 : ∀ p, sS (sS (sS s0 11 f 0) 12 0 (nI f)) 1 0 (nI 1) 11 p = sS s0 11 f 0 11 p := fun p => by
      rw [sS_col (show (11 : Nat) ≠ 1 by decide), sS_col (show (11 : Nat) ≠ 12 by decide)]
    have g12 : sS (sS (sS s0 11 f 0) 12 0 (nI f)) 1 0 (nI 1) 12 0 = nI f := by
      rw [sS_col (show (12 : Nat) ≠ 1 by decide), sS_same]
    have g1 : sS (sS (sS s0 11 f 0) 12 0 (nI f)) 1 0 (nI 1) 1 0 = nI 1 := sS_same ..
    have g10 : sS (sS (sS s0 11 f 0) 12 0 (nI f)) 1 0 (nI 1) 10 = s 10 := by
      rw [sS_col (show (10 : Nat) ≠ 1 by decide), sS_col (show (10 : Nat) ≠ 12 by decide), sS_col (show (10 : Nat) ≠ 11 by decide), f10]
    generalize sS (sS (sS s0 11 f 0) 12 0 (nI f)) 1 0 (nI 1) = s' at *
    have of' : s' 11 f = 0 := by rw [g11, sS_same]
    have op : ∀ p, p < 64 → p ≠ f → s' 11 p = -1 := fun p hp w => by rw [g11, sS_ne (fun _ => w)]; exact f11 p hp
    have on' : onS s' f := by
      unfold onS
      rw [of']
      decide
    have r0 : rN s' 0 = f := by
      unfold rN
      rw [g12, ef]
    have t0 : tN s' f = 0 := by
      unfold tN
      rw [of']
      rfl
    have ep : ∀ p, p < 64 → onS s' p → p = f := fun p hp ho => Classical.byContradiction fun w => ho (op p hp w)
    refine ⟨1, g1, ?_, ?_, ?_, ?_, ?_, fun j hj => absurd hj (Nat.not_lt_zero _), fun _ => ⟨on', t0⟩, g10⟩
    · rw [nz_upd (f := fun p => if p = f then -1 else s' 11 p) (g := s' 11) (q := f) (if_pos rfl) on' (fun p w => (if_neg w).symm) 64 hf, nz_all 64 (fun p hp => by
        by_cases w : p = f
        · exact if_pos w
        · exact (if_neg w).trans (op p hp w))]
    · intro j hj
      have : j = 0 := by omega
      subst this
      rw [r0]
      exact ⟨hf, g12, on', by rw [t0]; exact Nat.le_refl _⟩
    · intro p hp ho
      have := ep p hp ho
      subst this
      rw [t0]
      exact ⟨⟨0, by omega, r0⟩, of', by omega, rfl, not_lt32.mp d⟩
    · intro j j' hj hj'
      have : j' = 0 := by omega
      subst this
      have : j = 0 := by omega
      subst this
      exact Nat.le_refl _
    · intro j hj _
      have : j = 0 := by omega
      subst this
      omega
theorem way_eq {σ μ : St} (hI : InvX σ) {p1 p2 p3 : Int32} (h1 : vp_in p1 64) (h2 : vp_in p2 64) {s106 : St} (hw : wI (fun q => M_groundOf σ (nI q) ≤ p3) (ix p1) 64 (s106 40)) (s57 : St) : M_way_j275 σ p1 p2 p3 s57 s106 = X_leastSteps σ (X_way_L29_s σ μ p1 p2 p3 (fun s => s) (xL σ 3) 0 (X_darken_s σ μ)) p1 p2 p3 := by
  have l1 := vp_lt h1
  have l2 := vp_lt h2
  have e2 := vp_nI' h2 (by decide)
  have e1 := vp_nI' h1 (by decide)
  have hg : ∀ p, p < 64 → X_way_L29_s σ μ p1 p2 p3 (fun s => s) (xL σ 3) 0 (X_darken_s σ μ) 10 p = M_groundOf σ (nI p) := fun p hp => by
    rw [way_g hI hp]
    unfold X_darken_s sF
    rw [sU_same, if_pos hp]
    rfl
  generalize X_way_L29_s σ μ p1 p2 p3 (fun s => s) (xL σ 3) 0 (X_darken_s σ μ) = s at *
  unfold X_leastSteps
  rw [show X_reach_s σ (sS (sF s 11 (-1)) 1 0 0) p1 0 p3 = X_reach_s σ (sS (sF s 11 (-1)) 1 0 0) (nI (ix p1)) 0 p3 by rw [← e1]]
  obtain ⟨c, hB⟩ := WB_0 (σ := σ) (s := s) (b := p3) l1
  rw [n64_eq]
  obtain ⟨s', c', i', q1, q2, q3⟩ := least_L (σ := σ) (μ := s) (p1 := p1) (p2 := p2) (fun s23 => (if p2 < (0 : Int32) then (-1 : Int32) else (if (64 : Int32) ≤ p2 then (-1 : Int32) else (s23 11 (ix p2))))) 64 0 c _ (Nat.zero_add _) hB
  rw [q1, if_neg (show ¬ p2 < 0 by rw [e2]; exact nIlt (by omega)), if_neg (show ¬ (64 : Int32) ≤ p2 from fun z => by
    rw [e2] at z
    exact absurd ((nI_leI (a := 64) (b := ix p2) (by omega) (by omega)).mp z) (by omega))]
  have hend := WB_end q2 q3
  have hsound := q2.2.2.2.1 (ix p2) l2
  have hc := wR_cong (dk := fun q => s 10 q ≤ p3) (dk' := fun q => M_groundOf σ (nI q) ≤ p3) l1 (fun q hq => by rw [hg q hq])
  unfold M_way_j275
  by_cases o : onS s' (ix p2)
  · obtain ⟨_, a2, a3, a4⟩ := hsound o
    have a4' := (hc _ _ l2).mp a4
    rcases (hw (ix p2) l2).2 (wR_dk a4') with ⟨_, b2⟩ | ⟨t, b1, b2, b3, b4⟩
    · exact absurd a4' (b2 _ (by omega))
    · have := (hend t (ix p2) l2 ((hc _ _ l2).mpr b3)).2
      have e : tN s' (ix p2) = t := by
        rcases Nat.lt_or_ge (tN s' (ix p2)) t with w | w
        · exact absurd a4' (b4 _ w)
        · omega
      rw [a2, e, b2, if_pos (not_lt32.mp (nIlt (by omega)))]
  · have no : ∀ t, ¬ wR (fun q => M_groundOf σ (nI q) ≤ p3) (ix p1) t (ix p2) := fun t z => o (hend t (ix p2) l2 ((hc _ _ l2).mpr z)).1
    rw [show s' 11 (ix p2) = -1 from Classical.byContradiction o]
    by_cases d : M_groundOf σ (nI (ix p2)) ≤ p3
    · rcases (hw (ix p2) l2).2 d with ⟨b1, _⟩ | ⟨t, _, _, b3, _⟩
      · rw [b1, if_neg (by decide)]
      · exact absurd b3 (no t)
    · rw [(hw (ix p2) l2).1 d, if_neg (by decide)]
theorem Q_way {σ : St} (hI : InvX σ) (μ : St) (p1 p2 p3 : Int32) : EQ σ (X_way_c σ μ p1 p2 p3) (X_way σ μ p1 p2 p3) σ (M_way σ p1 p2 p3) (M_way_s σ p1 p2 p3) 1 2 0 := by
  unfold X_way_c X_way M_way M_way_s
  by_cases c : vp_in p1 64
  · repeat rw [if_pos c]
    by_cases d : vp_in p2 64
    · repeat rw [if_pos d]
      have j4 : M_way_j4 σ p1 p2 p3 = 1 := by
        unfold M_way_j4
        rw [if_neg (fun z => place_iff.mp z c), if_neg (fun z => place_iff.mp z d)]
      by_cases e : M_isIn p3 (0 : Int32) (100000 : Int32) = 0
      · have hj : M_way_j24 σ p1 p2 p3 = 2 := by
          unfold M_way_j24
          rw [j4, if_neg i10, if_pos e]
        rw [hj]
        repeat rw [if_pos e]
        repeat rw [if_neg (nf2 σ)]
        exact EQ.f2 rfl (sEq.f σ 2)
      · have hj : M_way_j24 σ p1 p2 p3 = 0 := by
          unfold M_way_j24
          rw [j4, if_neg i10, if_neg e]
        rw [hj, way_c, way_K]
        repeat rw [if_neg e]
        repeat rw [if_pos (fails_0 σ)]
        rw [n64_eq]
        obtain ⟨s57, a1, a2, a3, a4, a5⟩ := w57 (σ := σ) (p1 := p1) (p2 := p2) (b := p3) (fun s57 => M_way_L106 σ p1 p2 p3 s57 (fun s106 => M_way_j275 σ p1 p2 p3 s57 s106) 64 0 s57) (fun s57 => M_way_L106_s σ p1 p2 p3 s57 (fun s106 => s106) 64 0 s57) 64 0 (M_fails_s σ 0) (Nat.zero_add _) (sEq.f σ 0) (fun p hp => absurd hp (Nat.not_lt_zero _))
        rw [a4, a5]
        obtain ⟨s106, b1, b2, b3, b4, b5⟩ := w106 (σ := σ) (p1 := p1) (p2 := p2) (b := p3) (s57 := s57) (fun s106 => M_way_j275 σ p1 p2 p3 s57 s106) (fun s106 => s106) 64 0 s57 (Nat.zero_add _) a1 (wI_0 c a3)
        rw [b4, b5]
        exact EQ.ok (by rw [b2, a2]; rfl) (way_eq hI c d b3 s57) b1
    · have hj : M_way_j24 σ p1 p2 p3 = 1 := by
        unfold M_way_j24 M_way_j4
        rw [if_neg (fun z => place_iff.mp z c), if_pos (place_iff.mpr d), if_pos rfl]
      rw [hj]
      repeat rw [if_neg d]
      repeat rw [if_neg (nf1 σ)]
      exact EQ.f1 rfl (sEq.f σ 1)
  · have hj : M_way_j24 σ p1 p2 p3 = 1 := by
      unfold M_way_j24 M_way_j4
      rw [if_pos (place_iff.mpr c), if_pos rfl]
    rw [hj]
    repeat rw [if_neg c]
    repeat rw [if_neg (nf1 σ)]
    exact EQ.f1 rfl (sEq.f σ 1)
end
