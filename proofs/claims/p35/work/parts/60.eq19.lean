noncomputable section
theorem ground_c {s s' : St} (h : sEq s s') (p : Int32) : M_groundOf s p = M_groundOf s' p := by
  have e : ∀ n k a, M_groundOf_L4 s p (fun a => a) n k a = M_groundOf_L4 s' p (fun a => a) n k a := by
    intro n
    induction n with
    | zero => intro k a; rw [M_groundOf_L4, M_groundOf_L4]
    | succ n ih =>
      intro k a
      rw [M_groundOf_L4, M_groundOf_L4, ih]
      congr 2
      rw [h.mix]
      rfl
  unfold M_groundOf
  rw [e, h 13 (by decide)]
theorem sEq.S40 {s s' : St} (h : sEq s s') (i : Nat) (v : Int32) : sEq (sS s 40 i v) s' := fun k hk => by
  rw [sS_col (by omega)]
  exact h k hk
/-- the reference's steps at first -/
def w0 (σ : St) (p1 b : Int32) (p : Nat) : Int32 := if M_groundOf σ (nI p) ≤ b then (if nI p = p1 then 0 else -1) else -2
theorem w57 {σ : St} {p1 p2 b : Int32} (K : St → Int32) (Ks : St → St) : ∀ n k s, k + n = 64 → sEq s σ → (∀ p, p < k → s 40 p = w0 σ p1 b p) → ∃ s', sEq s' σ ∧ s' 41 = s 41 ∧ (∀ p, p < 64 → s' 40 p = w0 σ p1 b p) ∧ M_way_L57 σ p1 p2 b K n k s = K s' ∧ M_way_L57_s σ p1 p2 b Ks n k s = Ks s' := by
  intro n
  induction n with
  | zero =>
    intro k s hk h h0
    rw [M_way_L57, M_way_L57_s]
    exact ⟨s, h, rfl, fun p hp => h0 p (by omega), rfl, rfl⟩
  | succ n ih =>
    intro k s hk h h0
    rw [M_way_L57, M_way_L57_s, ixn (a := k) (by omega)]
    obtain ⟨s', a1, a2, a3, a4, a5⟩ := ih (k + 1) (sS s 40 k (M_way_j77 σ p1 p2 b k s)) (by omega) (h.S40 _ _) (fun p hp => by
      by_cases e : p = k
      · subst e
        rw [sS_same]
        unfold M_way_j77 w0
        rw [ground_c h]
      · rw [sS_ne (fun _ => e)]
        exact h0 p (by omega))
    exact ⟨s', a1, by rw [a2, sS_col (by decide)], a3, a4, a5⟩
/-- a place's steps after round r -/
def wN (st : Nat → Int32) (r p : Nat) : Int32 := @ite _ (st p = -1 ∧ ∃ q, q < 64 ∧ adj p q ∧ st q = nI r) (Classical.propDecidable _) (nI (r + 1)) (st p)
theorem w128 {σ : St} {p1 p2 b : Int32} {s57 s106 : St} {r k : Nat} (hk : k < 64) (s : St) : M_way_j128 σ p1 p2 b s57 r s106 k s = 0 ↔ ¬ ∃ q, q < 64 ∧ adj k q ∧ s 40 q = nI r := by
  unfold M_way_j128
  have le0 : (nI (k % 8) ≤ 0) ↔ k % 8 = 0 := by
    have := nI_leI (a := k % 8) (b := 0) (by omega) (by omega)
    exact ⟨fun z => by have := this.mp z; omega, fun z => this.mpr (by omega)⟩
  have le7 : ((7 : Int32) ≤ nI (k % 8)) ↔ 7 ≤ k % 8 := nI_leI (a := 7) (b := k % 8) (by omega) (by omega)
  have le7' : (nI k ≤ 7) ↔ k ≤ 7 := nI_leI (a := k) (b := 7) (by omega) (by omega)
  have le56 : ((56 : Int32) ≤ nI k) ↔ 56 ≤ k := nI_leI (a := 56) (b := k) (by omega) (by omega)
  have e1 : ix (nI k + 1) = k + 1 := by rw [nI_1, ixn (by omega)]
  have e8 : ix (nI k + 8) = k + 8 := by rw [show nI k + 8 = nI (k + 8) from nI_add k 8, ixn (by omega)]
  have em1 : 1 ≤ k → ix (nI k - 1) = k - 1 := fun h => by rw [show nI k - 1 = nI (k - 1) from pk_sub (a := k) (b := 1) h, ixn (by omega)]
  have em8 : 8 ≤ k → ix (nI k - 8) = k - 8 := fun h => by rw [show nI k - 8 = nI (k - 8) from pk_sub (a := k) (b := 8) h, ixn (by omega)]
  rw [rm8 (a := k) (by omega), e1, e8]
  have yes : ∀ q, q < 64 → adj k q → s 40 q = nI r → ((1 : Int32) = 0 ↔ ¬ ∃ q, q < 64 ∧ adj k q ∧ s 40 q = nI r) := fun q a1 a2 a3 => ⟨fun z => absurd z i10, fun z => absurd ⟨q, a1, a2, a3⟩ z⟩
  have no : (∀ q, q < 64 → adj k q → ¬ s 40 q = nI r) → ((0 : Int32) = 0 ↔ ¬ ∃ q, q < 64 ∧ adj k q ∧ s 40 q = nI r) := fun h => ⟨fun _ z => by obtain ⟨q, a1, a2, a3⟩ := z; exact h q a1 a2 a3, fun _ => rfl⟩
  by_cases d1 : k % 8 = 0
  · rw [if_pos (le0.mpr d1)]
    by_cases d2 : 7 ≤ k % 8
    · omega
    rw [if_neg (fun z => d2 (le7.mp z))]
    by_cases a2 : s 40 (k + 1) = nI r
    · rw [if_pos a2]
      exact yes (k + 1) (by omega) (by unfold adj; omega) a2
    rw [if_neg a2]
    by_cases d3 : k ≤ 7
    · rw [if_pos (le7'.mpr d3)]
      rw [if_neg (fun z => absurd (le56.mp z) (by omega))]
      by_cases a4 : s 40 (k + 8) = nI r
      · rw [if_pos a4]
        exact yes (k + 8) (by omega) (by unfold adj; omega) a4
      rw [if_neg a4]
      refine no fun q hq ha z => ?_
      rcases ha with w | w | w | w
      · omega
      · exact a2 (w.2 ▸ z)
      · omega
      · exact a4 (w ▸ z)
    rw [if_neg (fun z => d3 (le7'.mp z)), em8 (by omega)]
    by_cases a3 : s 40 (k - 8) = nI r
    · rw [if_pos a3]
      exact yes (k - 8) (by omega) (by unfold adj; omega) a3
    rw [if_neg a3]
    by_cases d4 : 56 ≤ k
    · rw [if_pos (le56.mpr d4)]
      refine no fun q hq ha z => ?_
      rcases ha with w | w | w | w
      · omega
      · exact a2 (w.2 ▸ z)
      · exact a3 ((by omega : q = k - 8) ▸ z)
      · omega
    rw [if_neg (fun z => d4 (le56.mp z))]
    by_cases a4 : s 40 (k + 8) = nI r
    · rw [if_pos a4]
      exact yes (k + 8) (by omega) (by unfold adj; omega) a4
    rw [if_neg a4]
    refine no fun q hq ha z => ?_
    rcases ha with w | w | w | w
    · omega
    · exact a2 (w.2 ▸ z)
    · exact a3 ((by omega : q = k - 8) ▸ z)
    · exact a4 (w ▸ z)
  rw [if_neg (fun z => d1 (le0.mp z)), em1 (by omega)]
  by_cases a1 : s 40 (k - 1) = nI r
  · rw [if_pos a1]
    exact yes (k - 1) (by omega) (by unfold adj; omega) a1
  rw [if_neg a1]
  have k2 : ∀ X Y : Int32, (¬ k % 8 < 7 ∨ ¬ s 40 (k + 1) = nI r → (Y = 0 ↔ ¬ ∃ q, q < 64 ∧ adj k q ∧ s 40 q = nI r)) → ((if (7 : Int32) ≤ nI (k % 8) then Y else if s 40 (k + 1) = nI r then 1 else Y) = 0 ↔ ¬ ∃ q, q < 64 ∧ adj k q ∧ s 40 q = nI r) := fun X Y h => by
    by_cases d2 : 7 ≤ k % 8
    · rw [if_pos (le7.mpr d2)]
      exact h (Or.inl (by omega))
    rw [if_neg (fun z => d2 (le7.mp z))]
    by_cases a2 : s 40 (k + 1) = nI r
    · rw [if_pos a2]
      exact yes (k + 1) (by omega) (by unfold adj; omega) a2
    rw [if_neg a2]
    exact h (Or.inr a2)
  refine k2 0 _ fun h2 => ?_
  have z2 : ∀ q, q < 64 → k % 8 < 7 ∧ q = k + 1 → ¬ s 40 q = nI r := fun q _ w z => by
    rcases h2 with y | y
    · exact y w.1
    · exact y (w.2 ▸ z)
  by_cases d3 : k ≤ 7
  · rw [if_pos (le7'.mpr d3), if_neg (fun z => absurd (le56.mp z) (by omega))]
    by_cases a4 : s 40 (k + 8) = nI r
    · rw [if_pos a4]
      exact yes (k + 8) (by omega) (by unfold adj; omega) a4
    rw [if_neg a4]
    refine no fun q hq ha z => ?_
    rcases ha with w | w | w | w
    · exact a1 ((by omega : q = k - 1) ▸ z)
    · exact z2 q hq w z
    · omega
    · exact a4 (w ▸ z)
  rw [if_neg (fun z => d3 (le7'.mp z)), em8 (by omega)]
  by_cases a3 : s 40 (k - 8) = nI r
  · rw [if_pos a3]
    exact yes (k - 8) (by omega) (by unfold adj; omega) a3
  rw [if_neg a3]
  by_cases d4 : 56 ≤ k
  · rw [if_pos (le56.mpr d4)]
    refine no fun q hq ha z => ?_
    rcases ha with w | w | w | w
    · exact a1 ((by omega : q = k - 1) ▸ z)
    · exact z2 q hq w z
    · exact a3 ((by omega : q = k - 8) ▸ z)
    · omega
  rw [if_neg (fun z => d4 (le56.mp z))]
  by_cases a4 : s 40 (k + 8) = nI r
  · rw [if_pos a4]
    exact yes (k + 8) (by omega) (by unfold adj; omega) a4
  rw [if_neg a4]
  refine no fun q hq ha z => ?_
  rcases ha with w | w | w | w
  · exact a1 ((by omega : q = k - 1) ▸ z)
  · exact z2 q hq w z
  · exact a3 ((by omega : q = k - 8) ▸ z)
  · exact a4 (w ▸ z)
theorem nI_ne {a b : Nat} (ha : a < 1000) (hb : b < 1000) (h : a ≠ b) : ¬ nI a = nI b := fun z => h (by rw [← ixn (a := a) (by omega), z, ixn (by omega)])
theorem wN_iff {st : Nat → Int32} {r p : Nat} (hr : r < 100) : wN st r p = nI r ↔ st p = nI r := by
  unfold wN
  by_cases c : st p = -1 ∧ ∃ q, q < 64 ∧ adj p q ∧ st q = nI r
  · rw [if_pos c, c.1]
    exact ⟨fun z => absurd z (nI_ne (by omega) (by omega) (by omega)), fun z => absurd z.symm (nIne r (by omega))⟩
  · rw [if_neg c]
theorem w116 {σ : St} {p1 p2 b : Int32} {s57 s106 : St} {r : Nat} (hr : r < 100) (st : Nat → Int32) (K : St → Int32) (Ks : St → St) : ∀ n k s, k + n = 64 → sEq s σ → (∀ p, p < k → s 40 p = wN st r p) → (∀ p, k ≤ p → p < 64 → s 40 p = st p) → ∃ s', sEq s' σ ∧ s' 41 = s 41 ∧ (∀ p, p < 64 → s' 40 p = wN st r p) ∧ M_way_L116 σ p1 p2 b s57 r s106 K n k s = K s' ∧ M_way_L116_s σ p1 p2 b s57 r s106 Ks n k s = Ks s' := by
  intro n
  induction n with
  | zero =>
    intro k s hk h h0 _
    rw [M_way_L116, M_way_L116_s]
    exact ⟨s, h, rfl, fun p hp => h0 p (by omega), rfl, rfl⟩
  | succ n ih =>
    intro k s hk h h0 h1
    rw [M_way_L116, M_way_L116_s, ixn (a := k) (by omega)]
    have hit : (∃ q, q < 64 ∧ adj k q ∧ s 40 q = nI r) ↔ ∃ q, q < 64 ∧ adj k q ∧ st q = nI r := by
      have e : ∀ q, q < 64 → (s 40 q = nI r ↔ st q = nI r) := fun q hq => by
        by_cases w : q < k
        · rw [h0 q w, wN_iff hr]
        · rw [h1 q (by omega) hq]
      exact ⟨fun ⟨q, a1, a2, a3⟩ => ⟨q, a1, a2, (e q a1).mp a3⟩, fun ⟨q, a1, a2, a3⟩ => ⟨q, a1, a2, (e q a1).mpr a3⟩⟩
    have hv : M_way_j234 σ p1 p2 b s57 r s106 k s = wN st r k := by
      unfold M_way_j234 wN
      rw [ixn (a := k) (by omega), h1 k (Nat.le_refl _) (by omega), nI_1]
      by_cases c : st k = -1
      · rw [if_pos c]
        by_cases d : ∃ q, q < 64 ∧ adj k q ∧ st q = nI r
        · rw [if_neg (fun z => (w128 (by omega) s).mp z (hit.mpr d)), if_pos ⟨c, d⟩]
        · rw [if_pos ((w128 (by omega) s).mpr fun z => d (hit.mp z)), if_neg (fun z => d z.2)]
      · rw [if_neg c, if_neg (fun z => c z.1)]
    obtain ⟨s', a1, a2, a3, a4, a5⟩ := ih (k + 1) (sS s 40 k (M_way_j234 σ p1 p2 b s57 r s106 k s)) (by omega) (h.S40 _ _) (fun p hp => by
      by_cases e : p = k
      · subst e
        rw [sS_same, hv]
      · rw [sS_ne (fun _ => e)]
        exact h0 p (by omega)) (fun p hp hp' => by
      rw [sS_ne (fun _ => by omega)]
      exact h1 p (by omega) hp')
    exact ⟨s', a1, by rw [a2, sS_col (by decide)], a3, a4, a5⟩
/-- the reference's steps after r rounds -/
def wI (dk : Nat → Prop) (f r : Nat) (st : Nat → Int32) : Prop := ∀ p, p < 64 → (¬ dk p → st p = -2) ∧ (dk p → (st p = -1 ∧ ∀ t, t ≤ r → ¬ wR dk f t p) ∨ ∃ t, t ≤ r ∧ st p = nI t ∧ wR dk f t p ∧ ∀ u, u < t → ¬ wR dk f u p)
theorem wR_dk {dk : Nat → Prop} {f t p : Nat} (h : wR dk f t p) : dk p := by
  cases t with
  | zero => exact h.2
  | succ t => exact h.1
theorem wI_step {dk : Nat → Prop} {f r : Nat} {st st' : Nat → Int32} (hr : r < 100) (h : wI dk f r st) (h' : ∀ p, p < 64 → st' p = wN st r p) : wI dk f (r + 1) st' := by
  have n12 : ¬ (-2 : Int32) = -1 := by decide
  have lev : ∀ q, q < 64 → (st q = nI r ↔ wR dk f r q ∧ ∀ u, u < r → ¬ wR dk f u q) := by
    intro q hq
    constructor
    · intro e
      by_cases d : dk q
      · rcases (h q hq).2 d with ⟨a1, _⟩ | ⟨t, a1, a2, a3, a4⟩
        · rw [a1] at e
          exact absurd e.symm (nIne r (by omega))
        · have : t = r := Classical.byContradiction fun w => nI_ne (by omega) (by omega) w (a2.symm.trans e)
          subst this
          exact ⟨a3, a4⟩
      · rw [(h q hq).1 d] at e
        exact absurd e.symm fun z => nIlt (a := r) (by omega) (by rw [z]; decide)
    · rintro ⟨a1, a2⟩
      rcases (h q hq).2 (wR_dk a1) with ⟨_, b2⟩ | ⟨t, b1, b2, b3, b4⟩
      · exact absurd a1 (b2 r (Nat.le_refl _))
      · have : t = r := by
          rcases Nat.lt_trichotomy t r with w | w | w
          · exact absurd b3 (a2 t w)
          · exact w
          · exact absurd a1 (b4 r w)
        subst this
        exact b2
  intro p hp
  rw [h' p hp]
  unfold wN
  refine ⟨fun d => ?_, fun d => ?_⟩
  · rw [(h p hp).1 d, if_neg (fun z => n12 z.1)]
  rcases (h p hp).2 d with ⟨a1, a2⟩ | ⟨t, a1, a2, a3, a4⟩
  · by_cases c : ∃ q, q < 64 ∧ adj p q ∧ st q = nI r
    · rw [if_pos ⟨a1, c⟩]
      obtain ⟨q, b1, b2, b3⟩ := c
      exact Or.inr ⟨r + 1, Nat.le_refl _, rfl, ⟨d, q, b1, b2, ((lev q b1).mp b3).1⟩, fun u hu => a2 u (by omega)⟩
    · rw [if_neg (fun z => c z.2)]
      refine Or.inl ⟨a1, fun t ht => ?_⟩
      rcases Nat.lt_succ_iff_lt_or_eq.mp (Nat.lt_succ_of_le ht) with w | w
      · exact a2 t (by omega)
      · subst w
        rintro ⟨_, q, b1, b2, b3⟩
        by_cases m : ∀ u, u < r → ¬ wR dk f u q
        · exact c ⟨q, b1, b2, (lev q b1).mpr ⟨b3, m⟩⟩
        · obtain ⟨u, m⟩ := Classical.not_forall.mp m
          have m1 : u < r := Classical.byContradiction fun z => m fun y => absurd y z
          have m2 : wR dk f u q := Classical.byContradiction fun z => m fun _ => z
          exact a2 (u + 1) (by omega) ⟨d, q, b1, b2, m2⟩
  · rw [if_neg (fun z => nIne t (by omega) (a2.symm.trans z.1))]
    exact Or.inr ⟨t, by omega, a2, a3, a4⟩
theorem w106 {σ : St} {p1 p2 b : Int32} {s57 : St} {dk : Nat → Prop} {f : Nat} (K : St → Int32) (Ks : St → St) : ∀ n r s, r + n = 64 → sEq s σ → wI dk f r (s 40) → ∃ s', sEq s' σ ∧ s' 41 = s 41 ∧ wI dk f 64 (s' 40) ∧ M_way_L106 σ p1 p2 b s57 K n r s = K s' ∧ M_way_L106_s σ p1 p2 b s57 Ks n r s = Ks s' := by
  intro n
  induction n with
  | zero =>
    intro r s hr h hI
    rw [M_way_L106, M_way_L106_s]
    have : r = 64 := by omega
    subst this
    exact ⟨s, h, rfl, hI, rfl, rfl⟩
  | succ n ih =>
    intro r s hr h hI
    rw [M_way_L106, M_way_L106_s, n64_eq]
    obtain ⟨s', a1, a2, a3, a4, a5⟩ := w116 (σ := σ) (p1 := p1) (p2 := p2) (b := b) (s57 := s57) (s106 := s) (r := r) (by omega) (s 40) (fun s116 => M_way_L106 σ p1 p2 b s57 K n (r + 1) s116) (fun s116 => M_way_L106_s σ p1 p2 b s57 Ks n (r + 1) s116) 64 0 s (by omega) h (fun p hp => absurd hp (Nat.not_lt_zero _)) (fun _ _ _ => rfl)
    obtain ⟨s'', c1, c2, c3, c4, c5⟩ := ih (r + 1) s' (by omega) a1 (wI_step (by omega) hI a3)
    exact ⟨s'', c1, c2.trans a2, c3, a4.trans c4, a5.trans c5⟩
theorem wI_0 {σ : St} {p1 b : Int32} (h1 : vp_in p1 64) {st : Nat → Int32} (h : ∀ p, p < 64 → st p = w0 σ p1 b p) : wI (fun q => M_groundOf σ (nI q) ≤ b) (ix p1) 0 st := by
  have e1 := vp_nI' h1 (by decide)
  have l1 := vp_lt h1
  intro p hp
  rw [h p hp]
  unfold w0
  refine ⟨fun d => if_neg d, fun d => ?_⟩
  rw [if_pos d]
  by_cases c : p = ix p1
  · subst c
    rw [if_pos e1.symm]
    exact Or.inr ⟨0, Nat.le_refl _, rfl, ⟨rfl, d⟩, fun u hu => absurd hu (Nat.not_lt_zero _)⟩
  · rw [if_neg (fun z => c (by rw [← z, ixn (by omega)]))]
    refine Or.inl ⟨rfl, fun t ht => ?_⟩
    have : t = 0 := by omega
    subst this
    exact fun z => c z.1
end
