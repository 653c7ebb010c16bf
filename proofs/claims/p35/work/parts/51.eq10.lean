noncomputable section
theorem burns41 (σ : St) (w p : Int32) : M_burns (M_fails_s σ w) p = M_burns σ p := rfl
theorem light41 (σ : St) (w p : Int32) : M_light (M_fails_s σ w) p = M_light σ p := rfl
theorem unl41 (σ : St) (w p : Int32) : M_isUnlawful (M_fails_s σ w) p = M_isUnlawful σ p := rfl
theorem dist41 (σ : St) (w p q : Int32) : M_distance (M_fails_s σ w) p q = M_distance σ p q := rfl
theorem dir41 (σ : St) (w p q : Int32) : M_direction (M_fails_s σ w) p q = M_direction σ p q := rfl
theorem shade41 (σ : St) (w p q : Int32) : M_isShaded (M_fails_s σ w) p q = M_isShaded σ p q := by
  have h : ∀ n k a, M_isShaded_L72 (M_fails_s σ w) p q (fun a => a) n k a = M_isShaded_L72 σ p q (fun a => a) n k a := by
    intro n
    induction n with
    | zero => intro k a; rw [M_isShaded_L72, M_isShaded_L72]
    | succ n ih =>
      intro k a
      rw [M_isShaded_L72, M_isShaded_L72, ih]
      rfl
  exact h n64 0 0
theorem given41 (σ : St) (w p q : Int32) : M_given (M_fails_s σ w) p q = M_given σ p q := by
  unfold M_given M_given_j53
  rw [shade41]
  rfl
theorem glow41 (σ : St) (w q : Int32) : M_glowOf (M_fails_s σ w) q = M_glowOf σ q := by
  have h : ∀ n k a, M_glowOf_L4 (M_fails_s σ w) q (fun a => a) n k a = M_glowOf_L4 σ q (fun a => a) n k a := by
    intro n
    induction n with
    | zero => intro k a; rw [M_glowOf_L4, M_glowOf_L4]
    | succ n ih =>
      intro k a
      rw [M_glowOf_L4, M_glowOf_L4, ih, given41]
  exact h _ 0 0
theorem glow_eq {σ : St} (hI : InvX σ) {q : Int32} (hq : vp_in q 64) : X_glowOf σ (ix q) = M_glowOf σ q := by
  have h : ∀ n k a, k + n ≤ 40 → X_glowOf_L4 σ (ix q) (fun a => a) n k a = M_glowOf_L4 σ q (fun a => a) n k a := by
    intro n
    induction n with
    | zero => intro k a _; rw [X_glowOf_L4, M_glowOf_L4]
    | succ n ih =>
      intro k a hk
      rw [X_glowOf_L4, M_glowOf_L4, ih _ _ (by omega), given_eq hI hq]
  exact h _ 0 0 (by have := IX_lamps hI; show 0 + ix (σ 13 0) ≤ 40; omega)
theorem Q_gives {σ : St} (hI : InvX σ) (p1 p2 : Int32) : EQ σ (X_gives_c σ p1 p2) (X_gives σ p1 p2) (X_gives_s σ p1 p2) (M_gives σ p1 p2) (M_gives_s σ p1 p2) 1 0 0 := by
  unfold X_gives_c X_gives X_gives_s M_gives M_gives_s M_gives_j24 M_gives_j6
  by_cases c : vp_in p1 (ix (σ 13 0))
  · repeat rw [if_pos c]
    repeat rw [if_neg (fun z => (lamp_iff hI).mp z c)]
    by_cases e : vp_in p2 64
    · repeat rw [if_pos e]
      repeat rw [if_neg (fun z => place_iff.mp z e)]
      rw [if_pos (fails_0 σ), given41, given_eq hI e]
      exact EQ.ok rfl rfl (sEq.f σ 0)
    · repeat rw [if_neg e]
      repeat rw [if_pos (place_iff.mpr e)]
      rw [if_neg (nf1 σ)]
      exact EQ.f1 rfl (sEq.f σ 1)
  · repeat rw [if_neg c]
    repeat rw [if_pos ((lamp_iff hI).mpr c)]
    rw [if_neg (nf1 σ)]
    exact EQ.f1 rfl (sEq.f σ 1)
theorem Q_glow {σ : St} (hI : InvX σ) (p1 : Int32) : EQ σ (X_glow_c σ p1) (X_glow σ p1) (X_glow_s σ p1) (M_glow σ p1) (M_glow_s σ p1) 1 0 0 := by
  unfold X_glow_c X_glow X_glow_s M_glow M_glow_s M_glow_j16 M_glow_j5
  by_cases e : vp_in p1 64
  · repeat rw [if_pos e]
    repeat rw [if_neg (fun z => place_iff.mp z e)]
    rw [if_pos (fails_0 σ), glow41, glow_eq hI e]
    exact EQ.ok rfl rfl (sEq.f σ 0)
  · repeat rw [if_neg e]
    repeat rw [if_pos (place_iff.mpr e)]
    rw [if_neg (nf1 σ)]
    exact EQ.f1 rfl (sEq.f σ 1)
end
