noncomputable section
def sEq (a b : St) : Prop := ∀ k, k < 40 → a k = b k
theorem sEq.S {a b : St} (h : sEq a b) (c i : Nat) (v : Int32) : sEq (sS a c i v) (sS b c i v) := fun k hk => by
  unfold sS
  by_cases e : k = c
  · subst e
    rw [sU_same, sU_same, h k hk]
  · rw [sU_ne e, sU_ne e]
    exact h k hk
theorem sEq.C {a b : St} (h : sEq a b) (c : Nat) (v : Int32) : sEq (sC a c v) (sC b c v) := fun k hk => by
  unfold sC
  by_cases e : k = c
  · subst e
    rw [sU_same, sU_same]
  · rw [sU_ne e, sU_ne e]
    exact h k hk
theorem sEq.f (σ : St) (w : Int32) : sEq (M_fails_s σ w) σ := fun _ hk => sC41 hk
theorem sEq.refl (σ : St) : sEq σ σ := fun _ _ => rfl
/-- class (value vx, state sx, exception cx) and reference (vm, sm) alike; c1, c2, c3: the reference's numbers of the three exceptions -/
def EQ (σ : St) (cx : Int32) (vx : Int32) (sx : St) (vm : Int32) (sm : St) (c1 c2 c3 : Int32) : Prop :=
  (cx = 0 → sm 41 0 = 0 ∧ vm = vx ∧ sEq sm sx) ∧ (cx = 1 → sm 41 0 = c1 ∧ sEq sm σ) ∧ (cx = 2 → sm 41 0 = c2 ∧ sEq sm σ) ∧ (cx = 3 → sm 41 0 = c3 ∧ sEq sm σ)
theorem EQ.ok {σ : St} {vx : Int32} {sx : St} {vm : Int32} {sm : St} {c1 c2 c3 : Int32} (h : sm 41 0 = 0) (hv : vm = vx) (hs : sEq sm sx) : EQ σ 0 vx sx vm sm c1 c2 c3 := ⟨fun _ => ⟨h, hv, hs⟩, fun z => absurd z (by decide), fun z => absurd z (by decide), fun z => absurd z (by decide)⟩
theorem EQ.f1 {σ : St} {vx : Int32} {sx : St} {vm : Int32} {sm : St} {c1 c2 c3 : Int32} (h : sm 41 0 = c1) (hs : sEq sm σ) : EQ σ 1 vx sx vm sm c1 c2 c3 := ⟨fun z => absurd z (by decide), fun _ => ⟨h, hs⟩, fun z => absurd z (by decide), fun z => absurd z (by decide)⟩
theorem EQ.f2 {σ : St} {vx : Int32} {sx : St} {vm : Int32} {sm : St} {c1 c2 c3 : Int32} (h : sm 41 0 = c2) (hs : sEq sm σ) : EQ σ 2 vx sx vm sm c1 c2 c3 := ⟨fun z => absurd z (by decide), fun z => absurd z (by decide), fun _ => ⟨h, hs⟩, fun z => absurd z (by decide)⟩
theorem EQ.f3 {σ : St} {vx : Int32} {sx : St} {vm : Int32} {sm : St} {c1 c2 c3 : Int32} (h : sm 41 0 = c3) (hs : sEq sm σ) : EQ σ 3 vx sx vm sm c1 c2 c3 := ⟨fun z => absurd z (by decide), fun z => absurd z (by decide), fun z => absurd z (by decide), fun _ => ⟨h, hs⟩⟩
theorem Q_ridge (σ : St) (p1 p2 : Int32) : EQ σ (X_ridge_c σ p1 p2) (X_ridge σ p1 p2) (X_ridge_s σ p1 p2) (M_ridge σ p1 p2) (M_ridge_s σ p1 p2) 1 0 0 := by
  unfold X_ridge_c X_ridge X_ridge_s M_ridge M_ridge_s M_ridge_j5
  by_cases c : vp_in p1 64
  · rw [if_pos c, if_pos c, if_pos c, if_neg (fun z => place_iff.mp z c), if_pos (fails_0 σ), if_pos (fails_0 σ)]
    exact EQ.ok rfl rfl ((sEq.f σ 0).S _ _ _)
  · rw [if_neg c, if_neg c, if_neg c, if_pos (place_iff.mpr c), if_neg (nf1 σ), if_neg (nf1 σ)]
    exact EQ.f1 rfl (sEq.f σ 1)
theorem Q_exempt {σ : St} (hI : InvX σ) (p1 p2 : Int32) : EQ σ (X_exempt_c σ p1 p2) (X_exempt σ p1 p2) (X_exempt_s σ p1 p2) (M_exempt σ p1 p2) (M_exempt_s σ p1 p2) 1 0 0 := by
  unfold X_exempt_c X_exempt X_exempt_s M_exempt M_exempt_s M_exempt_j6
  by_cases c : vp_in p1 (ix (σ 13 0))
  · rw [if_pos c, if_pos c, if_pos c, if_neg (fun z => (lamp_iff hI).mp z c), if_pos (fails_0 σ), if_pos (fails_0 σ)]
    exact EQ.ok rfl rfl ((sEq.f σ 0).S _ _ _)
  · rw [if_neg c, if_neg c, if_neg c, if_pos ((lamp_iff hI).mpr c), if_neg (nf1 σ), if_neg (nf1 σ)]
    exact EQ.f1 rfl (sEq.f σ 1)
theorem Q_tell {σ : St} (hI : InvX σ) (p1 p2 : Int32) : EQ σ (X_tell_c σ p1 p2) (X_tell σ p1 p2) (X_tell_s σ p1 p2) (M_tell σ p1 p2) (M_tell_s σ p1 p2) 1 2 0 := by
  unfold X_tell_c X_tell X_tell_s M_tell M_tell_s M_tell_j6
  by_cases c : vp_in p1 (ix (σ 26 0))
  · rw [if_pos c, if_pos c, if_pos c, if_neg (fun z => (meter_iff hI).mp z c)]
    by_cases e : M_isIn p2 (-5000 : Int32) (5000 : Int32) = 0
    · repeat rw [if_pos e]
      repeat rw [if_neg (nf2 σ)]
      exact EQ.f2 rfl (sEq.f σ 2)
    · repeat rw [if_neg e]
      repeat rw [if_pos (fails_0 σ)]
      exact EQ.ok rfl rfl ((sEq.f σ 0).S _ _ _)
  · rw [if_neg c, if_neg c, if_neg c, if_pos ((meter_iff hI).mpr c), if_neg (nf1 σ), if_neg (nf1 σ)]
    exact EQ.f1 rfl (sEq.f σ 1)
theorem Q_air (σ : St) (p1 : Int32) : EQ σ (X_air_c σ p1) (X_air σ p1) (X_air_s σ p1) (M_air σ p1) (M_air_s σ p1) 0 1 0 := by
  unfold X_air_c X_air X_air_s M_air M_air_s M_air_j7
  by_cases e : M_isIn p1 (0 : Int32) (2 : Int32) = 0
  · rw [if_pos e, if_pos e, if_pos e, if_pos e, if_neg (nf1 σ), if_neg (nf1 σ)]
    exact EQ.f2 rfl (sEq.f σ 1)
  · rw [if_neg e, if_neg e, if_neg e, if_neg e, if_pos (fails_0 σ), if_pos (fails_0 σ)]
    exact EQ.ok rfl rfl ((sEq.f σ 0).C _ _)
end
