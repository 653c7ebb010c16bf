noncomputable section
def mx (a b : St) : St := fun k => bif Nat.ble k 39 then a k else b k
theorem sEq.mix {s s' : St} (h : sEq s s') : s = mx s' s := by
  funext k
  unfold mx
  cases e : Nat.ble k 39 with
  | true => exact h k (Nat.lt_succ_of_le (Nat.le_of_ble_eq_true e))
  | false => rfl
theorem burns_c {s s' : St} (h : sEq s s') (p : Int32) : M_burns s p = M_burns s' p := by
  rw [h.mix]
  rfl
theorem unl_c {s s' : St} (h : sEq s s') (p : Int32) : M_isUnlawful s p = M_isUnlawful s' p := by
  rw [h.mix]
  rfl
theorem sEq.trans {a b c : St} (h1 : sEq a b) (h2 : sEq b c) : sEq a c := fun k hk => (h1 k hk).trans (h2 k hk)
theorem sEq.symm {a b : St} (h1 : sEq a b) : sEq b a := fun k hk => (h1 k hk).symm
theorem sS_swap (s : St) {a b : Nat} (h : a ≠ b) (i j : Nat) (v w : Int32) : sS (sS s a i v) b j w = sS (sS s b j w) a i v := by
  funext k
  by_cases ea : k = a
  · subst ea
    rw [sS_col h]
    unfold sS
    rw [sU_same, sU_same, sU_ne h]
  · by_cases eb : k = b
    · subst eb
      rw [sS_col (c := k) (k := a) ea]
      unfold sS
      rw [sU_same, sU_same, sU_ne ea]
    · rw [sS_col eb, sS_col ea, sS_col ea, sS_col eb]
theorem sS_id (s : St) (c i : Nat) : sS s c i (s c i) = s := by
  funext k
  by_cases e : k = c
  · subst e
    funext j
    by_cases w : j = i
    · subst w
      exact sS_same ..
    · exact sS_ne (fun _ => w)
  · exact sS_col e
theorem InvX_ext {a b : St} (h : sEq a b) (hI : InvX b) : InvX a := by
  obtain ⟨h1, h2, h3, h4, h5, h6⟩ := hI
  refine ⟨?_, ?_, ?_, ?_, ?_, ?_⟩
  · intro k i
    by_cases e : k < 40
    · rw [h k e]
      exact h1 k i
    · unfold cOK
      split <;> first | exact absurd (by decide) e | trivial
  · rw [h 13 (by decide), h 14 (by decide), h 8 (by decide)]; exact h2
  · rw [h 37 (by decide), h 38 (by decide)]; exact h3
  · rw [h 13 (by decide), h 19 (by decide), h 22 (by decide), h 23 (by decide), h 24 (by decide)]; exact h4
  · rw [h 8 (by decide), h 11 (by decide), h 12 (by decide)]; exact h5
  · rw [h 26 (by decide), h 30 (by decide), h 31 (by decide)]; exact h6
theorem vote60 {σ : St} {p1 p2 p3 p4 p5 : Int32} (hl : ¬ M_isLamp σ p1 = 0) : M_vote_j60 σ p1 p2 p3 p4 p5 = (if M_isIn p2 0 10 = 0 ∨ M_isIn p3 0 10 = 0 ∨ M_isIn p4 0 500 = 0 ∨ M_isIn p5 0 500 = 0 ∨ p2 < σ 18 (ix p1) ∨ p3 < σ 19 (ix p1) ∨ σ 9 (ix (σ 14 (ix p1))) < p4 + p5 then 0 else 1) := by
  unfold M_vote_j60 M_vote_j14
  by_cases a : M_isIn p2 0 10 = 0
  · rw [if_pos a, if_pos rfl, if_pos (Or.inl a)]
  rw [if_neg a]
  by_cases b : M_isIn p3 0 10 = 0
  · rw [if_pos b, if_pos rfl, if_pos (Or.inr (Or.inl b))]
  rw [if_neg b]
  by_cases c : M_isIn p4 0 500 = 0
  · rw [if_pos c, if_pos rfl, if_pos (Or.inr (Or.inr (Or.inl c)))]
  rw [if_neg c]
  by_cases d : M_isIn p5 0 500 = 0
  · rw [if_pos d, if_pos rfl, if_pos (Or.inr (Or.inr (Or.inr (Or.inl d))))]
  rw [if_neg d, if_neg i10, if_neg hl]
  by_cases e : p2 < σ 18 (ix p1)
  · rw [if_pos e, if_pos (Or.inr (Or.inr (Or.inr (Or.inr (Or.inl e)))))]
  rw [if_neg e]
  by_cases f : p3 < σ 19 (ix p1)
  · rw [if_pos f, if_pos (Or.inr (Or.inr (Or.inr (Or.inr (Or.inr (Or.inl f))))))]
  rw [if_neg f]
  by_cases g : σ 9 (ix (σ 14 (ix p1))) < p4 + p5
  · rw [if_pos g, if_pos (Or.inr (Or.inr (Or.inr (Or.inr (Or.inr (Or.inr g))))))]
  rw [if_neg g, if_neg (fun z => z.elim a fun z => z.elim b fun z => z.elim c fun z => z.elim d fun z => z.elim e fun z => z.elim f g)]
theorem isIn_lo {a lo b : Int32} (hlo : 0 ≤ lo.toInt) : M_isIn a lo b = 0 ↔ (M_isIn a 0 b = 0 ∨ a < lo) := by
  have h1 := isIn_iff (v := a) (a := lo) (b := b)
  have h2 := isIn_iff (v := a) (a := 0) (b := b)
  rw [Int32.lt_iff_toInt_lt]
  rw [Int32.toInt_zero] at h2
  constructor
  · intro z
    refine Classical.byContradiction fun q => ?_
    have q1 := h2.mp fun w => q (Or.inl w)
    refine h1.mpr ⟨?_, q1.2⟩ z
    refine Classical.byContradiction fun w => q (Or.inr (by omega))
  · intro z
    refine Classical.byContradiction fun q => ?_
    have q1 := h1.mp q
    rcases z with z | z
    · exact h2.mpr ⟨by omega, q1.2⟩ z
    · omega
theorem isIn_sum {a b m : Int32} (ha : ¬ M_isIn a 0 500 = 0) (hb : ¬ M_isIn b 0 500 = 0) : M_isIn (a + b) 0 m = 0 ↔ m < a + b := by
  have h1 := isIn_iff.mp ha
  have h2 := isIn_iff.mp hb
  have h3 := isIn_iff (v := a + b) (a := 0) (b := m)
  have h0 : (0 : Int32).toInt = 0 := rfl
  have h5 : (500 : Int32).toInt = 500 := rfl
  have e : (a + b).toInt = a.toInt + b.toInt := by
    rw [Int32.toInt_add]
    exact Int.bmod_eq_of_le (by omega) (by omega)
  rw [Int32.lt_iff_toInt_lt]
  constructor
  · intro z
    refine Classical.byContradiction fun w => h3.mpr ⟨by omega, by omega⟩ z
  · intro z
    refine Classical.byContradiction fun w => ?_
    have := h3.mp w
    omega
theorem Q_vote {σ : St} (hI : InvX σ) (p1 p2 p3 p4 p5 : Int32) : EQ σ (X_vote_c σ p1 p2 p3 p4 p5) (X_vote σ p1 p2 p3 p4 p5) (X_vote_s σ p1 p2 p3 p4 p5) (M_vote σ p1 p2 p3 p4 p5) (M_vote_s σ p1 p2 p3 p4 p5) 1 2 3 := by
  unfold X_vote_c X_vote X_vote_s M_vote M_vote_s
  by_cases c : vp_in p1 (ix (σ 13 0))
  · repeat rw [if_pos c]
    have hl : ¬ M_isLamp σ p1 = 0 := fun z => (lamp_iff hI).mp z c
    have h60 := vote60 (p2 := p2) (p3 := p3) (p4 := p4) (p5 := p5) hl
    have k18 : 0 ≤ (σ 18 (ix p1)).toInt := (vp_in_iff.mp (hI.1 18 (ix p1) : vp_in (σ 18 (ix p1)) 11)).1
    have k19 : 0 ≤ (σ 19 (ix p1)).toInt := (vp_in_iff.mp (hI.1 19 (ix p1) : vp_in (σ 19 (ix p1)) 11)).1
    have e2 := isIn_lo (a := p2) (b := 10) k18
    have e3 := isIn_lo (a := p3) (b := 10) k19
    have j2 : M_vote_j60 σ p1 p2 p3 p4 p5 = 0 → M_vote_j117 σ p1 p2 p3 p4 p5 = 2 := fun z => by
      unfold M_vote_j117
      rw [if_neg hl, if_pos z]
    by_cases b2 : M_isIn p2 (σ 18 (ix p1)) 10 = 0
    · rw [j2 (by rw [h60]; exact if_pos ((e2.mp b2).elim Or.inl fun z => Or.inr (Or.inr (Or.inr (Or.inr (Or.inl z))))))]
      repeat rw [if_pos b2]
      repeat rw [if_neg (nf2 σ)]
      exact EQ.f2 rfl (sEq.f σ 2)
    repeat rw [if_neg b2]
    by_cases b3 : M_isIn p3 (σ 19 (ix p1)) 10 = 0
    · rw [j2 (by rw [h60]; exact if_pos ((e3.mp b3).elim (fun z => Or.inr (Or.inl z)) fun z => Or.inr (Or.inr (Or.inr (Or.inr (Or.inr (Or.inl z)))))))]
      repeat rw [if_pos b3]
      repeat rw [if_neg (nf2 σ)]
      exact EQ.f2 rfl (sEq.f σ 2)
    repeat rw [if_neg b3]
    by_cases b4 : M_isIn p4 0 500 = 0
    · rw [j2 (by rw [h60]; exact if_pos (Or.inr (Or.inr (Or.inl b4))))]
      repeat rw [if_pos b4]
      repeat rw [if_neg (nf2 σ)]
      exact EQ.f2 rfl (sEq.f σ 2)
    repeat rw [if_neg b4]
    by_cases b5 : M_isIn p5 0 500 = 0
    · rw [j2 (by rw [h60]; exact if_pos (Or.inr (Or.inr (Or.inr (Or.inl b5)))))]
      repeat rw [if_pos b5]
      repeat rw [if_neg (nf2 σ)]
      exact EQ.f2 rfl (sEq.f σ 2)
    repeat rw [if_neg b5]
    have e6 := isIn_sum (m := σ 9 (ix (σ 14 (ix p1)))) b4 b5
    by_cases b6 : M_isIn (p4 + p5) 0 (σ 9 (ix (σ 14 (ix p1)))) = 0
    · rw [j2 (by rw [h60]; exact if_pos (Or.inr (Or.inr (Or.inr (Or.inr (Or.inr (Or.inr (e6.mp b6)))))))) ]
      repeat rw [if_pos b6]
      repeat rw [if_neg (nf2 σ)]
      exact EQ.f2 rfl (sEq.f σ 2)
    repeat rw [if_neg b6]
    have n2 : ¬ p2 < σ 18 (ix p1) := fun z => b2 (e2.mpr (Or.inr z))
    have n3 : ¬ p3 < σ 19 (ix p1) := fun z => b3 (e3.mpr (Or.inr z))
    have i60 : M_vote_j60 σ p1 p2 p3 p4 p5 = 1 := by
      rw [h60]
      exact if_neg fun z => z.elim (fun w => b2 (e2.mpr (Or.inl w))) fun z => z.elim (fun w => b3 (e3.mpr (Or.inl w))) fun z => z.elim b4 fun z => z.elim b5 fun z => z.elim n2 fun z => z.elim n3 fun w => b6 (e6.mpr w)
    have h117 : M_vote_j117 σ p1 p2 p3 p4 p5 = (if M_isBound σ p1 = 0 then (if p2 = σ 18 (ix p1) then (if p3 = σ 19 (ix p1) then (3 : Int32) else 0) else 0) else 3) := by
      unfold M_vote_j117
      rw [if_neg hl, i60, if_neg i10]
    unfold X_vote_j77 X_vote_j94
    by_cases b7 : σ 24 (ix p1) ≤ σ 0 0
    · have hb : M_isBound σ p1 = 0 := if_pos b7
      rw [hb, if_pos rfl] at h117
      repeat rw [if_pos ((bound_iff hI _).mpr b7)]
      repeat rw [if_neg i10]
      have q2 : (σ 18 (ix p1) < p2) ↔ ¬ p2 = σ 18 (ix p1) := by
        rw [Int32.lt_iff_toInt_lt] at n2 ⊢
        rw [← Int32.toInt_inj]
        omega
      have q3 : (p3 ≤ σ 19 (ix p1)) ↔ p3 = σ 19 (ix p1) := by
        rw [Int32.lt_iff_toInt_lt] at n3
        rw [Int32.le_iff_toInt_le, ← Int32.toInt_inj]
        omega
      by_cases b8 : p2 = σ 18 (ix p1) ∧ p3 = σ 19 (ix p1)
      · rw [if_pos b8.1, if_pos b8.2] at h117
        rw [h117]
        repeat rw [if_neg (fun z => (q2.mp z) b8.1)]
        repeat rw [if_pos (q3.mpr b8.2)]
        repeat rw [if_pos rfl]
        repeat rw [if_neg (nf3 σ)]
        exact EQ.f3 rfl (sEq.f σ 3)
      have h0 : M_vote_j117 σ p1 p2 p3 p4 p5 = 0 := by
        rw [h117]
        by_cases w : p2 = σ 18 (ix p1)
        · rw [if_pos w, if_neg (fun z => b8 ⟨w, z⟩)]
        · rw [if_neg w]
      have k94 : (if σ 18 (ix p1) < p2 then (1 : Int32) else if p3 ≤ σ 19 (ix p1) then 0 else 1) = 1 := by
        by_cases w : p2 = σ 18 (ix p1)
        · rw [if_neg (fun z => (q2.mp z) w), if_neg (fun z => b8 ⟨w, q3.mp z⟩)]
        · rw [if_pos (q2.mpr w)]
      rw [h0, k94]
      repeat rw [if_neg i10]
      repeat rw [if_pos (fails_0 σ)]
      unfold X_agrees X_agrees_j2 X_refitCost
      by_cases b9 : p4 ≤ p5
      · repeat rw [if_pos b9]
        repeat rw [if_pos rfl]
        exact EQ.ok rfl rfl (sEq.f σ 0)
      repeat rw [if_neg b9]
      by_cases b10 : (2 : Int32) * (p4 + p5) < σ 9 (ix (σ 14 (ix p1)))
      · repeat rw [if_pos (show (2 : Int32) * (p4 + p5) < (M_fails_s σ 0) 9 (ix ((M_fails_s σ 0) 14 (ix p1))) from b10)]
        repeat rw [if_pos b10]
        repeat rw [if_pos rfl]
        exact EQ.ok rfl rfl (sEq.f σ 0)
      repeat rw [if_neg (show ¬ (2 : Int32) * (p4 + p5) < (M_fails_s σ 0) 9 (ix ((M_fails_s σ 0) 14 (ix p1))) from b10)]
      repeat rw [if_neg b10]
      repeat rw [if_neg i10]
      by_cases b11 : ((2 : Int32) * (p2 - σ 18 (ix p1)) + (3 : Int32) * (p3 - σ 19 (ix p1))) - ((2 : Int32) * (p2 - σ 18 (ix p1)) + (3 : Int32) * (p3 - σ 19 (ix p1))) / 2 ≤ σ 10 (ix (σ 14 (ix p1)))
      · repeat rw [if_pos (show ((2 : Int32) * (p2 - (M_fails_s σ 0) 18 (ix p1)) + (3 : Int32) * (p3 - (M_fails_s σ 0) 19 (ix p1))) - ((2 : Int32) * (p2 - (M_fails_s σ 0) 18 (ix p1)) + (3 : Int32) * (p3 - (M_fails_s σ 0) 19 (ix p1))) / 2 ≤ (M_fails_s σ 0) 10 (ix ((M_fails_s σ 0) 14 (ix p1))) from b11)]
        repeat rw [if_pos b11]
        refine EQ.ok rfl rfl ?_
        unfold X_refit_s
        rw [sS_swap _ (a := 24) (b := 10) (by decide)]
        have f : ∀ k, k < 40 → M_fails_s σ 0 k = σ k := fun k hk => sC41 hk
        simp only [sS_col (show (10 : Nat) ≠ 24 by decide), sS_col (show (10 : Nat) ≠ 19 by decide), sS_col (show (10 : Nat) ≠ 18 by decide), sS_col (show (0 : Nat) ≠ 10 by decide), sS_col (show (0 : Nat) ≠ 19 by decide), sS_col (show (0 : Nat) ≠ 18 by decide), f 18 (by decide), f 19 (by decide), f 14 (by decide), f 10 (by decide), f 0 (by decide)]
        exact ((((sEq.f σ 0).S _ _ _).S _ _ _).S _ _ _).S _ _ _
      · repeat rw [if_neg (show ¬ ((2 : Int32) * (p2 - (M_fails_s σ 0) 18 (ix p1)) + (3 : Int32) * (p3 - (M_fails_s σ 0) 19 (ix p1))) - ((2 : Int32) * (p2 - (M_fails_s σ 0) 18 (ix p1)) + (3 : Int32) * (p3 - (M_fails_s σ 0) 19 (ix p1))) / 2 ≤ (M_fails_s σ 0) 10 (ix ((M_fails_s σ 0) 14 (ix p1))) from b11)]
        repeat rw [if_neg b11]
        exact EQ.ok rfl rfl (sEq.f σ 0)
    · have hb : ¬ M_isBound σ p1 = 0 := by
        unfold M_isBound M_isBound_j10
        rw [if_neg b7]
        exact i10
      rw [if_neg hb] at h117
      rw [h117]
      repeat rw [if_neg (fun z => b7 ((bound_iff hI _).mp z))]
      repeat rw [if_pos rfl]
      repeat rw [if_neg (nf3 σ)]
      exact EQ.f3 rfl (sEq.f σ 3)
  · have hj : M_vote_j117 σ p1 p2 p3 p4 p5 = 1 := by
      unfold M_vote_j117
      rw [if_pos ((lamp_iff hI).mpr c)]
    rw [hj]
    repeat rw [if_neg c]
    repeat rw [if_neg (nf1 σ)]
    exact EQ.f1 rfl (sEq.f σ 1)
end
