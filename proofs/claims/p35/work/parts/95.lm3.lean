noncomputable section
def LDIR (ex ey : Int32) : Int32 := (if ex ≤ (0 : Int32) then (if (0 : Int32) ≤ ex then (if ey ≤ (0 : Int32) then (3 : Int32) else (2 : Int32)) else (if (-ex) < ey then (if ey ≤ (0 : Int32) then (3 : Int32) else (2 : Int32)) else (if ey < ex then (if ey ≤ (0 : Int32) then (3 : Int32) else (2 : Int32)) else (1 : Int32)))) else (if ex < ey then (if (0 : Int32) ≤ ex then (if ey ≤ (0 : Int32) then (3 : Int32) else (2 : Int32)) else (if (-ex) < ey then (if ey ≤ (0 : Int32) then (3 : Int32) else (2 : Int32)) else (if ey < ex then (if ey ≤ (0 : Int32) then (3 : Int32) else (2 : Int32)) else (1 : Int32)))) else (if ex < (-ey) then (if (0 : Int32) ≤ ex then (if ey ≤ (0 : Int32) then (3 : Int32) else (2 : Int32)) else (if (-ex) < ey then (if ey ≤ (0 : Int32) then (3 : Int32) else (2 : Int32)) else (if ey < ex then (if ey ≤ (0 : Int32) then (3 : Int32) else (2 : Int32)) else (1 : Int32)))) else (0 : Int32))))
def MDIR (ex ey : Int32) : Int32 := (if ex = (0 : Int32) then (if ey = (0 : Int32) then (4 : Int32) else (if (M_size ex) < (M_size ey) then (if ey ≤ (0 : Int32) then (3 : Int32) else (2 : Int32)) else (if ex ≤ (0 : Int32) then (1 : Int32) else (0 : Int32)))) else (if (M_size ex) < (M_size ey) then (if ey ≤ (0 : Int32) then (3 : Int32) else (2 : Int32)) else (if ex ≤ (0 : Int32) then (1 : Int32) else (0 : Int32))))
theorem LDIR_eq (τ : St) (p1 p2 : Int32) (k : Nat) (a : Int32) : L_glow_j57 τ p1 p2 k a = if ((τ 3 (ix ((6 : Int32) * (nI k)))) - (τ 3 (ix ((6 : Int32) * (nI k)))) / (64 : Int32) * (64 : Int32)) = p1 then (4 : Int32) else LDIR ((((τ 3 (ix ((6 : Int32) * (nI k)))) - (τ 3 (ix ((6 : Int32) * (nI k)))) / (64 : Int32) * (64 : Int32)) - ((τ 3 (ix ((6 : Int32) * (nI k)))) - (τ 3 (ix ((6 : Int32) * (nI k)))) / (64 : Int32) * (64 : Int32)) / (8 : Int32) * (8 : Int32)) - (p1 - p1 / (8 : Int32) * (8 : Int32))) ((((τ 3 (ix ((6 : Int32) * (nI k)))) - (τ 3 (ix ((6 : Int32) * (nI k)))) / (64 : Int32) * (64 : Int32)) / (8 : Int32)) - (p1 / (8 : Int32))) := rfl
theorem MDIR_eq (ξ : St) (p1 p2 : Int32) : M_direction ξ p1 p2 = MDIR (((ξ 15 (ix p1)) - (ξ 15 (ix p1)) / (8 : Int32) * (8 : Int32)) - (p2 - p2 / (8 : Int32) * (8 : Int32))) (((ξ 15 (ix p1)) / (8 : Int32)) - (p2 / (8 : Int32))) := rfl
theorem dir8 : ∀ a b c d : Fin 8, (if a.1 = b.1 ∧ c.1 = d.1 then (4 : Int32) else LDIR (nI a.1 - nI b.1) (nI c.1 - nI d.1)) = MDIR (nI a.1 - nI b.1) (nI c.1 - nI d.1) := by decide +kernel
section LM3
variable {ξ τ : St} {p p2 : Int32}
theorem LM_given (hQ : LQ ξ τ) (hI : InvX ξ) (h : vp_in p (ix (ξ 13 0))) (h2 : vp_in p2 64) : L_gives τ p p2 = M_given ξ p p2 := by
  have h10 := hQ.lam h
  have g1 : τ 7 (ix (1 : Int32)) = ξ 1 0 := hQ.g.2.1
  unfold L_gives L_gives_j140 L_gives_j122 L_gives_j70 L_gives_j23 M_given M_given_j53 M_given_j70
  rw [LM_burns hQ hI h, LM_light hQ hI h10, dl_shd hQ hI h10, dl_col hQ hI h10, dl_place hQ hI h, LM_apart hI h2, g1]
  have hs := LM_shaded hQ hI (p := p) h2
  have hc : ξ 17 (ix p) = 0 ∨ ξ 17 (ix p) = 1 ∨ ξ 17 (ix p) = 2 := by
    obtain ⟨a, ha, ea⟩ := vn (hI.1 17 (ix p) : vp_in (ξ 17 (ix p)) 3) (by decide)
    rw [ea]
    match a, ha with
    | 0, _ => exact Or.inl rfl
    | 1, _ => exact Or.inr (Or.inl rfl)
    | 2, _ => exact Or.inr (Or.inr rfl)
  have ha : ξ 1 0 = 0 ∨ ξ 1 0 = 1 ∨ ξ 1 0 = 2 := by
    obtain ⟨a, ha, ea⟩ := vn (hI.1 1 0 : vp_in (ξ 1 0) 3) (by decide)
    rw [ea]
    match a, ha with
    | 0, _ => exact Or.inl rfl
    | 1, _ => exact Or.inr (Or.inl rfl)
    | 2, _ => exact Or.inr (Or.inr rfl)
  by_cases b : M_burns ξ p = 0
  · simp only [if_pos b]
    have z1 : (2 : Int32) * 0 = 0 := by decide
    have z2 : (4 : Int32) * 0 = 0 := by decide
    have z3 : (5 : Int32) * 0 = 0 := by decide
    have z4 : (0 : Int32) / 2 = 0 := by decide
    have z5 : (0 : Int32) + 0 = 0 := by decide
    simp only [z1, z2, ite_self, Int32.zero_div, z4, z5, z3]
  · simp only [if_neg b]
    generalize M_light ξ p * (10 - ξ 18 (ix p)) / 10 = A
    have e : (if ξ 17 (ix p) = 0 then A else if ξ 17 (ix p) = 1 then 2 * A else 4 * A) = A * ((1 : Int32) <<< (ξ 17 (ix p) &&& 31)) := by
      rcases hc with c | c | c
      · rw [c, if_pos rfl, show (1 : Int32) <<< ((0 : Int32) &&& 31) = 1 from by decide, Int32.mul_one]
      · rw [c, if_neg i10, if_pos rfl, show (1 : Int32) <<< ((1 : Int32) &&& 31) = 2 from by decide, Int32.mul_comm]
      · rw [c, if_neg (by decide), if_neg (by decide), show (1 : Int32) <<< ((2 : Int32) &&& 31) = 4 from by decide, Int32.mul_comm]
    rw [e]
    generalize A * ((1 : Int32) <<< (ξ 17 (ix p) &&& 31)) / M_distance ξ p p2 = B
    have e2 : (if L_isShaded τ (ξ 15 (ix p)) p2 = 0 then B else B / 2) = (if M_isShaded ξ p p2 = 0 then B else B / 2) := by
      by_cases s : M_isShaded ξ p p2 = 0
      · rw [if_pos s, if_pos (hs.mpr s)]
      · rw [if_neg s, if_neg (fun z => s (hs.mp z))]
    rw [e2]
    generalize (if M_isShaded ξ p p2 = 0 then B else B / 2) = C
    rcases ha with a | a | a
    · rw [a, if_pos rfl, if_neg (by decide), show (1 : Int32) + 0 = 1 from by decide, Int32.mul_one]
    · rw [a, if_neg i10, if_pos rfl, if_neg (by decide), Int32.mul_add, Int32.mul_one]
    · rw [a, if_neg (by decide), if_neg (by decide), if_pos rfl, Int32.mul_comm]
theorem LM_dir (hQ : LQ ξ τ) (hI : InvX ξ) {k : Nat} (hk : k < ix (ξ 13 0)) (h2 : vp_in p2 64) (w : Int32) (a : Int32) : L_glow_j57 τ p2 w k a = M_direction ξ (nI k) p2 := by
  have hl := hQ.lim.2.1
  have h : vp_in (nI k) (ix (ξ 13 0)) := vp_in_nI hk (by omega)
  rw [LDIR_eq, MDIR_eq, dl_place hQ hI h]
  have h1 : vp_in (ξ 15 (ix (nI k))) 64 := hI.1 15 _
  have a1 := vp_lt h1
  have a2 := vp_lt h2
  rw [(sh_loc h1).1, (sh_loc h2).1, (sh_loc h1).2, (sh_loc h2).2]
  have e := dir8 ⟨ix (ξ 15 (ix (nI k))) % 8, by omega⟩ ⟨ix p2 % 8, by omega⟩ ⟨ix (ξ 15 (ix (nI k))) / 8, by omega⟩ ⟨ix p2 / 8, by omega⟩
  dsimp only at e
  have q1 := vp_nI' h1 (by decide)
  have q2 := vp_nI' h2 (by decide)
  rw [← e]
  by_cases c : ξ 15 (ix (nI k)) = p2
  · rw [if_pos c, if_pos (by rw [c]; exact ⟨rfl, rfl⟩)]
  · rw [if_neg c, if_neg (fun z => c (by rw [q1, q2]; congr 1; omega))]
theorem LM_glow5 (hQ : LQ ξ τ) (hI : InvX ξ) (h2 : vp_in p2 64) : L_glow τ p2 5 = M_glowOf ξ p2 := by
  have g3 : τ 7 (ix (3 : Int32)) = ξ 13 0 := hQ.g.2.2.2.1
  unfold L_glow M_glowOf
  rw [g3]
  have h : ∀ n k a, k + n = ix (ξ 13 0) → L_glow_L6 τ p2 5 (fun a => a) n k a = M_glowOf_L4 ξ p2 (fun a => a) n k a := by
    intro n
    induction n with
    | zero => intro k a _; rw [L_glow_L6, M_glowOf_L4]
    | succ n ih =>
      intro k a hk
      have hl := hQ.lim.2.1
      rw [L_glow_L6, M_glowOf_L4, ih _ _ (by omega)]
      congr 2
      unfold L_glow_j129
      rw [if_pos rfl, LM_given hQ hI (vp_in_nI (by omega) (by omega)) h2]
  exact h _ 0 0 (Nat.zero_add _)
theorem LM_glowd (hQ : LQ ξ τ) (hI : InvX ξ) (h2 : vp_in p2 64) {w : Int32} (hw : vp_in w 5) : L_glow τ p2 w = M_glowFrom ξ p2 w := by
  have g3 : τ 7 (ix (3 : Int32)) = ξ 13 0 := hQ.g.2.2.2.1
  have hj : M_glowFrom_j5 ξ p2 w = 0 := by
    have hw' := vp_in_iff.mp hw
    unfold M_glowFrom_j5
    rw [if_neg (fun z => place_iff.mp z h2), if_neg ((isIn_iff (v := w) (a := 0) (b := 4)).mpr ⟨by rw [Int32.toInt_zero]; exact hw'.1, by rw [show (4 : Int32).toInt = 4 from rfl]; omega⟩)]
  have w5 : ¬ w = 5 := fun z => by
    have := vp_lt hw
    rw [z] at this
    exact absurd this (by decide)
  unfold L_glow M_glowFrom
  rw [g3, hj, if_pos (fails_0 ξ)]
  have h : ∀ n k a, k + n = ix (ξ 13 0) → L_glow_L6 τ p2 w (fun a => a) n k a = M_glowFrom_L39 ξ p2 w (fun a => a) n k a := by
    intro n
    induction n with
    | zero => intro k a _; rw [L_glow_L6, M_glowFrom_L39]
    | succ n ih =>
      intro k a hk
      have hl := hQ.lim.2.1
      rw [L_glow_L6, M_glowFrom_L39, ih _ _ (by omega)]
      congr 2
      unfold L_glow_j129 M_glowFrom_j57
      rw [if_neg w5, LM_dir hQ hI (show k < ix (ξ 13 0) by omega) h2, LM_given hQ hI (vp_in_nI (by omega) (by omega)) h2, given41]
      rfl
  exact h _ 0 0 (Nat.zero_add _)
theorem LM_ground (hQ : LQ ξ τ) (hI : InvX ξ) (h2 : vp_in p2 64) : L_ground τ p2 = M_groundOf ξ p2 := by
  have g3 : τ 7 (ix (3 : Int32)) = ξ 13 0 := hQ.g.2.2.2.1
  unfold L_ground M_groundOf
  rw [g3]
  have h : ∀ n k a, k + n = ix (ξ 13 0) → L_ground_L6 τ p2 (fun a => a) n k a = M_groundOf_L4 ξ p2 (fun a => a) n k a := by
    intro n
    induction n with
    | zero => intro k a _; rw [L_ground_L6, M_groundOf_L4]
    | succ n ih =>
      intro k a hk
      have hl := hQ.lim.2.1
      have hv : vp_in (nI k) (ix (ξ 13 0)) := vp_in_nI (by omega) (by omega)
      rw [L_ground_L6, M_groundOf_L4, ih _ _ (by omega)]
      congr 2
      unfold L_ground_j28 M_groundOf_j18
      rw [LM_burns hQ hI hv, LM_light hQ hI (hQ.lam hv), dl_place hQ hI hv, LM_apart hI h2]
  exact h _ 0 0 (Nat.zero_add _)
end LM3
theorem ph30 : ∀ a : Fin 30, (if (15 : Int32) ≤ nI a.1 then (30 : Int32) - nI a.1 else nI a.1) = 15 - M_size (15 - nI a.1) := by decide +kernel
theorem LM_moon {t : Int32} (h : vp_in t 20001) : L_moon t = M_moon t := by
  obtain ⟨j, hj, e⟩ := vn h (by decide)
  subst e
  unfold L_moon L_moon_j13 L_moon_j33 M_moon M_moon_j13
  rw [show (24 : Int32) = nI 24 from rfl, show (30 : Int32) = nI 30 from rfl, pk_rem (by omega) (by decide) (by decide), pk_div (by omega) (by decide) (by decide), pk_rem (by omega) (by decide) (by decide)]
  have hp := ph30 ⟨j / 24 % 30, by omega⟩
  dsimp only at hp
  rw [show (30 : Int32) = nI 30 from rfl] at hp
  rw [hp]
  have hin := isIn_iff (v := nI (j % 24)) (a := 6) (b := 17)
  rw [nI_toInt (by omega), show (6 : Int32).toInt = 6 from rfl, show (17 : Int32).toInt = 17 from rfl] at hin
  by_cases c : j % 24 ≤ 5
  · rw [if_pos (show nI (j % 24) ≤ (5 : Int32) from nI_le (b := 5) c (by decide)), if_pos (Classical.byContradiction fun z => absurd (hin.mp z) (by omega))]
  · rw [if_neg (show ¬ nI (j % 24) ≤ (5 : Int32) from nI_ge (a := 5) (b := j % 24) (by omega) (by omega))]
    by_cases d : 18 ≤ j % 24
    · rw [if_pos (show (18 : Int32) ≤ nI (j % 24) from nI_le (a := 18) d (by omega)), if_pos (Classical.byContradiction fun z => absurd (hin.mp z) (by omega))]
    · rw [if_neg (show ¬ (18 : Int32) ≤ nI (j % 24) from nI_ge (b := 18) (a := j % 24) (by omega) (by decide)), if_neg (hin.mpr (by omega))]
end
