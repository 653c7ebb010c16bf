noncomputable section
theorem sub_add {a b c : Nat} (h : b ≤ a + c) : nI a - nI b + nI c = nI (a + c - b) := by
  rw [← pk_sub h, ← nI_add, Int32.sub_eq_add_neg, Int32.sub_eq_add_neg, Int32.add_assoc, Int32.add_assoc, Int32.add_comm (-nI b)]
theorem sqc8 : ∀ x y : Fin 8, (nI x.1 - nI y.1) * (nI x.1 - nI y.1) = (nI y.1 - nI x.1) * (nI y.1 - nI x.1) := by decide +kernel
theorem sqc {x y : Nat} (hx : x < 8) (hy : y < 8) : (nI x - nI y) * (nI x - nI y) = (nI y - nI x) * (nI y - nI x) := sqc8 ⟨x, hx⟩ ⟨y, hy⟩
section LM
variable {ξ τ : St} {p p2 : Int32}
theorem LM_light (hQ : LQ ξ τ) (hI : InvX ξ) (h : vp_in p 10) : L_light τ p = M_light ξ p := by
  unfold L_light L_light_j23 M_light M_light_j21
  rw [dl_1 hQ h, dl_4 hQ h, dl_dim hQ hI h]
  by_cases c : ξ 23 (ix p) / 100 ≤ 50
  · rw [if_pos c, if_pos c]
  · rw [if_neg c, if_neg c]
    rfl
theorem LM_unlawful (hQ : LQ ξ τ) (hI : InvX ξ) (h : vp_in p (ix (ξ 13 0))) : L_isUnlawful τ p = M_isUnlawful ξ p := by
  have h10 := hQ.lam h
  have hp : ix (ξ 15 (ix p)) < 64 := IX_place hI _
  have hz : ix (ξ 3 (ix (ξ 15 (ix p)))) < 4 := IX_zone hI _
  unfold L_isUnlawful L_isUnlawful_j26 M_isUnlawful M_isUnlawful_j18
  rw [dl_place hQ hI h, dp_zone hQ hI hp, dz_most hQ hI hz, dz_least hQ hI hz, dl_col hQ hI h10, dl_shd hQ hI h10]
  by_cases x : ξ 22 (ix p) = 0
  · rw [if_neg (fun z => (dl_ex hQ hI h).mp z x), if_pos x]
  · rw [if_pos ((dl_ex hQ hI h).mpr x), if_neg x]
theorem LM_burns (hQ : LQ ξ τ) (hI : InvX ξ) (h : vp_in p (ix (ξ 13 0))) : L_burns τ p = M_burns ξ p := by
  have h10 := hQ.lam h
  have hp : ix (ξ 15 (ix p)) < 64 := IX_place hI _
  have hz : ix (ξ 3 (ix (ξ 15 (ix p)))) < 4 := IX_zone hI _
  have g0 : τ 7 (ix (0 : Int32)) = ξ 0 0 := hQ.g.1
  obtain ⟨t, ht, et⟩ := vn (hI.1 0 0 : vp_in (ξ 0 0) 20001) (by decide)
  have eh : ξ 0 0 - ξ 0 0 / (24 : Int32) * (24 : Int32) = nI (t % 24) := by
    rw [et]
    exact pk_rem (d := 24) (by omega) (by decide) (by decide)
  have ed : ξ 0 0 / (24 : Int32) = nI (t / 24) := by
    rw [et]
    exact pk_div (d := 24) (by omega) (by decide) (by decide)
  have e50 : L_burns_j50 τ p = M_burns_j20 ξ p := by
    obtain ⟨a, b, ha, hb, ea, eb, _⟩ := dl3 hQ hI h10
    unfold L_burns_j50 M_burns_j20
    rw [dl_from hQ hI h10, dl_to hQ hI h10, g0, eh, ea, eb, show (24 : Int32) = nI 24 from rfl, sub_add (by omega), sub_add (by omega), pk_rem (by omega) (by decide) (by decide), pk_rem (by omega) (by decide) (by decide)]
    simp (disch := omega) only [nI_eq, nI_leI, nI_ltI]
    (repeat' split) <;> first | rfl | (exfalso; omega)
  have e118 : L_burns_j118 τ p = if M_burns_j109 ξ p = 0 then 0 else if M_burns_j142 ξ p = 0 then 1 else 0 := by
    obtain ⟨c, hc, ec⟩ := vn (hI.1 4 (ix (ξ 3 (ix (ξ 15 (ix p))))) : vp_in (ξ 4 (ix (ξ 3 (ix (ξ 15 (ix p)))))) 25) (by decide)
    obtain ⟨z, hz4, ez⟩ := vn (hI.1 3 (ix (ξ 15 (ix p))) : vp_in (ξ 3 (ix (ξ 15 (ix p)))) 4) (by decide)
    have hf := hQ.fe (z := z) (d := t / 24) hz4 (by omega)
    unfold L_burns_j118 M_burns_j109 M_burns_j142
    rw [dl_place hQ hI h, dp_zone hQ hI hp, dz_cur hQ hI hz, g0, eh, ed, ec, ez, show (4 : Int32) = nI 4 from rfl, show (1000 : Int32) = nI 1000 from rfl, nI_add, pk_mul, nI_add, ixn (by omega), ixn (by omega), hf, show (24 : Int32) = nI 24 from rfl, show (29 : Int32) = nI 29 from rfl, show (6 : Int32) = nI 6 from rfl]
    simp (disch := omega) only [nI_eq, nI_leI, nI_ltI]
    by_cases x : ξ 22 (ix p) = 0
    · have nx : ¬ (128 : Int32) ≤ τ 3 (ix ((nI 6) * p)) := fun w => (dl_ex hQ hI h).mp w x
      simp only [if_neg nx, if_pos x]
      by_cases y : t / 24 < 30
      · simp only [if_pos y, if_neg (show ¬ 29 < t / 24 by omega), if_neg (show ¬ 1000 ≤ t / 24 by omega)]
        by_cases w : (τ 1 (4 + z) >>> (nI (t / 24) &&& 31)) &&& 1 = 0
        · simp only [if_pos w, if_true]
          (repeat' split) <;> first | rfl | (exfalso; omega) | contradiction
        · simp only [if_neg w, i10, if_false]
          (repeat' split) <;> first | rfl | (exfalso; omega) | contradiction
      · simp only [if_neg y, if_pos (show 29 < t / 24 by omega), if_neg (show ¬ 1000 ≤ t / 24 by omega), if_true]
        (repeat' split) <;> first | rfl | (exfalso; omega) | contradiction
    · have nx : (128 : Int32) ≤ τ 3 (ix ((nI 6) * p)) := (dl_ex hQ hI h).mpr x
      simp only [if_pos nx, if_neg x, i10, if_false]
      (repeat' split) <;> first | rfl | (exfalso; omega) | contradiction
  unfold L_burns L_burns_j178 M_burns M_burns_j188
  rw [e50, e118, g0, dl_own hQ hI h]
  have ho : ix (ξ 14 (ix p)) < 2 := Nat.lt_of_lt_of_le (IX_own hI (vp_lt h)) hQ.lim.1
  have e4 : ix ((4 : Int32) * ξ 14 (ix p) + (3 : Int32)) = 4 * ix (ξ 14 (ix p)) + 3 := ixc (f := 4) (c := 3) (hI.1 14 (ix p) : vp_in (ξ 14 (ix p)) 5) (by decide) (by decide)
  rw [e4, (hQ.v ho).2.2.2]
  by_cases a : M_burns_j20 ξ p = 0
  · rw [if_pos a, if_pos a]
  rw [if_neg a, if_neg a]
  by_cases b : M_burns_j109 ξ p = 0
  · rw [if_pos b, if_pos rfl, if_pos b]
  rw [if_neg b, if_neg b]
  by_cases c : M_burns_j142 ξ p = 0
  · rw [if_pos c, if_neg i10, if_pos c, ite_self]
  · rw [if_neg c, if_pos rfl, if_neg c]
theorem LM_apart (hI : InvX ξ) (h2 : vp_in p2 64) : L_apart (ξ 15 (ix p)) p2 = M_distance ξ p p2 := by
  have h1 : vp_in (ξ 15 (ix p)) 64 := hI.1 15 (ix p)
  have a1 := vp_lt h1
  have a2 := vp_lt h2
  unfold L_apart M_distance
  rw [(sh_loc h1).1, (sh_loc h2).1, (sh_loc h1).2, (sh_loc h2).2, sqc (by omega) (by omega), sqc (x := ix (ξ 15 (ix p)) / 8) (by omega) (by omega), Int32.add_comm _ (1 : Int32), Int32.add_assoc]
end LM
end
