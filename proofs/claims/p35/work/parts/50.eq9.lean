noncomputable section
theorem sq8 : ∀ a b : Fin 8, (nI a - nI b) * (nI a - nI b) = nI (((a.val - b.val) + (b.val - a.val)) * ((a.val - b.val) + (b.val - a.val))) := by decide +kernel
theorem spread {a b c d : Nat} (ha : a < 8) (hb : b < 8) (hc : c < 8) (hd : d < 8) : ¬ ((1 : Int32) + (nI a - nI b) * (nI a - nI b)) + (nI c - nI d) * (nI c - nI d) ≤ 0 := by
  have e1 := sq8 ⟨a, ha⟩ ⟨b, hb⟩
  have e2 := sq8 ⟨c, hc⟩ ⟨d, hd⟩
  have s1 : ((a - b) + (b - a)) * ((a - b) + (b - a)) ≤ 7 * 7 := Nat.mul_le_mul (by omega) (by omega)
  have s2 : ((c - d) + (d - c)) * ((c - d) + (d - c)) ≤ 7 * 7 := Nat.mul_le_mul (by omega) (by omega)
  dsimp only at e1 e2
  rw [e1, e2, show (1 : Int32) = nI 1 from rfl, nI_add, nI_add]
  intro z
  exact absurd ((nI_leI (a := 1 + ((a - b) + (b - a)) * ((a - b) + (b - a)) + ((c - d) + (d - c)) * ((c - d) + (d - c))) (b := 0) (by omega) (by omega)).mp z) (by omega)
theorem col3 {c : Int32} (h : vp_in c 3) : c = 0 ∨ c = 1 ∨ c = 2 := by
  obtain ⟨e, hle⟩ := cnt (N := 2) h (by decide)
  have : ix c = 0 ∨ ix c = 1 ∨ ix c = 2 := by omega
  rcases this with z | z | z
  · rw [e, z]; exact Or.inl rfl
  · rw [e, z]; exact Or.inr (Or.inl rfl)
  · rw [e, z]; exact Or.inr (Or.inr rfl)
theorem sky_eq {σ : St} (hI : InvX σ) (p : Int32) : X_skyLight σ (ix p) = ((M_light σ p * ((10 : Int32) - σ 18 (ix p))) / 10) * ((1 : Int32) <<< (σ 17 (ix p) &&& 31)) := by
  unfold X_skyLight X_skyLight_j33
  rw [light_eq]
  rcases col3 (hI.1 17 (ix p) : vp_in (σ 17 (ix p)) 3) with z | z | z
  · rw [z, if_neg (by decide), if_neg (by decide), show (1 : Int32) <<< ((0 : Int32) &&& 31) = 1 by decide, Int32.mul_one]
  · rw [z, if_neg (by decide), if_pos rfl, show (1 : Int32) <<< ((1 : Int32) &&& 31) = 2 by decide]
  · rw [z, if_pos rfl, show (1 : Int32) <<< ((2 : Int32) &&& 31) = 4 by decide]
theorem air_eq {σ : St} (hI : InvX σ) : X_airFactor σ = (if σ 1 0 = 2 then (5 : Int32) else 1 + σ 1 0) := by
  unfold X_airFactor X_airFactor_j15
  rcases col3 (hI.1 1 0 : vp_in (σ 1 0) 3) with z | z | z
  · rw [z]; decide
  · rw [z]; decide
  · rw [z]; decide
theorem given_eq {σ : St} (hI : InvX σ) {p1 p2 : Int32} (h2 : vp_in p2 64) : X_givenBy σ (ix p1) (ix p2) = M_given σ p1 p2 := by
  have hp := vp_lt h2
  have hl := vp_lt (hI.1 15 (ix p1) : vp_in (σ 15 (ix p1)) 64)
  have e := vp_nI' (hI.1 15 (ix p1) : vp_in (σ 15 (ix p1)) 64) (by decide)
  have e2 := vp_nI' h2 (by decide)
  have hs := shaded_iff (p1 := p1) hl hp e
  rw [← e2] at hs
  unfold X_givenBy X_givenBy_j54 M_given M_given_j53 M_given_j70 M_distance
  rw [burns_eq hI, air_eq hI]
  by_cases c : M_burns σ p1 = 0
  · rw [if_pos c, if_pos c]
  rw [if_neg c, if_neg c]
  have w : X_weakened (X_skyLight σ (ix p1)) (nI (ix p2 % 8) - nI (ix (σ 15 (ix p1)) % 8)) (nI (ix p2 / 8) - nI (ix (σ 15 (ix p1)) / 8)) = (((M_light σ p1 * ((10 : Int32) - σ 18 (ix p1))) / 10) * ((1 : Int32) <<< (σ 17 (ix p1) &&& 31))) / (((1 : Int32) + (((p2 - p2 / 8 * 8) - (σ 15 (ix p1) - σ 15 (ix p1) / 8 * 8)) * ((p2 - p2 / 8 * 8) - (σ 15 (ix p1) - σ 15 (ix p1) / 8 * 8)))) + (((p2 / 8) - (σ 15 (ix p1) / 8)) * ((p2 / 8) - (σ 15 (ix p1) / 8)))) := by
    rw [sky_eq hI]
    have a1 : p2 - p2 / 8 * 8 = nI (ix p2 % 8) := by rw [← rm8 (a := ix p2) (by omega), ← e2]
    have a2 : p2 / 8 = nI (ix p2 / 8) := by rw [← q8 (a := ix p2) (by omega), ← e2]
    have b1 : σ 15 (ix p1) - σ 15 (ix p1) / 8 * 8 = nI (ix (σ 15 (ix p1)) % 8) := by rw [← rm8 (a := ix (σ 15 (ix p1))) (by omega), ← e]
    have b2 : σ 15 (ix p1) / 8 = nI (ix (σ 15 (ix p1)) / 8) := by rw [← q8 (a := ix (σ 15 (ix p1))) (by omega), ← e]
    rw [a1, a2, b1, b2]
    unfold X_weakened X_weakened_j11
    rw [if_neg (spread (by omega) (by omega) (by omega) (by omega))]
  rw [w]
  by_cases s : X_isShaded σ (ix (σ 15 (ix p1))) (ix p2) = 0
  · rw [if_pos s, if_pos (hs.mp s)]
  · rw [if_neg s, if_neg (fun z => s (hs.mpr z))]
end
