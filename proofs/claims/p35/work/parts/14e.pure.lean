noncomputable section
def M_distance (σ : St) (p1 : Int32) (p2 : Int32) : Int32 := (((1 : Int32) + (((p2 - p2 / (8 : Int32) * (8 : Int32)) - ((σ 15 (ix p1)) - (σ 15 (ix p1)) / (8 : Int32) * (8 : Int32))) * ((p2 - p2 / (8 : Int32) * (8 : Int32)) - ((σ 15 (ix p1)) - (σ 15 (ix p1)) / (8 : Int32) * (8 : Int32))))) + (((p2 / (8 : Int32)) - ((σ 15 (ix p1)) / (8 : Int32))) * ((p2 / (8 : Int32)) - ((σ 15 (ix p1)) / (8 : Int32)))))
theorem dist_tab : ∀ a, a < 64 → ∀ b, b < 64 → ¬ (1 + (nI a - nI a / 8 * 8 - (nI b - nI b / 8 * 8)) * (nI a - nI a / 8 * 8 - (nI b - nI b / 8 * 8)) + (nI a / 8 - nI b / 8) * (nI a / 8 - nI b / 8)) = 0 := by decide +kernel
theorem distance_nz {σ : St} (hI : Inv σ) {l p : Int32} (hl : vp_in l 40) (hp : vp_in p 64) : ¬ M_distance σ l p = 0 := by
  have h1 := Inv_place hI (vp_lt hl)
  unfold M_distance
  rw [vp_nI' h1 (by decide), vp_nI' hp (by decide)]
  exact dist_tab _ (vp_lt hp) _ (vp_lt h1)
end
