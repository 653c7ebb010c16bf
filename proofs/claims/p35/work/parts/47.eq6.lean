noncomputable section
theorem size_abs (v : Int32) : M_size v = iAbs v := by
  unfold M_size M_size_j1 iAbs
  by_cases c : 0 ≤ v
  · rw [if_pos c, if_pos c]
  · rw [if_neg c, if_neg c, Int32.zero_sub]
theorem btw8 : ∀ a b c : Fin 8, (0 < (nI c - nI a) * ((nI c - nI a) - (nI b - nI a))) ↔ ¬ (min a.val b.val ≤ c.val ∧ c.val ≤ max a.val b.val) := by decide +kernel
end
