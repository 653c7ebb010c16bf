noncomputable section
def M_burns_j20 (σ : St) (p1 : Int32) : Int32 := (if (σ 20 (ix p1)) = (σ 21 (ix p1)) then (1 : Int32) else (if (σ 21 (ix p1)) ≤ (σ 20 (ix p1)) then (if (σ 20 (ix p1)) ≤ ((σ 0 0) - (σ 0 0) / (24 : Int32) * (24 : Int32)) then (1 : Int32) else (if (σ 21 (ix p1)) ≤ ((σ 0 0) - (σ 0 0) / (24 : Int32) * (24 : Int32)) then (0 : Int32) else (1 : Int32))) else (if ((σ 0 0) - (σ 0 0) / (24 : Int32) * (24 : Int32)) < (σ 20 (ix p1)) then (0 : Int32) else (if (σ 21 (ix p1)) ≤ ((σ 0 0) - (σ 0 0) / (24 : Int32) * (24 : Int32)) then (0 : Int32) else (1 : Int32)))))
theorem M_burns_j20_b (σ : St) (p1 : Int32) : M_burns_j20 σ p1 = 0 ∨ M_burns_j20 σ p1 = 1 := by
  unfold M_burns_j20
  (repeat' split) <;> first | exact Or.inl rfl | exact Or.inr rfl
def M_burns_j109 (σ : St) (p1 : Int32) : Int32 := (if (σ 4 (ix (σ 3 (ix (σ 15 (ix p1)))))) = (24 : Int32) then (0 : Int32) else (if (σ 4 (ix (σ 3 (ix (σ 15 (ix p1)))))) ≤ ((σ 0 0) - (σ 0 0) / (24 : Int32) * (24 : Int32)) then (1 : Int32) else (if (6 : Int32) ≤ ((σ 0 0) - (σ 0 0) / (24 : Int32) * (24 : Int32)) then (0 : Int32) else (1 : Int32))))
theorem M_burns_j109_b (σ : St) (p1 : Int32) : M_burns_j109 σ p1 = 0 ∨ M_burns_j109 σ p1 = 1 := by
  unfold M_burns_j109
  (repeat' split) <;> first | exact Or.inl rfl | exact Or.inr rfl
def M_burns_j142 (σ : St) (p1 : Int32) : Int32 := (if (σ 22 (ix p1)) = (0 : Int32) then (if (1000 : Int32) ≤ ((σ 0 0) / (24 : Int32)) then (0 : Int32) else (if (σ 7 (ix (((1000 : Int32) * (σ 3 (ix (σ 15 (ix p1))))) + ((σ 0 0) / (24 : Int32))))) = (0 : Int32) then (0 : Int32) else (1 : Int32))) else (1 : Int32))
theorem M_burns_j142_b (σ : St) (p1 : Int32) : M_burns_j142 σ p1 = 0 ∨ M_burns_j142 σ p1 = 1 := by
  unfold M_burns_j142
  (repeat' split) <;> first | exact Or.inl rfl | exact Or.inr rfl
def M_burns_j188 (σ : St) (p1 : Int32) : Int32 := (if (M_burns_j20 σ p1) = (0 : Int32) then (0 : Int32) else (if (σ 0 0) < (σ 12 (ix (σ 14 (ix p1)))) then (0 : Int32) else (if (M_burns_j109 σ p1) = (0 : Int32) then (1 : Int32) else (if (M_burns_j142 σ p1) = (0 : Int32) then (0 : Int32) else (1 : Int32)))))
theorem M_burns_j188_b (σ : St) (p1 : Int32) : M_burns_j188 σ p1 = 0 ∨ M_burns_j188 σ p1 = 1 := by
  unfold M_burns_j188
  (repeat' split) <;> first | exact Or.inl rfl | exact Or.inr rfl
def M_burns (σ : St) (p1 : Int32) : Int32 := (M_burns_j188 σ p1)
theorem M_burns_b (σ : St) (p1 : Int32) : (M_burns σ p1) = 0 ∨ (M_burns σ p1) = 1 := by
  unfold M_burns
  (repeat' split) <;> first | exact Or.inl rfl | exact Or.inr rfl | exact M_burns_j188_b ..
end
