noncomputable section
def M_lampsOf_j20 (σ : St) (p1 : Int32) (k4 : Nat) (a4_2 : Int32) : Int32 := (if (σ 14 (ix (nI k4))) = p1 then (1 : Int32) else (0 : Int32))
theorem M_lampsOf_j20_b (σ : St) (p1 : Int32) (k4 : Nat) (a4_2 : Int32) : M_lampsOf_j20 σ p1 k4 a4_2 = 0 ∨ M_lampsOf_j20 σ p1 k4 a4_2 = 1 := by
  unfold M_lampsOf_j20
  (repeat' split) <;> first | exact Or.inl rfl | exact Or.inr rfl
def M_lampsOf_L4 (σ : St) (p1 : Int32) (K4 : Int32 → Int32) : Nat → Nat → Int32 → Int32
  | 0, _, a4_2 => K4 a4_2
  | n4 + 1, k4, a4_2 => (M_lampsOf_L4 σ p1 K4 n4 (k4 + 1) (a4_2 + (M_lampsOf_j20 σ p1 k4 a4_2)))
def M_lampsOf (σ : St) (p1 : Int32) : Int32 := (M_lampsOf_L4 σ p1 (fun a4_2 => a4_2) (ix (σ 13 0)) 0 (0 : Int32))
def M_isUnlawful_j18 (σ : St) (p1 : Int32) : Int32 := (if (σ 22 (ix p1)) = (0 : Int32) then (if (σ 5 (ix (σ 3 (ix (σ 15 (ix p1)))))) < (σ 17 (ix p1)) then (1 : Int32) else (if (σ 6 (ix (σ 3 (ix (σ 15 (ix p1)))))) ≤ (σ 18 (ix p1)) then (0 : Int32) else (1 : Int32))) else (0 : Int32))
theorem M_isUnlawful_j18_b (σ : St) (p1 : Int32) : M_isUnlawful_j18 σ p1 = 0 ∨ M_isUnlawful_j18 σ p1 = 1 := by
  unfold M_isUnlawful_j18
  (repeat' split) <;> first | exact Or.inl rfl | exact Or.inr rfl
def M_isUnlawful (σ : St) (p1 : Int32) : Int32 := (M_isUnlawful_j18 σ p1)
theorem M_isUnlawful_b (σ : St) (p1 : Int32) : (M_isUnlawful σ p1) = 0 ∨ (M_isUnlawful σ p1) = 1 := by
  unfold M_isUnlawful
  (repeat' split) <;> first | exact Or.inl rfl | exact Or.inr rfl | exact M_isUnlawful_j18_b ..
def M_light_j21 (σ : St) (p1 : Int32) : Int32 := (if ((σ 23 (ix p1)) / (100 : Int32)) ≤ (50 : Int32) then ((σ 23 (ix p1)) / (100 : Int32)) else (50 : Int32))
def M_light (σ : St) (p1 : Int32) : Int32 := (((((σ 16 (ix p1)) * ((100 : Int32) - (M_light_j21 σ p1))) / (100 : Int32)) * ((10 : Int32) - (σ 19 (ix p1)))) / (10 : Int32))
end
