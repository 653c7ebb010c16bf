noncomputable section
def M_isShaded_j48 (σ : St) (p1 : Int32) (p2 : Int32) : Int32 := (if (M_size ((p2 - p2 / (8 : Int32) * (8 : Int32)) - ((σ 15 (ix p1)) - (σ 15 (ix p1)) / (8 : Int32) * (8 : Int32)))) ≤ (M_size ((p2 / (8 : Int32)) - ((σ 15 (ix p1)) / (8 : Int32)))) then (M_size ((p2 / (8 : Int32)) - ((σ 15 (ix p1)) / (8 : Int32)))) else (M_size ((p2 - p2 / (8 : Int32) * (8 : Int32)) - ((σ 15 (ix p1)) - (σ 15 (ix p1)) / (8 : Int32) * (8 : Int32)))))
def M_isShaded_j106 (σ : St) (p1 : Int32) (p2 : Int32) (k72 : Nat) (a72_8 : Int32) : Int32 := (if (0 : Int32) < ((((nI k72) - (nI k72) / (8 : Int32) * (8 : Int32)) - ((σ 15 (ix p1)) - (σ 15 (ix p1)) / (8 : Int32) * (8 : Int32))) * ((((nI k72) - (nI k72) / (8 : Int32) * (8 : Int32)) - ((σ 15 (ix p1)) - (σ 15 (ix p1)) / (8 : Int32) * (8 : Int32))) - ((p2 - p2 / (8 : Int32) * (8 : Int32)) - ((σ 15 (ix p1)) - (σ 15 (ix p1)) / (8 : Int32) * (8 : Int32))))) then (0 : Int32) else (if (0 : Int32) < ((((nI k72) / (8 : Int32)) - ((σ 15 (ix p1)) / (8 : Int32))) * ((((nI k72) / (8 : Int32)) - ((σ 15 (ix p1)) / (8 : Int32))) - ((p2 / (8 : Int32)) - ((σ 15 (ix p1)) / (8 : Int32))))) then (0 : Int32) else (1 : Int32)))
theorem M_isShaded_j106_b (σ : St) (p1 : Int32) (p2 : Int32) (k72 : Nat) (a72_8 : Int32) : M_isShaded_j106 σ p1 p2 k72 a72_8 = 0 ∨ M_isShaded_j106 σ p1 p2 k72 a72_8 = 1 := by
  unfold M_isShaded_j106
  (repeat' split) <;> first | exact Or.inl rfl | exact Or.inr rfl
def M_isShaded_j129 (σ : St) (p1 : Int32) (p2 : Int32) (k72 : Nat) (a72_8 : Int32) : Int32 := (if a72_8 = (0 : Int32) then (if (σ 2 (ix (nI k72))) = (0 : Int32) then (0 : Int32) else (if (nI k72) = p2 then (0 : Int32) else (if (nI k72) = (σ 15 (ix p1)) then (0 : Int32) else (if (M_isShaded_j106 σ p1 p2 k72 a72_8) = (0 : Int32) then (0 : Int32) else (if (M_isShaded_j48 σ p1 p2) < ((2 : Int32) * (M_size ((((p2 - p2 / (8 : Int32) * (8 : Int32)) - ((σ 15 (ix p1)) - (σ 15 (ix p1)) / (8 : Int32) * (8 : Int32))) * (((nI k72) / (8 : Int32)) - ((σ 15 (ix p1)) / (8 : Int32)))) - (((p2 / (8 : Int32)) - ((σ 15 (ix p1)) / (8 : Int32))) * (((nI k72) - (nI k72) / (8 : Int32) * (8 : Int32)) - ((σ 15 (ix p1)) - (σ 15 (ix p1)) / (8 : Int32) * (8 : Int32))))))) then (0 : Int32) else (1 : Int32)))))) else (1 : Int32))
theorem M_isShaded_j129_b (σ : St) (p1 : Int32) (p2 : Int32) (k72 : Nat) (a72_8 : Int32) : M_isShaded_j129 σ p1 p2 k72 a72_8 = 0 ∨ M_isShaded_j129 σ p1 p2 k72 a72_8 = 1 := by
  unfold M_isShaded_j129
  (repeat' split) <;> first | exact Or.inl rfl | exact Or.inr rfl
def M_isShaded_L72 (σ : St) (p1 : Int32) (p2 : Int32) (K72 : Int32 → Int32) : Nat → Nat → Int32 → Int32
  | 0, _, a72_8 => K72 a72_8
  | n72 + 1, k72, a72_8 => (M_isShaded_L72 σ p1 p2 K72 n72 (k72 + 1) (M_isShaded_j129 σ p1 p2 k72 a72_8))
def M_isShaded (σ : St) (p1 : Int32) (p2 : Int32) : Int32 := (M_isShaded_L72 σ p1 p2 (fun a72_8 => a72_8) n64 0 (0 : Int32))
end
