noncomputable section
def M_glowFrom_j5 (σ : St) (p1 : Int32) (p2 : Int32) : Int32 := (if (M_isPlace p1) = (0 : Int32) then (1 : Int32) else (if (M_isIn p2 (0 : Int32) (4 : Int32)) = (0 : Int32) then (2 : Int32) else (0 : Int32)))
def M_glowFrom_j57 (σ : St) (p1 : Int32) (p2 : Int32) (k39 : Nat) (a39_3 : Int32) : Int32 := (if (M_direction (M_fails_s σ (M_glowFrom_j5 σ p1 p2)) (nI k39) p1) = p2 then (M_given (M_fails_s σ (M_glowFrom_j5 σ p1 p2)) (nI k39) p1) else (0 : Int32))
def M_glowFrom_L39 (σ : St) (p1 : Int32) (p2 : Int32) (K39 : Int32 → Int32) : Nat → Nat → Int32 → Int32
  | 0, _, a39_3 => K39 a39_3
  | n39 + 1, k39, a39_3 => (M_glowFrom_L39 σ p1 p2 K39 n39 (k39 + 1) (a39_3 + (M_glowFrom_j57 σ p1 p2 k39 a39_3)))
def M_glowFrom_L39_s (σ : St) (p1 : Int32) (p2 : Int32) (K39s : Int32 → St) : Nat → Nat → Int32 → St
  | 0, _, a39_3 => K39s a39_3
  | n39 + 1, k39, a39_3 => (M_glowFrom_L39_s σ p1 p2 K39s n39 (k39 + 1) (a39_3 + (M_glowFrom_j57 σ p1 p2 k39 a39_3)))
def M_glowFrom (σ : St) (p1 : Int32) (p2 : Int32) : Int32 := (if (M_fails σ (M_glowFrom_j5 σ p1 p2)) = (0 : Int32) then (M_glowFrom_L39 σ p1 p2 (fun a39_3 => a39_3) (ix (σ 13 0)) 0 (0 : Int32)) else (0 : Int32))
def M_glowFrom_s (σ : St) (p1 : Int32) (p2 : Int32) : St := (if (M_fails σ (M_glowFrom_j5 σ p1 p2)) = (0 : Int32) then (M_glowFrom_L39_s σ p1 p2 (fun a39_3 => (M_fails_s σ (M_glowFrom_j5 σ p1 p2))) (ix (σ 13 0)) 0 (0 : Int32)) else (M_fails_s σ (M_glowFrom_j5 σ p1 p2)))
theorem ok_glowFrom0 {σ : St} {p1 p2 : Int32} (hI : Inv σ) (c : M_fails σ (M_glowFrom_j5 σ p1 p2) = 0) : vp_in p1 64 := by
  refine isPlace_in (fun q => ?_)
  exact fz c (by unfold M_glowFrom_j5; simp [q])
def M_culprit_j5 (σ : St) (p1 : Int32) : Int32 := (if (M_isPlace p1) = (0 : Int32) then (1 : Int32) else (0 : Int32))
theorem M_culprit_j5_b (σ : St) (p1 : Int32) : M_culprit_j5 σ p1 = 0 ∨ M_culprit_j5 σ p1 = 1 := by
  unfold M_culprit_j5
  (repeat' split) <;> first | exact Or.inl rfl | exact Or.inr rfl
def M_culprit_j49 (σ : St) (p1 : Int32) (k28 : Nat) (a28_2 : Int32) (a28_3 : Int32) : Int32 := (if (M_given (M_fails_s σ (M_culprit_j5 σ p1)) (nI k28) p1) ≤ a28_3 then a28_2 else (nI k28))
def M_culprit_j62 (σ : St) (p1 : Int32) (k28 : Nat) (a28_2 : Int32) (a28_3 : Int32) : Int32 := (if (M_given (M_fails_s σ (M_culprit_j5 σ p1)) (nI k28) p1) ≤ a28_3 then a28_3 else (M_given (M_fails_s σ (M_culprit_j5 σ p1)) (nI k28) p1))
def M_culprit_L28 (σ : St) (p1 : Int32) (K28 : Int32 → Int32 → Int32) : Nat → Nat → Int32 → Int32 → Int32
  | 0, _, a28_2, a28_3 => K28 a28_2 a28_3
  | n28 + 1, k28, a28_2, a28_3 => (M_culprit_L28 σ p1 K28 n28 (k28 + 1) (M_culprit_j49 σ p1 k28 a28_2 a28_3) (M_culprit_j62 σ p1 k28 a28_2 a28_3))
def M_culprit_L28_s (σ : St) (p1 : Int32) (K28s : Int32 → Int32 → St) : Nat → Nat → Int32 → Int32 → St
  | 0, _, a28_2, a28_3 => K28s a28_2 a28_3
  | n28 + 1, k28, a28_2, a28_3 => (M_culprit_L28_s σ p1 K28s n28 (k28 + 1) (M_culprit_j49 σ p1 k28 a28_2 a28_3) (M_culprit_j62 σ p1 k28 a28_2 a28_3))
def M_culprit (σ : St) (p1 : Int32) : Int32 := (if (M_fails σ (M_culprit_j5 σ p1)) = (0 : Int32) then (M_culprit_L28 σ p1 (fun a28_2 a28_3 => a28_2) (ix (σ 13 0)) 0 (-1 : Int32) (0 : Int32)) else (0 : Int32))
def M_culprit_s (σ : St) (p1 : Int32) : St := (if (M_fails σ (M_culprit_j5 σ p1)) = (0 : Int32) then (M_culprit_L28_s σ p1 (fun a28_2 a28_3 => (M_fails_s σ (M_culprit_j5 σ p1))) (ix (σ 13 0)) 0 (-1 : Int32) (0 : Int32)) else (M_fails_s σ (M_culprit_j5 σ p1)))
theorem ok_culprit0 {σ : St} {p1 : Int32} (hI : Inv σ) (c : M_fails σ (M_culprit_j5 σ p1) = 0) : vp_in p1 64 := by
  refine isPlace_in (fun q => ?_)
  exact fz c (by unfold M_culprit_j5; simp [q])
def M_ofVillage_j6 (σ : St) (p1 : Int32) (p2 : Int32) : Int32 := (if (M_isVillage σ p1) = (0 : Int32) then (1 : Int32) else (if (M_isIn p2 (0 : Int32) (3 : Int32)) = (0 : Int32) then (2 : Int32) else (0 : Int32)))
def M_ofVillage_j58 (σ : St) (p1 : Int32) (p2 : Int32) (k40 : Nat) (a40_3 : Int32) : Int32 := (if ((M_fails_s σ (M_ofVillage_j6 σ p1 p2)) 14 (ix (nI k40))) = p1 then (if (M_burns (M_fails_s σ (M_ofVillage_j6 σ p1 p2)) (nI k40)) = (0 : Int32) then (0 : Int32) else (1 : Int32)) else (0 : Int32))
theorem M_ofVillage_j58_b (σ : St) (p1 : Int32) (p2 : Int32) (k40 : Nat) (a40_3 : Int32) : M_ofVillage_j58 σ p1 p2 k40 a40_3 = 0 ∨ M_ofVillage_j58 σ p1 p2 k40 a40_3 = 1 := by
  unfold M_ofVillage_j58
  (repeat' split) <;> first | exact Or.inl rfl | exact Or.inr rfl
def M_ofVillage_L40 (σ : St) (p1 : Int32) (p2 : Int32) (K40 : Int32 → Int32) : Nat → Nat → Int32 → Int32
  | 0, _, a40_3 => K40 a40_3
  | n40 + 1, k40, a40_3 => (M_ofVillage_L40 σ p1 p2 K40 n40 (k40 + 1) (a40_3 + (M_ofVillage_j58 σ p1 p2 k40 a40_3)))
def M_ofVillage_L40_s (σ : St) (p1 : Int32) (p2 : Int32) (K40s : Int32 → St) : Nat → Nat → Int32 → St
  | 0, _, a40_3 => K40s a40_3
  | n40 + 1, k40, a40_3 => (M_ofVillage_L40_s σ p1 p2 K40s n40 (k40 + 1) (a40_3 + (M_ofVillage_j58 σ p1 p2 k40 a40_3)))
def M_ofVillage_j84 (σ : St) (p1 : Int32) (p2 : Int32) (a40_3 : Int32) : Int32 := (if p2 = (0 : Int32) then ((M_fails_s σ (M_ofVillage_j6 σ p1 p2)) 10 (ix p1)) else (if p2 = (1 : Int32) then (M_lampsOf (M_fails_s σ (M_ofVillage_j6 σ p1 p2)) p1) else (if p2 = (2 : Int32) then a40_3 else ((M_fails_s σ (M_ofVillage_j6 σ p1 p2)) 11 (ix p1)))))
def M_ofVillage (σ : St) (p1 : Int32) (p2 : Int32) : Int32 := (if (M_fails σ (M_ofVillage_j6 σ p1 p2)) = (0 : Int32) then (M_ofVillage_L40 σ p1 p2 (fun a40_3 => (M_ofVillage_j84 σ p1 p2 a40_3)) (ix (σ 13 0)) 0 (0 : Int32)) else (0 : Int32))
def M_ofVillage_s (σ : St) (p1 : Int32) (p2 : Int32) : St := (if (M_fails σ (M_ofVillage_j6 σ p1 p2)) = (0 : Int32) then (M_ofVillage_L40_s σ p1 p2 (fun a40_3 => (M_fails_s σ (M_ofVillage_j6 σ p1 p2))) (ix (σ 13 0)) 0 (0 : Int32)) else (M_fails_s σ (M_ofVillage_j6 σ p1 p2)))
theorem ok_ofVillage0 {σ : St} {p1 p2 : Int32} (hI : Inv σ) (c : M_fails σ (M_ofVillage_j6 σ p1 p2) = 0) : vp_in p1 5 := by
  refine isVillage_in hI (fun q => ?_)
  exact fz c (by unfold M_ofVillage_j6; simp [q])
theorem tab6 {p : Int32} (h0 : ¬ p = 0) (h1 : ¬ p = 1) (h2 : ¬ p = 2) (h3 : ¬ p = 3) (h4 : ¬ p = 4) (h5 : ¬ p = 5) : p.toInt < 0 ∨ 5 < p.toInt := by
  have g : ∀ k : Int32, ¬ p = k → ¬ p.toInt = k.toInt := fun k h z => h (Int32.toInt_inj.mp z)
  have g0 := g 0 h0
  have g1 := g 1 h1
  have g2 := g 2 h2
  have g3 := g 3 h3
  have g4 := g 4 h4
  have g5 := g 5 h5
  rw [show (0 : Int32).toInt = 0 from rfl] at g0
  rw [show (1 : Int32).toInt = 1 from rfl] at g1
  rw [show (2 : Int32).toInt = 2 from rfl] at g2
  rw [show (3 : Int32).toInt = 3 from rfl] at g3
  rw [show (4 : Int32).toInt = 4 from rfl] at g4
  rw [show (5 : Int32).toInt = 5 from rfl] at g5
  omega
def M_ofLamp_j6 (σ : St) (p1 : Int32) (p2 : Int32) : Int32 := (if (M_isLamp σ p1) = (0 : Int32) then (1 : Int32) else (if (M_isIn p2 (0 : Int32) (6 : Int32)) = (0 : Int32) then (2 : Int32) else (0 : Int32)))
def M_ofLamp_j146 (σ : St) (p1 : Int32) (p2 : Int32) : Int32 := (if (M_isUnlawful (M_fails_s σ (M_ofLamp_j6 σ p1 p2)) p1) = (0 : Int32) then (0 : Int32) else (1 : Int32))
theorem M_ofLamp_j146_b (σ : St) (p1 : Int32) (p2 : Int32) : M_ofLamp_j146 σ p1 p2 = 0 ∨ M_ofLamp_j146 σ p1 p2 = 1 := by
  unfold M_ofLamp_j146
  (repeat' split) <;> first | exact Or.inl rfl | exact Or.inr rfl
def M_ofLamp_j122 (σ : St) (p1 : Int32) (p2 : Int32) : Int32 := (if (M_isBound (M_fails_s σ (M_ofLamp_j6 σ p1 p2)) p1) = (0 : Int32) then (0 : Int32) else (((M_fails_s σ (M_ofLamp_j6 σ p1 p2)) 24 (ix p1)) - ((M_fails_s σ (M_ofLamp_j6 σ p1 p2)) 0 0)))
def M_ofLamp_j81 (σ : St) (p1 : Int32) (p2 : Int32) : Int32 := (if (M_burns (M_fails_s σ (M_ofLamp_j6 σ p1 p2)) p1) = (0 : Int32) then (0 : Int32) else (1 : Int32))
theorem M_ofLamp_j81_b (σ : St) (p1 : Int32) (p2 : Int32) : M_ofLamp_j81 σ p1 p2 = 0 ∨ M_ofLamp_j81 σ p1 p2 = 1 := by
  unfold M_ofLamp_j81
  (repeat' split) <;> first | exact Or.inl rfl | exact Or.inr rfl
def M_ofLamp (σ : St) (p1 : Int32) (p2 : Int32) : Int32 := (if (M_fails σ (M_ofLamp_j6 σ p1 p2)) = (0 : Int32) then (if p2 = 0 then (M_ofLamp_j81 σ p1 p2) else (if p2 = 1 then (M_light (M_fails_s σ (M_ofLamp_j6 σ p1 p2)) p1) else (if p2 = 2 then ((M_fails_s σ (M_ofLamp_j6 σ p1 p2)) 23 (ix p1)) else (if p2 = 3 then ((M_fails_s σ (M_ofLamp_j6 σ p1 p2)) 18 (ix p1)) else (if p2 = 4 then ((M_fails_s σ (M_ofLamp_j6 σ p1 p2)) 19 (ix p1)) else (if p2 = 5 then (M_ofLamp_j122 σ p1 p2) else (M_ofLamp_j146 σ p1 p2))))))) else (0 : Int32))
def M_ofLamp_s (σ : St) (p1 : Int32) (p2 : Int32) : St := (if (M_fails σ (M_ofLamp_j6 σ p1 p2)) = (0 : Int32) then (if p2 = 0 then (M_fails_s σ (M_ofLamp_j6 σ p1 p2)) else (if p2 = 1 then (M_fails_s σ (M_ofLamp_j6 σ p1 p2)) else (if p2 = 2 then (M_fails_s σ (M_ofLamp_j6 σ p1 p2)) else (if p2 = 3 then (M_fails_s σ (M_ofLamp_j6 σ p1 p2)) else (if p2 = 4 then (M_fails_s σ (M_ofLamp_j6 σ p1 p2)) else (if p2 = 5 then (M_fails_s σ (M_ofLamp_j6 σ p1 p2)) else (M_fails_s σ (M_ofLamp_j6 σ p1 p2)))))))) else (M_fails_s σ (M_ofLamp_j6 σ p1 p2)))
theorem ok_ofLamp0 {σ : St} {p1 p2 : Int32} (hI : Inv σ) (c : M_fails σ (M_ofLamp_j6 σ p1 p2) = 0) : vp_in p1 40 := by
  refine isLamp_in hI (fun q => ?_)
  exact fz c (by unfold M_ofLamp_j6; simp [q])
end
