noncomputable section
def M_isIn_j2 (p1 : Int32) (p2 : Int32) (p3 : Int32) : Int32 := (if p1 < p2 then (0 : Int32) else (if p3 < p1 then (0 : Int32) else (1 : Int32)))
theorem M_isIn_j2_b (p1 : Int32) (p2 : Int32) (p3 : Int32) : M_isIn_j2 p1 p2 p3 = 0 ∨ M_isIn_j2 p1 p2 p3 = 1 := by
  unfold M_isIn_j2
  (repeat' split) <;> first | exact Or.inl rfl | exact Or.inr rfl
def M_isIn (p1 : Int32) (p2 : Int32) (p3 : Int32) : Int32 := (M_isIn_j2 p1 p2 p3)
theorem M_isIn_b (p1 : Int32) (p2 : Int32) (p3 : Int32) : (M_isIn p1 p2 p3) = 0 ∨ (M_isIn p1 p2 p3) = 1 := by
  unfold M_isIn
  (repeat' split) <;> first | exact Or.inl rfl | exact Or.inr rfl | exact M_isIn_j2_b ..
theorem isIn_iff {v a b : Int32} : (¬ M_isIn v a b = 0) ↔ (a.toInt ≤ v.toInt ∧ v.toInt ≤ b.toInt) := by
  unfold M_isIn M_isIn_j2
  by_cases h1 : v < a
  · rw [if_pos h1]
    rw [Int32.lt_iff_toInt_lt] at h1
    constructor
    · intro h; exact absurd rfl h
    · intro h; omega
  · rw [if_neg h1]
    rw [Int32.lt_iff_toInt_lt] at h1
    by_cases h2 : b < v
    · rw [if_pos h2]
      rw [Int32.lt_iff_toInt_lt] at h2
      constructor
      · intro h; exact absurd rfl h
      · intro h; omega
    · rw [if_neg h2]
      rw [Int32.lt_iff_toInt_lt] at h2
      constructor
      · intro _; omega
      · intro _ h; exact absurd h (by decide)
theorem isIn_in {v : Int32} {N : Nat} {b : Int32} (hb : b.toInt = (N : Int)) (h : ¬ M_isIn v 0 b = 0) : vp_in v (N + 1) := by
  have := isIn_iff.mp h
  rw [Int32.toInt_zero, hb] at this
  exact vp_in_iff.mpr ⟨this.1, by omega⟩
theorem isIn_cnt {v c : Int32} {N : Nat} (hc : vp_in c (N + 1)) (hN : N < 1000000) (h : ¬ M_isIn v 0 (c - 1) = 0) : vp_in v N ∧ ix v < ix c := by
  obtain ⟨e, hle⟩ := cnt hc hN
  have h1 := isIn_iff.mp h
  have h2 : (c - 1).toInt = (ix c : Int) - 1 := by
    have := pk_sub_toInt (a := ix c) (b := 1) (by omega) (by decide)
    rw [← e] at this
    exact this
  rw [Int32.toInt_zero, h2] at h1
  have h3 : vp_in v (ix c) := vp_in_iff.mpr ⟨h1.1, by omega⟩
  exact ⟨vp_up h3 hle, vp_lt h3⟩
def M_isPlace (p1 : Int32) : Int32 := (M_isIn p1 (0 : Int32) (63 : Int32))
theorem M_isPlace_b (p1 : Int32) : (M_isPlace p1) = 0 ∨ (M_isPlace p1) = 1 := by
  unfold M_isPlace
  (repeat' split) <;> first | exact Or.inl rfl | exact Or.inr rfl | exact M_isIn_b ..
def M_isZone (p1 : Int32) : Int32 := (M_isIn p1 (0 : Int32) (3 : Int32))
theorem M_isZone_b (p1 : Int32) : (M_isZone p1) = 0 ∨ (M_isZone p1) = 1 := by
  unfold M_isZone
  (repeat' split) <;> first | exact Or.inl rfl | exact Or.inr rfl | exact M_isIn_b ..
def M_isVillage (σ : St) (p1 : Int32) : Int32 := (M_isIn p1 (0 : Int32) ((σ 8 0) - (1 : Int32)))
theorem M_isVillage_b (σ : St) (p1 : Int32) : (M_isVillage σ p1) = 0 ∨ (M_isVillage σ p1) = 1 := by
  unfold M_isVillage
  (repeat' split) <;> first | exact Or.inl rfl | exact Or.inr rfl | exact M_isIn_b ..
def M_isLamp (σ : St) (p1 : Int32) : Int32 := (M_isIn p1 (0 : Int32) ((σ 13 0) - (1 : Int32)))
theorem M_isLamp_b (σ : St) (p1 : Int32) : (M_isLamp σ p1) = 0 ∨ (M_isLamp σ p1) = 1 := by
  unfold M_isLamp
  (repeat' split) <;> first | exact Or.inl rfl | exact Or.inr rfl | exact M_isIn_b ..
def M_isMeter (σ : St) (p1 : Int32) : Int32 := (M_isIn p1 (0 : Int32) ((σ 26 0) - (1 : Int32)))
theorem M_isMeter_b (σ : St) (p1 : Int32) : (M_isMeter σ p1) = 0 ∨ (M_isMeter σ p1) = 1 := by
  unfold M_isMeter
  (repeat' split) <;> first | exact Or.inl rfl | exact Or.inr rfl | exact M_isIn_b ..
theorem isPlace_in {p : Int32} (h : ¬ M_isPlace p = 0) : vp_in p 64 := isIn_in (N := 63) (by decide) h
theorem isZone_in {p : Int32} (h : ¬ M_isZone p = 0) : vp_in p 4 := isIn_in (N := 3) (by decide) h
theorem isLamp_in {σ : St} (hI : Inv σ) {p : Int32} (h : ¬ M_isLamp σ p = 0) : vp_in p 40 := (isIn_cnt (N := 40) (hI 13 0) (by decide) h).1
theorem isVillage_in {σ : St} (hI : Inv σ) {p : Int32} (h : ¬ M_isVillage σ p = 0) : vp_in p 5 := (isIn_cnt (N := 5) (hI 8 0) (by decide) h).1
theorem isMeter_in {σ : St} (hI : Inv σ) {p : Int32} (h : ¬ M_isMeter σ p = 0) : vp_in p 8 := (isIn_cnt (N := 8) (hI 26 0) (by decide) h).1
def M_size_j1 (p1 : Int32) : Int32 := (if (0 : Int32) ≤ p1 then p1 else (-p1))
def M_size (p1 : Int32) : Int32 := (M_size_j1 p1)
def M_isBound_j10 (σ : St) (p1 : Int32) : Int32 := (if (σ 24 (ix p1)) ≤ (σ 0 0) then (0 : Int32) else (1 : Int32))
theorem M_isBound_j10_b (σ : St) (p1 : Int32) : M_isBound_j10 σ p1 = 0 ∨ M_isBound_j10 σ p1 = 1 := by
  unfold M_isBound_j10
  (repeat' split) <;> first | exact Or.inl rfl | exact Or.inr rfl
def M_isBound (σ : St) (p1 : Int32) : Int32 := (M_isBound_j10 σ p1)
theorem M_isBound_b (σ : St) (p1 : Int32) : (M_isBound σ p1) = 0 ∨ (M_isBound σ p1) = 1 := by
  unfold M_isBound
  (repeat' split) <;> first | exact Or.inl rfl | exact Or.inr rfl | exact M_isBound_j10_b ..
def M_fails_j6 (σ : St) (p1 : Int32) : Int32 := (if p1 ≤ (0 : Int32) then (0 : Int32) else (1 : Int32))
theorem M_fails_j6_b (σ : St) (p1 : Int32) : M_fails_j6 σ p1 = 0 ∨ M_fails_j6 σ p1 = 1 := by
  unfold M_fails_j6
  (repeat' split) <;> first | exact Or.inl rfl | exact Or.inr rfl
def M_fails (σ : St) (p1 : Int32) : Int32 := (M_fails_j6 σ p1)
def M_fails_s (σ : St) (p1 : Int32) : St := (sC σ 41 p1)
theorem M_fails_b (σ : St) (p1 : Int32) : (M_fails σ p1) = 0 ∨ (M_fails σ p1) = 1 := by
  unfold M_fails
  (repeat' split) <;> first | exact Or.inl rfl | exact Or.inr rfl | exact M_fails_j6_b ..
theorem fails_0 (σ : St) : M_fails σ 0 = 0 := by unfold M_fails; (repeat unfold M_fails_j6); decide
theorem fails_1 (σ : St) : M_fails σ 1 = 1 := by unfold M_fails; (repeat unfold M_fails_j6); decide
theorem fails_2 (σ : St) : M_fails σ 2 = 1 := by unfold M_fails; (repeat unfold M_fails_j6); decide
theorem fails_3 (σ : St) : M_fails σ 3 = 1 := by unfold M_fails; (repeat unfold M_fails_j6); decide
theorem i10 : ¬ (1 : Int32) = 0 := by decide
theorem Inv_fails {σ : St} {w : Int32} (hI : Inv σ) : Inv (M_fails_s σ w) := Inv_sC hI trivial
theorem feastix {z t : Int32} (hz : vp_in z 4) (ht : vp_in t 1000) : vp_in (1000 * z + t) 4000 := by
  rw [vp_nI' hz (by decide), vp_nI' ht (by decide)]
  have h1 := vp_lt hz
  have h2 := vp_lt ht
  rw [show (1000 : Int32) = nI 1000 from rfl, pk_mul, nI_add]
  exact vp_in_nI (by omega) (by decide)
theorem div24 {t : Int32} (ht : vp_in t 20001) : vp_in (t / 24) 1000 := by
  rw [vp_nI' ht (by decide)]
  have h1 := vp_lt ht
  rw [show (24 : Int32) = nI 24 from rfl, pk_div (by omega) (by decide) (by decide)]
  exact vp_in_nI (by omega) (by decide)
theorem nIr {i : Int32} {N : Nat} (h : vp_in i N) (hN : N < 2 ^ 31) : i = nI (ix i) := vp_nI' h hN
end
