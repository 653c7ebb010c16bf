noncomputable section
theorem sS_same (σ : St) (k i : Nat) (v : Int32) : sS σ k i v k i = v := by unfold sS; rw [sU_same]; exact if_pos rfl
theorem rowB {m : Int32} (hm : vp_in m 8) : 10 * m + 10 - 1 = nI (10 * ix m + 9) := by
  have h1 := vp_lt hm
  have e := vp_nI' hm (by decide)
  have h2 : 10 * m + 10 - 1 = nI 10 * nI (ix m) + nI 10 - nI 1 := by rw [← e]; rfl
  rw [h2, pk_mul, nI_add, pk_sub (by omega)]
  rfl
theorem rowA {m : Int32} (hm : vp_in m 8) : 10 * m = nI (10 * ix m) := by
  have e := vp_nI' hm (by decide)
  rw [← pk_mul, ← e]
  rfl
theorem rdA {s : St} {i : Nat} (h : s 31 i = 10) : vp_in (sS s 31 i (s 31 i - 1) 31 i) 10 := by
  rw [sS_same, h]
  exact vp_in_nI (n := 9) (by decide) (by decide)
theorem rdC {s : St} {i : Nat} (h : s 31 i = 10) : vp_in (s 31 i - 1) 11 := by
  rw [h]
  exact vp_in_nI (n := 9) (by decide) (by decide)
theorem r8 (k : Nat) (hk : k < 64) : nI k - nI k / 8 * 8 = nI (k % 8) := pk_rem (a := k) (d := 8) (by omega) (by decide) (by decide)
theorem wayL {k : Nat} (hk : k < 64) (c : ¬ (nI k - nI k / 8 * 8 ≤ 0)) : vp_in (nI k - 1) 64 := by
  rw [r8 k hk] at c
  have h0 : ¬ k = 0 := fun z => c (by rw [z]; decide)
  have h2 := pk_sub (a := k) (b := 1) (by omega)
  rw [show (1 : Int32) = nI 1 from rfl, h2]
  exact vp_in_nI (by omega) (by decide)
theorem wayR {k : Nat} (hk : k < 64) (c : ¬ (7 ≤ nI k - nI k / 8 * 8)) : vp_in (nI k + 1) 64 := by
  rw [r8 k hk] at c
  have h0 : ¬ k = 63 := fun z => c (by rw [z]; decide)
  rw [nI_1]
  exact vp_in_nI (by omega) (by decide)
theorem wayU {k : Nat} (hk : k < 64) (c : ¬ (nI k ≤ 7)) : vp_in (nI k - 8) 64 := by
  have h0 : ¬ k ≤ 7 := fun z => c (nI_le z (by decide))
  have h2 := pk_sub (a := k) (b := 8) (by omega)
  rw [show (8 : Int32) = nI 8 from rfl, h2]
  exact vp_in_nI (by omega) (by decide)
theorem wayD {k : Nat} (hk : k < 64) (c : ¬ (56 ≤ nI k)) : vp_in (nI k + 8) 64 := by
  have h0 : ¬ 56 ≤ k := fun z => c (nI_le z (by omega))
  rw [show (8 : Int32) = nI 8 from rfl, nI_add]
  exact vp_in_nI (by omega) (by decide)
def M_read_j6 (σ : St) (p1 : Int32) : Int32 := (if (M_isMeter σ p1) = (0 : Int32) then (1 : Int32) else (0 : Int32))
theorem M_read_j6_b (σ : St) (p1 : Int32) : M_read_j6 σ p1 = 0 ∨ M_read_j6 σ p1 = 1 := by
  unfold M_read_j6
  (repeat' split) <;> first | exact Or.inl rfl | exact Or.inr rfl
def M_read_L40 (σ : St) (p1 : Int32) (K40 : St → Int32) : Nat → Nat → St → Int32
  | 0, _, s40 => K40 s40
  | n40 + 1, k40, s40 => (M_read_L40 σ p1 K40 n40 (k40 + 1) (sS (sS s40 32 (ix (nI k40)) (s40 32 (ix ((nI k40) + (1 : Int32))))) 33 (ix (nI k40)) ((sS s40 32 (ix (nI k40)) (s40 32 (ix ((nI k40) + (1 : Int32))))) 33 (ix ((nI k40) + (1 : Int32))))))
def M_read_L40_s (σ : St) (p1 : Int32) (K40s : St → St) : Nat → Nat → St → St
  | 0, _, s40 => K40s s40
  | n40 + 1, k40, s40 => (M_read_L40_s σ p1 K40s n40 (k40 + 1) (sS (sS s40 32 (ix (nI k40)) (s40 32 (ix ((nI k40) + (1 : Int32))))) 33 (ix (nI k40)) ((sS s40 32 (ix (nI k40)) (s40 32 (ix ((nI k40) + (1 : Int32))))) 33 (ix ((nI k40) + (1 : Int32))))))
def M_read (σ : St) (p1 : Int32) : Int32 := (if (M_fails σ (M_read_j6 σ p1)) = (0 : Int32) then (if ((M_fails_s σ (M_read_j6 σ p1)) 31 (ix p1)) = (10 : Int32) then (M_read_L40 σ p1 (fun s40 => ((sS (sS (sS (sS s40 31 (ix p1) ((s40 31 (ix p1)) - (1 : Int32))) 32 (ix (((10 : Int32) * p1) + ((sS s40 31 (ix p1) ((s40 31 (ix p1)) - (1 : Int32))) 31 (ix p1)))) ((sS s40 31 (ix p1) ((s40 31 (ix p1)) - (1 : Int32))) 0 0)) 33 (ix (((10 : Int32) * p1) + ((sS s40 31 (ix p1) ((s40 31 (ix p1)) - (1 : Int32))) 31 (ix p1)))) (((((M_glowOf (sS (sS s40 31 (ix p1) ((s40 31 (ix p1)) - (1 : Int32))) 32 (ix (((10 : Int32) * p1) + ((sS s40 31 (ix p1) ((s40 31 (ix p1)) - (1 : Int32))) 31 (ix p1)))) ((sS s40 31 (ix p1) ((s40 31 (ix p1)) - (1 : Int32))) 0 0)) ((sS (sS s40 31 (ix p1) ((s40 31 (ix p1)) - (1 : Int32))) 32 (ix (((10 : Int32) * p1) + ((sS s40 31 (ix p1) ((s40 31 (ix p1)) - (1 : Int32))) 31 (ix p1)))) ((sS s40 31 (ix p1) ((s40 31 (ix p1)) - (1 : Int32))) 0 0)) 27 (ix p1))) + (M_moon ((sS (sS s40 31 (ix p1) ((s40 31 (ix p1)) - (1 : Int32))) 32 (ix (((10 : Int32) * p1) + ((sS s40 31 (ix p1) ((s40 31 (ix p1)) - (1 : Int32))) 31 (ix p1)))) ((sS s40 31 (ix p1) ((s40 31 (ix p1)) - (1 : Int32))) 0 0)) 0 0))) + (20 : Int32)) + ((sS (sS s40 31 (ix p1) ((s40 31 (ix p1)) - (1 : Int32))) 32 (ix (((10 : Int32) * p1) + ((sS s40 31 (ix p1) ((s40 31 (ix p1)) - (1 : Int32))) 31 (ix p1)))) ((sS s40 31 (ix p1) ((s40 31 (ix p1)) - (1 : Int32))) 0 0)) 28 (ix p1))) + (((sS (sS s40 31 (ix p1) ((s40 31 (ix p1)) - (1 : Int32))) 32 (ix (((10 : Int32) * p1) + ((sS s40 31 (ix p1) ((s40 31 (ix p1)) - (1 : Int32))) 31 (ix p1)))) ((sS s40 31 (ix p1) ((s40 31 (ix p1)) - (1 : Int32))) 0 0)) 29 (ix p1)) * (((sS (sS s40 31 (ix p1) ((s40 31 (ix p1)) - (1 : Int32))) 32 (ix (((10 : Int32) * p1) + ((sS s40 31 (ix p1) ((s40 31 (ix p1)) - (1 : Int32))) 31 (ix p1)))) ((sS s40 31 (ix p1) ((s40 31 (ix p1)) - (1 : Int32))) 0 0)) 0 0) / (24 : Int32))))) 31 (ix p1) (((sS (sS (sS s40 31 (ix p1) ((s40 31 (ix p1)) - (1 : Int32))) 32 (ix (((10 : Int32) * p1) + ((sS s40 31 (ix p1) ((s40 31 (ix p1)) - (1 : Int32))) 31 (ix p1)))) ((sS s40 31 (ix p1) ((s40 31 (ix p1)) - (1 : Int32))) 0 0)) 33 (ix (((10 : Int32) * p1) + ((sS s40 31 (ix p1) ((s40 31 (ix p1)) - (1 : Int32))) 31 (ix p1)))) (((((M_glowOf (sS (sS s40 31 (ix p1) ((s40 31 (ix p1)) - (1 : Int32))) 32 (ix (((10 : Int32) * p1) + ((sS s40 31 (ix p1) ((s40 31 (ix p1)) - (1 : Int32))) 31 (ix p1)))) ((sS s40 31 (ix p1) ((s40 31 (ix p1)) - (1 : Int32))) 0 0)) ((sS (sS s40 31 (ix p1) ((s40 31 (ix p1)) - (1 : Int32))) 32 (ix (((10 : Int32) * p1) + ((sS s40 31 (ix p1) ((s40 31 (ix p1)) - (1 : Int32))) 31 (ix p1)))) ((sS s40 31 (ix p1) ((s40 31 (ix p1)) - (1 : Int32))) 0 0)) 27 (ix p1))) + (M_moon ((sS (sS s40 31 (ix p1) ((s40 31 (ix p1)) - (1 : Int32))) 32 (ix (((10 : Int32) * p1) + ((sS s40 31 (ix p1) ((s40 31 (ix p1)) - (1 : Int32))) 31 (ix p1)))) ((sS s40 31 (ix p1) ((s40 31 (ix p1)) - (1 : Int32))) 0 0)) 0 0))) + (20 : Int32)) + ((sS (sS s40 31 (ix p1) ((s40 31 (ix p1)) - (1 : Int32))) 32 (ix (((10 : Int32) * p1) + ((sS s40 31 (ix p1) ((s40 31 (ix p1)) - (1 : Int32))) 31 (ix p1)))) ((sS s40 31 (ix p1) ((s40 31 (ix p1)) - (1 : Int32))) 0 0)) 28 (ix p1))) + (((sS (sS s40 31 (ix p1) ((s40 31 (ix p1)) - (1 : Int32))) 32 (ix (((10 : Int32) * p1) + ((sS s40 31 (ix p1) ((s40 31 (ix p1)) - (1 : Int32))) 31 (ix p1)))) ((sS s40 31 (ix p1) ((s40 31 (ix p1)) - (1 : Int32))) 0 0)) 29 (ix p1)) * (((sS (sS s40 31 (ix p1) ((s40 31 (ix p1)) - (1 : Int32))) 32 (ix (((10 : Int32) * p1) + ((sS s40 31 (ix p1) ((s40 31 (ix p1)) - (1 : Int32))) 31 (ix p1)))) ((sS s40 31 (ix p1) ((s40 31 (ix p1)) - (1 : Int32))) 0 0)) 0 0) / (24 : Int32))))) 31 (ix p1)) + (1 : Int32))) 33 (ix (((10 : Int32) * p1) + ((sS s40 31 (ix p1) ((s40 31 (ix p1)) - (1 : Int32))) 31 (ix p1)))))) n9 (10 * ix p1) (M_fails_s σ (M_read_j6 σ p1))) else ((sS (sS (sS (M_fails_s σ (M_read_j6 σ p1)) 32 (ix (((10 : Int32) * p1) + ((M_fails_s σ (M_read_j6 σ p1)) 31 (ix p1)))) ((M_fails_s σ (M_read_j6 σ p1)) 0 0)) 33 (ix (((10 : Int32) * p1) + ((M_fails_s σ (M_read_j6 σ p1)) 31 (ix p1)))) (((((M_glowOf (sS (M_fails_s σ (M_read_j6 σ p1)) 32 (ix (((10 : Int32) * p1) + ((M_fails_s σ (M_read_j6 σ p1)) 31 (ix p1)))) ((M_fails_s σ (M_read_j6 σ p1)) 0 0)) ((sS (M_fails_s σ (M_read_j6 σ p1)) 32 (ix (((10 : Int32) * p1) + ((M_fails_s σ (M_read_j6 σ p1)) 31 (ix p1)))) ((M_fails_s σ (M_read_j6 σ p1)) 0 0)) 27 (ix p1))) + (M_moon ((sS (M_fails_s σ (M_read_j6 σ p1)) 32 (ix (((10 : Int32) * p1) + ((M_fails_s σ (M_read_j6 σ p1)) 31 (ix p1)))) ((M_fails_s σ (M_read_j6 σ p1)) 0 0)) 0 0))) + (20 : Int32)) + ((sS (M_fails_s σ (M_read_j6 σ p1)) 32 (ix (((10 : Int32) * p1) + ((M_fails_s σ (M_read_j6 σ p1)) 31 (ix p1)))) ((M_fails_s σ (M_read_j6 σ p1)) 0 0)) 28 (ix p1))) + (((sS (M_fails_s σ (M_read_j6 σ p1)) 32 (ix (((10 : Int32) * p1) + ((M_fails_s σ (M_read_j6 σ p1)) 31 (ix p1)))) ((M_fails_s σ (M_read_j6 σ p1)) 0 0)) 29 (ix p1)) * (((sS (M_fails_s σ (M_read_j6 σ p1)) 32 (ix (((10 : Int32) * p1) + ((M_fails_s σ (M_read_j6 σ p1)) 31 (ix p1)))) ((M_fails_s σ (M_read_j6 σ p1)) 0 0)) 0 0) / (24 : Int32))))) 31 (ix p1) (((sS (sS (M_fails_s σ (M_read_j6 σ p1)) 32 (ix (((10 : Int32) * p1) + ((M_fails_s σ (M_read_j6 σ p1)) 31 (ix p1)))) ((M_fails_s σ (M_read_j6 σ p1)) 0 0)) 33 (ix (((10 : Int32) * p1) + ((M_fails_s σ (M_read_j6 σ p1)) 31 (ix p1)))) (((((M_glowOf (sS (M_fails_s σ (M_read_j6 σ p1)) 32 (ix (((10 : Int32) * p1) + ((M_fails_s σ (M_read_j6 σ p1)) 31 (ix p1)))) ((M_fails_s σ (M_read_j6 σ p1)) 0 0)) ((sS (M_fails_s σ (M_read_j6 σ p1)) 32 (ix (((10 : Int32) * p1) + ((M_fails_s σ (M_read_j6 σ p1)) 31 (ix p1)))) ((M_fails_s σ (M_read_j6 σ p1)) 0 0)) 27 (ix p1))) + (M_moon ((sS (M_fails_s σ (M_read_j6 σ p1)) 32 (ix (((10 : Int32) * p1) + ((M_fails_s σ (M_read_j6 σ p1)) 31 (ix p1)))) ((M_fails_s σ (M_read_j6 σ p1)) 0 0)) 0 0))) + (20 : Int32)) + ((sS (M_fails_s σ (M_read_j6 σ p1)) 32 (ix (((10 : Int32) * p1) + ((M_fails_s σ (M_read_j6 σ p1)) 31 (ix p1)))) ((M_fails_s σ (M_read_j6 σ p1)) 0 0)) 28 (ix p1))) + (((sS (M_fails_s σ (M_read_j6 σ p1)) 32 (ix (((10 : Int32) * p1) + ((M_fails_s σ (M_read_j6 σ p1)) 31 (ix p1)))) ((M_fails_s σ (M_read_j6 σ p1)) 0 0)) 29 (ix p1)) * (((sS (M_fails_s σ (M_read_j6 σ p1)) 32 (ix (((10 : Int32) * p1) + ((M_fails_s σ (M_read_j6 σ p1)) 31 (ix p1)))) ((M_fails_s σ (M_read_j6 σ p1)) 0 0)) 0 0) / (24 : Int32))))) 31 (ix p1)) + (1 : Int32))) 33 (ix (((10 : Int32) * p1) + ((M_fails_s σ (M_read_j6 σ p1)) 31 (ix p1)))))) else (0 : Int32))
def M_read_s (σ : St) (p1 : Int32) : St := (if (M_fails σ (M_read_j6 σ p1)) = (0 : Int32) then (if ((M_fails_s σ (M_read_j6 σ p1)) 31 (ix p1)) = (10 : Int32) then (M_read_L40_s σ p1 (fun s40 => (sS (sS (sS (sS s40 31 (ix p1) ((s40 31 (ix p1)) - (1 : Int32))) 32 (ix (((10 : Int32) * p1) + ((sS s40 31 (ix p1) ((s40 31 (ix p1)) - (1 : Int32))) 31 (ix p1)))) ((sS s40 31 (ix p1) ((s40 31 (ix p1)) - (1 : Int32))) 0 0)) 33 (ix (((10 : Int32) * p1) + ((sS s40 31 (ix p1) ((s40 31 (ix p1)) - (1 : Int32))) 31 (ix p1)))) (((((M_glowOf (sS (sS s40 31 (ix p1) ((s40 31 (ix p1)) - (1 : Int32))) 32 (ix (((10 : Int32) * p1) + ((sS s40 31 (ix p1) ((s40 31 (ix p1)) - (1 : Int32))) 31 (ix p1)))) ((sS s40 31 (ix p1) ((s40 31 (ix p1)) - (1 : Int32))) 0 0)) ((sS (sS s40 31 (ix p1) ((s40 31 (ix p1)) - (1 : Int32))) 32 (ix (((10 : Int32) * p1) + ((sS s40 31 (ix p1) ((s40 31 (ix p1)) - (1 : Int32))) 31 (ix p1)))) ((sS s40 31 (ix p1) ((s40 31 (ix p1)) - (1 : Int32))) 0 0)) 27 (ix p1))) + (M_moon ((sS (sS s40 31 (ix p1) ((s40 31 (ix p1)) - (1 : Int32))) 32 (ix (((10 : Int32) * p1) + ((sS s40 31 (ix p1) ((s40 31 (ix p1)) - (1 : Int32))) 31 (ix p1)))) ((sS s40 31 (ix p1) ((s40 31 (ix p1)) - (1 : Int32))) 0 0)) 0 0))) + (20 : Int32)) + ((sS (sS s40 31 (ix p1) ((s40 31 (ix p1)) - (1 : Int32))) 32 (ix (((10 : Int32) * p1) + ((sS s40 31 (ix p1) ((s40 31 (ix p1)) - (1 : Int32))) 31 (ix p1)))) ((sS s40 31 (ix p1) ((s40 31 (ix p1)) - (1 : Int32))) 0 0)) 28 (ix p1))) + (((sS (sS s40 31 (ix p1) ((s40 31 (ix p1)) - (1 : Int32))) 32 (ix (((10 : Int32) * p1) + ((sS s40 31 (ix p1) ((s40 31 (ix p1)) - (1 : Int32))) 31 (ix p1)))) ((sS s40 31 (ix p1) ((s40 31 (ix p1)) - (1 : Int32))) 0 0)) 29 (ix p1)) * (((sS (sS s40 31 (ix p1) ((s40 31 (ix p1)) - (1 : Int32))) 32 (ix (((10 : Int32) * p1) + ((sS s40 31 (ix p1) ((s40 31 (ix p1)) - (1 : Int32))) 31 (ix p1)))) ((sS s40 31 (ix p1) ((s40 31 (ix p1)) - (1 : Int32))) 0 0)) 0 0) / (24 : Int32))))) 31 (ix p1) (((sS (sS (sS s40 31 (ix p1) ((s40 31 (ix p1)) - (1 : Int32))) 32 (ix (((10 : Int32) * p1) + ((sS s40 31 (ix p1) ((s40 31 (ix p1)) - (1 : Int32))) 31 (ix p1)))) ((sS s40 31 (ix p1) ((s40 31 (ix p1)) - (1 : Int32))) 0 0)) 33 (ix (((10 : Int32) * p1) + ((sS s40 31 (ix p1) ((s40 31 (ix p1)) - (1 : Int32))) 31 (ix p1)))) (((((M_glowOf (sS (sS s40 31 (ix p1) ((s40 31 (ix p1)) - (1 : Int32))) 32 (ix (((10 : Int32) * p1) + ((sS s40 31 (ix p1) ((s40 31 (ix p1)) - (1 : Int32))) 31 (ix p1)))) ((sS s40 31 (ix p1) ((s40 31 (ix p1)) - (1 : Int32))) 0 0)) ((sS (sS s40 31 (ix p1) ((s40 31 (ix p1)) - (1 : Int32))) 32 (ix (((10 : Int32) * p1) + ((sS s40 31 (ix p1) ((s40 31 (ix p1)) - (1 : Int32))) 31 (ix p1)))) ((sS s40 31 (ix p1) ((s40 31 (ix p1)) - (1 : Int32))) 0 0)) 27 (ix p1))) + (M_moon ((sS (sS s40 31 (ix p1) ((s40 31 (ix p1)) - (1 : Int32))) 32 (ix (((10 : Int32) * p1) + ((sS s40 31 (ix p1) ((s40 31 (ix p1)) - (1 : Int32))) 31 (ix p1)))) ((sS s40 31 (ix p1) ((s40 31 (ix p1)) - (1 : Int32))) 0 0)) 0 0))) + (20 : Int32)) + ((sS (sS s40 31 (ix p1) ((s40 31 (ix p1)) - (1 : Int32))) 32 (ix (((10 : Int32) * p1) + ((sS s40 31 (ix p1) ((s40 31 (ix p1)) - (1 : Int32))) 31 (ix p1)))) ((sS s40 31 (ix p1) ((s40 31 (ix p1)) - (1 : Int32))) 0 0)) 28 (ix p1))) + (((sS (sS s40 31 (ix p1) ((s40 31 (ix p1)) - (1 : Int32))) 32 (ix (((10 : Int32) * p1) + ((sS s40 31 (ix p1) ((s40 31 (ix p1)) - (1 : Int32))) 31 (ix p1)))) ((sS s40 31 (ix p1) ((s40 31 (ix p1)) - (1 : Int32))) 0 0)) 29 (ix p1)) * (((sS (sS s40 31 (ix p1) ((s40 31 (ix p1)) - (1 : Int32))) 32 (ix (((10 : Int32) * p1) + ((sS s40 31 (ix p1) ((s40 31 (ix p1)) - (1 : Int32))) 31 (ix p1)))) ((sS s40 31 (ix p1) ((s40 31 (ix p1)) - (1 : Int32))) 0 0)) 0 0) / (24 : Int32))))) 31 (ix p1)) + (1 : Int32)))) n9 (10 * ix p1) (M_fails_s σ (M_read_j6 σ p1))) else (sS (sS (sS (M_fails_s σ (M_read_j6 σ p1)) 32 (ix (((10 : Int32) * p1) + ((M_fails_s σ (M_read_j6 σ p1)) 31 (ix p1)))) ((M_fails_s σ (M_read_j6 σ p1)) 0 0)) 33 (ix (((10 : Int32) * p1) + ((M_fails_s σ (M_read_j6 σ p1)) 31 (ix p1)))) (((((M_glowOf (sS (M_fails_s σ (M_read_j6 σ p1)) 32 (ix (((10 : Int32) * p1) + ((M_fails_s σ (M_read_j6 σ p1)) 31 (ix p1)))) ((M_fails_s σ (M_read_j6 σ p1)) 0 0)) ((sS (M_fails_s σ (M_read_j6 σ p1)) 32 (ix (((10 : Int32) * p1) + ((M_fails_s σ (M_read_j6 σ p1)) 31 (ix p1)))) ((M_fails_s σ (M_read_j6 σ p1)) 0 0)) 27 (ix p1))) + (M_moon ((sS (M_fails_s σ (M_read_j6 σ p1)) 32 (ix (((10 : Int32) * p1) + ((M_fails_s σ (M_read_j6 σ p1)) 31 (ix p1)))) ((M_fails_s σ (M_read_j6 σ p1)) 0 0)) 0 0))) + (20 : Int32)) + ((sS (M_fails_s σ (M_read_j6 σ p1)) 32 (ix (((10 : Int32) * p1) + ((M_fails_s σ (M_read_j6 σ p1)) 31 (ix p1)))) ((M_fails_s σ (M_read_j6 σ p1)) 0 0)) 28 (ix p1))) + (((sS (M_fails_s σ (M_read_j6 σ p1)) 32 (ix (((10 : Int32) * p1) + ((M_fails_s σ (M_read_j6 σ p1)) 31 (ix p1)))) ((M_fails_s σ (M_read_j6 σ p1)) 0 0)) 29 (ix p1)) * (((sS (M_fails_s σ (M_read_j6 σ p1)) 32 (ix (((10 : Int32) * p1) + ((M_fails_s σ (M_read_j6 σ p1)) 31 (ix p1)))) ((M_fails_s σ (M_read_j6 σ p1)) 0 0)) 0 0) / (24 : Int32))))) 31 (ix p1) (((sS (sS (M_fails_s σ (M_read_j6 σ p1)) 32 (ix (((10 : Int32) * p1) + ((M_fails_s σ (M_read_j6 σ p1)) 31 (ix p1)))) ((M_fails_s σ (M_read_j6 σ p1)) 0 0)) 33 (ix (((10 : Int32) * p1) + ((M_fails_s σ (M_read_j6 σ p1)) 31 (ix p1)))) (((((M_glowOf (sS (M_fails_s σ (M_read_j6 σ p1)) 32 (ix (((10 : Int32) * p1) + ((M_fails_s σ (M_read_j6 σ p1)) 31 (ix p1)))) ((M_fails_s σ (M_read_j6 σ p1)) 0 0)) ((sS (M_fails_s σ (M_read_j6 σ p1)) 32 (ix (((10 : Int32) * p1) + ((M_fails_s σ (M_read_j6 σ p1)) 31 (ix p1)))) ((M_fails_s σ (M_read_j6 σ p1)) 0 0)) 27 (ix p1))) + (M_moon ((sS (M_fails_s σ (M_read_j6 σ p1)) 32 (ix (((10 : Int32) * p1) + ((M_fails_s σ (M_read_j6 σ p1)) 31 (ix p1)))) ((M_fails_s σ (M_read_j6 σ p1)) 0 0)) 0 0))) + (20 : Int32)) + ((sS (M_fails_s σ (M_read_j6 σ p1)) 32 (ix (((10 : Int32) * p1) + ((M_fails_s σ (M_read_j6 σ p1)) 31 (ix p1)))) ((M_fails_s σ (M_read_j6 σ p1)) 0 0)) 28 (ix p1))) + (((sS (M_fails_s σ (M_read_j6 σ p1)) 32 (ix (((10 : Int32) * p1) + ((M_fails_s σ (M_read_j6 σ p1)) 31 (ix p1)))) ((M_fails_s σ (M_read_j6 σ p1)) 0 0)) 29 (ix p1)) * (((sS (M_fails_s σ (M_read_j6 σ p1)) 32 (ix (((10 : Int32) * p1) + ((M_fails_s σ (M_read_j6 σ p1)) 31 (ix p1)))) ((M_fails_s σ (M_read_j6 σ p1)) 0 0)) 0 0) / (24 : Int32))))) 31 (ix p1)) + (1 : Int32)))) else (M_fails_s σ (M_read_j6 σ p1)))
theorem ok_read0 {σ : St} {p1 : Int32} (hI : Inv σ) (c : M_fails σ (M_read_j6 σ p1) = 0) : vp_in p1 8 := by
  refine isMeter_in hI (fun q => ?_)
  exact fz c (by unfold M_read_j6; simp [q])
theorem cw_X11_read : Cond.instanceMethod yX11_read ∈ GW ∧ Cond.selects RX11 yX11_read yX11_read ∈ GW ∧ Cond.initialized RX11 ∈ GW ∧ Cond.code yX11_read cX11_read 4 (some .int) ∈ GW ∧ yX11_read.cls = RX11 ∧ (yX11_read.cls ≠ "java/lang/invoke/MethodHandle" ∧ yX11_read.cls ≠ "java/lang/invoke/VarHandle") ∧ (parseMethodDescriptor yX11_read.desc).map (fun d => d.parameters.length) = some 1 := ⟨gw_5_236, gw_5_237, gw_1_14, gw_5_238, rfl, ⟨by decide, by decide⟩, by decide +kernel⟩
set_option maxRecDepth 100000 in
set_option maxHeartbeats 4000000 in
theorem c_M_read {l : Launch} {D : va_G} {ca : Nat → Nat} {h : fH} {m : Nat} {ρ : Nat → Nat} {σ : St} (hR : RM ca h m ρ σ) (hI : Inv σ) (p1 : Int32) : FM l D ca yX11_read (.code yX11_read cX11_read 4 (some .int)) { frames := 5, cells := 0, slots := 0, locals := 118 } [.ref m, .int p1] h (pIM (M_read σ p1) (fun h2 => RM ca h2 m ρ (M_read_s σ p1))) noX := by
  refine FM.of [some (.ref m), some (.int p1), none, none] (by decide) (Nat.le_of_ble_eq_true rfl) rfl ?_
  rintro K X rfl rfl rfl
  have q_v : (M_read σ p1) = (if (M_fails σ (M_read_j6 σ p1)) = (0 : Int32) then (if ((M_fails_s σ (M_read_j6 σ p1)) 31 (ix p1)) = (10 : Int32) then (M_read_L40 σ p1 (fun s40 => ((sS (sS (sS (sS s40 31 (ix p1) ((s40 31 (ix p1)) - (1 : Int32))) 32 (ix (((10 : Int32) * p1) + ((sS s40 31 (ix p1) ((s40 31 (ix p1)) - (1 : Int32))) 31 (ix p1)))) ((sS s40 31 (ix p1) ((s40 31 (ix p1)) - (1 : Int32))) 0 0)) 33 (ix (((10 : Int32) * p1) + ((sS s40 31 (ix p1) ((s40 31 (ix p1)) - (1 : Int32))) 31 (ix p1)))) (((((M_glowOf (sS (sS s40 31 (ix p1) ((s40 31 (ix p1)) - (1 : Int32))) 32 (ix (((10 : Int32) * p1) + ((sS s40 31 (ix p1) ((s40 31 (ix p1)) - (1 : Int32))) 31 (ix p1)))) ((sS s40 31 (ix p1) ((s40 31 (ix p1)) - (1 : Int32))) 0 0)) ((sS (sS s40 31 (ix p1) ((s40 31 (ix p1)) - (1 : Int32))) 32 (ix (((10 : Int32) * p1) + ((sS s40 31 (ix p1) ((s40 31 (ix p1)) - (1 : Int32))) 31 (ix p1)))) ((sS s40 31 (ix p1) ((s40 31 (ix p1)) - (1 : Int32))) 0 0)) 27 (ix p1))) + (M_moon ((sS (sS s40 31 (ix p1) ((s40 31 (ix p1)) - (1 : Int32))) 32 (ix (((10 : Int32) * p1) + ((sS s40 31 (ix p1) ((s40 31 (ix p1)) - (1 : Int32))) 31 (ix p1)))) ((sS s40 31 (ix p1) ((s40 31 (ix p1)) - (1 : Int32))) 0 0)) 0 0))) + (20 : Int32)) + ((sS (sS s40 31 (ix p1) ((s40 31 (ix p1)) - (1 : Int32))) 32 (ix (((10 : Int32) * p1) + ((sS s40 31 (ix p1) ((s40 31 (ix p1)) - (1 : Int32))) 31 (ix p1)))) ((sS s40 31 (ix p1) ((s40 31 (ix p1)) - (1 : Int32))) 0 0)) 28 (ix p1))) + (((sS (sS s40 31 (ix p1) ((s40 31 (ix p1)) - (1 : Int32))) 32 (ix (((10 : Int32) * p1) + ((sS s40 31 (ix p1) ((s40 31 (ix p1)) - (1 : Int32))) 31 (ix p1)))) ((sS s40 31 (ix p1) ((s40 31 (ix p1)) - (1 : Int32))) 0 0)) 29 (ix p1)) * (((sS (sS s40 31 (ix p1) ((s40 31 (ix p1)) - (1 : Int32))) 32 (ix (((10 : Int32) * p1) + ((sS s40 31 (ix p1) ((s40 31 (ix p1)) - (1 : Int32))) 31 (ix p1)))) ((sS s40 31 (ix p1) ((s40 31 (ix p1)) - (1 : Int32))) 0 0)) 0 0) / (24 : Int32))))) 31 (ix p1) (((sS (sS (sS s40 31 (ix p1) ((s40 31 (ix p1)) - (1 : Int32))) 32 (ix (((10 : Int32) * p1) + ((sS s40 31 (ix p1) ((s40 31 (ix p1)) - (1 : Int32))) 31 (ix p1)))) ((sS s40 31 (ix p1) ((s40 31 (ix p1)) - (1 : Int32))) 0 0)) 33 (ix (((10 : Int32) * p1) + ((sS s40 31 (ix p1) ((s40 31 (ix p1)) - (1 : Int32))) 31 (ix p1)))) (((((M_glowOf (sS (sS s40 31 (ix p1) ((s40 31 (ix p1)) - (1 : Int32))) 32 (ix (((10 : Int32) * p1) + ((sS s40 31 (ix p1) ((s40 31 (ix p1)) - (1 : Int32))) 31 (ix p1)))) ((sS s40 31 (ix p1) ((s40 31 (ix p1)) - (1 : Int32))) 0 0)) ((sS (sS s40 31 (ix p1) ((s40 31 (ix p1)) - (1 : Int32))) 32 (ix (((10 : Int32) * p1) + ((sS s40 31 (ix p1) ((s40 31 (ix p1)) - (1 : Int32))) 31 (ix p1)))) ((sS s40 31 (ix p1) ((s40 31 (ix p1)) - (1 : Int32))) 0 0)) 27 (ix p1))) + (M_moon ((sS (sS s40 31 (ix p1) ((s40 31 (ix p1)) - (1 : Int32))) 32 (ix (((10 : Int32) * p1) + ((sS s40 31 (ix p1) ((s40 31 (ix p1)) - (1 : Int32))) 31 (ix p1)))) ((sS s40 31 (ix p1) ((s40 31 (ix p1)) - (1 : Int32))) 0 0)) 0 0))) + (20 : Int32)) + ((sS (sS s40 31 (ix p1) ((s40 31 (ix p1)) - (1 : Int32))) 32 (ix (((10 : Int32) * p1) + ((sS s40 31 (ix p1) ((s40 31 (ix p1)) - (1 : Int32))) 31 (ix p1)))) ((sS s40 31 (ix p1) ((s40 31 (ix p1)) - (1 : Int32))) 0 0)) 28 (ix p1))) + (((sS (sS s40 31 (ix p1) ((s40 31 (ix p1)) - (1 : Int32))) 32 (ix (((10 : Int32) * p1) + ((sS s40 31 (ix p1) ((s40 31 (ix p1)) - (1 : Int32))) 31 (ix p1)))) ((sS s40 31 (ix p1) ((s40 31 (ix p1)) - (1 : Int32))) 0 0)) 29 (ix p1)) * (((sS (sS s40 31 (ix p1) ((s40 31 (ix p1)) - (1 : Int32))) 32 (ix (((10 : Int32) * p1) + ((sS s40 31 (ix p1) ((s40 31 (ix p1)) - (1 : Int32))) 31 (ix p1)))) ((sS s40 31 (ix p1) ((s40 31 (ix p1)) - (1 : Int32))) 0 0)) 0 0) / (24 : Int32))))) 31 (ix p1)) + (1 : Int32))) 33 (ix (((10 : Int32) * p1) + ((sS s40 31 (ix p1) ((s40 31 (ix p1)) - (1 : Int32))) 31 (ix p1)))))) n9 (10 * ix p1) (M_fails_s σ (M_read_j6 σ p1))) else ((sS (sS (sS (M_fails_s σ (M_read_j6 σ p1)) 32 (ix (((10 : Int32) * p1) + ((M_fails_s σ (M_read_j6 σ p1)) 31 (ix p1)))) ((M_fails_s σ (M_read_j6 σ p1)) 0 0)) 33 (ix (((10 : Int32) * p1) + ((M_fails_s σ (M_read_j6 σ p1)) 31 (ix p1)))) (((((M_glowOf (sS (M_fails_s σ (M_read_j6 σ p1)) 32 (ix (((10 : Int32) * p1) + ((M_fails_s σ (M_read_j6 σ p1)) 31 (ix p1)))) ((M_fails_s σ (M_read_j6 σ p1)) 0 0)) ((sS (M_fails_s σ (M_read_j6 σ p1)) 32 (ix (((10 : Int32) * p1) + ((M_fails_s σ (M_read_j6 σ p1)) 31 (ix p1)))) ((M_fails_s σ (M_read_j6 σ p1)) 0 0)) 27 (ix p1))) + (M_moon ((sS (M_fails_s σ (M_read_j6 σ p1)) 32 (ix (((10 : Int32) * p1) + ((M_fails_s σ (M_read_j6 σ p1)) 31 (ix p1)))) ((M_fails_s σ (M_read_j6 σ p1)) 0 0)) 0 0))) + (20 : Int32)) + ((sS (M_fails_s σ (M_read_j6 σ p1)) 32 (ix (((10 : Int32) * p1) + ((M_fails_s σ (M_read_j6 σ p1)) 31 (ix p1)))) ((M_fails_s σ (M_read_j6 σ p1)) 0 0)) 28 (ix p1))) + (((sS (M_fails_s σ (M_read_j6 σ p1)) 32 (ix (((10 : Int32) * p1) + ((M_fails_s σ (M_read_j6 σ p1)) 31 (ix p1)))) ((M_fails_s σ (M_read_j6 σ p1)) 0 0)) 29 (ix p1)) * (((sS (M_fails_s σ (M_read_j6 σ p1)) 32 (ix (((10 : Int32) * p1) + ((M_fails_s σ (M_read_j6 σ p1)) 31 (ix p1)))) ((M_fails_s σ (M_read_j6 σ p1)) 0 0)) 0 0) / (24 : Int32))))) 31 (ix p1) (((sS (sS (M_fails_s σ (M_read_j6 σ p1)) 32 (ix (((10 : Int32) * p1) + ((M_fails_s σ (M_read_j6 σ p1)) 31 (ix p1)))) ((M_fails_s σ (M_read_j6 σ p1)) 0 0)) 33 (ix (((10 : Int32) * p1) + ((M_fails_s σ (M_read_j6 σ p1)) 31 (ix p1)))) (((((M_glowOf (sS (M_fails_s σ (M_read_j6 σ p1)) 32 (ix (((10 : Int32) * p1) + ((M_fails_s σ (M_read_j6 σ p1)) 31 (ix p1)))) ((M_fails_s σ (M_read_j6 σ p1)) 0 0)) ((sS (M_fails_s σ (M_read_j6 σ p1)) 32 (ix (((10 : Int32) * p1) + ((M_fails_s σ (M_read_j6 σ p1)) 31 (ix p1)))) ((M_fails_s σ (M_read_j6 σ p1)) 0 0)) 27 (ix p1))) + (M_moon ((sS (M_fails_s σ (M_read_j6 σ p1)) 32 (ix (((10 : Int32) * p1) + ((M_fails_s σ (M_read_j6 σ p1)) 31 (ix p1)))) ((M_fails_s σ (M_read_j6 σ p1)) 0 0)) 0 0))) + (20 : Int32)) + ((sS (M_fails_s σ (M_read_j6 σ p1)) 32 (ix (((10 : Int32) * p1) + ((M_fails_s σ (M_read_j6 σ p1)) 31 (ix p1)))) ((M_fails_s σ (M_read_j6 σ p1)) 0 0)) 28 (ix p1))) + (((sS (M_fails_s σ (M_read_j6 σ p1)) 32 (ix (((10 : Int32) * p1) + ((M_fails_s σ (M_read_j6 σ p1)) 31 (ix p1)))) ((M_fails_s σ (M_read_j6 σ p1)) 0 0)) 29 (ix p1)) * (((sS (M_fails_s σ (M_read_j6 σ p1)) 32 (ix (((10 : Int32) * p1) + ((M_fails_s σ (M_read_j6 σ p1)) 31 (ix p1)))) ((M_fails_s σ (M_read_j6 σ p1)) 0 0)) 0 0) / (24 : Int32))))) 31 (ix p1)) + (1 : Int32))) 33 (ix (((10 : Int32) * p1) + ((M_fails_s σ (M_read_j6 σ p1)) 31 (ix p1)))))) else (0 : Int32)) := rfl
  have q_s : (M_read_s σ p1) = (if (M_fails σ (M_read_j6 σ p1)) = (0 : Int32) then (if ((M_fails_s σ (M_read_j6 σ p1)) 31 (ix p1)) = (10 : Int32) then (M_read_L40_s σ p1 (fun s40 => (sS (sS (sS (sS s40 31 (ix p1) ((s40 31 (ix p1)) - (1 : Int32))) 32 (ix (((10 : Int32) * p1) + ((sS s40 31 (ix p1) ((s40 31 (ix p1)) - (1 : Int32))) 31 (ix p1)))) ((sS s40 31 (ix p1) ((s40 31 (ix p1)) - (1 : Int32))) 0 0)) 33 (ix (((10 : Int32) * p1) + ((sS s40 31 (ix p1) ((s40 31 (ix p1)) - (1 : Int32))) 31 (ix p1)))) (((((M_glowOf (sS (sS s40 31 (ix p1) ((s40 31 (ix p1)) - (1 : Int32))) 32 (ix (((10 : Int32) * p1) + ((sS s40 31 (ix p1) ((s40 31 (ix p1)) - (1 : Int32))) 31 (ix p1)))) ((sS s40 31 (ix p1) ((s40 31 (ix p1)) - (1 : Int32))) 0 0)) ((sS (sS s40 31 (ix p1) ((s40 31 (ix p1)) - (1 : Int32))) 32 (ix (((10 : Int32) * p1) + ((sS s40 31 (ix p1) ((s40 31 (ix p1)) - (1 : Int32))) 31 (ix p1)))) ((sS s40 31 (ix p1) ((s40 31 (ix p1)) - (1 : Int32))) 0 0)) 27 (ix p1))) + (M_moon ((sS (sS s40 31 (ix p1) ((s40 31 (ix p1)) - (1 : Int32))) 32 (ix (((10 : Int32) * p1) + ((sS s40 31 (ix p1) ((s40 31 (ix p1)) - (1 : Int32))) 31 (ix p1)))) ((sS s40 31 (ix p1) ((s40 31 (ix p1)) - (1 : Int32))) 0 0)) 0 0))) + (20 : Int32)) + ((sS (sS s40 31 (ix p1) ((s40 31 (ix p1)) - (1 : Int32))) 32 (ix (((10 : Int32) * p1) + ((sS s40 31 (ix p1) ((s40 31 (ix p1)) - (1 : Int32))) 31 (ix p1)))) ((sS s40 31 (ix p1) ((s40 31 (ix p1)) - (1 : Int32))) 0 0)) 28 (ix p1))) + (((sS (sS s40 31 (ix p1) ((s40 31 (ix p1)) - (1 : Int32))) 32 (ix (((10 : Int32) * p1) + ((sS s40 31 (ix p1) ((s40 31 (ix p1)) - (1 : Int32))) 31 (ix p1)))) ((sS s40 31 (ix p1) ((s40 31 (ix p1)) - (1 : Int32))) 0 0)) 29 (ix p1)) * (((sS (sS s40 31 (ix p1) ((s40 31 (ix p1)) - (1 : Int32))) 32 (ix (((10 : Int32) * p1) + ((sS s40 31 (ix p1) ((s40 31 (ix p1)) - (1 : Int32))) 31 (ix p1)))) ((sS s40 31 (ix p1) ((s40 31 (ix p1)) - (1 : Int32))) 0 0)) 0 0) / (24 : Int32))))) 31 (ix p1) (((sS (sS (sS s40 31 (ix p1) ((s40 31 (ix p1)) - (1 : Int32))) 32 (ix (((10 : Int32) * p1) + ((sS s40 31 (ix p1) ((s40 31 (ix p1)) - (1 : Int32))) 31 (ix p1)))) ((sS s40 31 (ix p1) ((s40 31 (ix p1)) - (1 : Int32))) 0 0)) 33 (ix (((10 : Int32) * p1) + ((sS s40 31 (ix p1) ((s40 31 (ix p1)) - (1 : Int32))) 31 (ix p1)))) (((((M_glowOf (sS (sS s40 31 (ix p1) ((s40 31 (ix p1)) - (1 : Int32))) 32 (ix (((10 : Int32) * p1) + ((sS s40 31 (ix p1) ((s40 31 (ix p1)) - (1 : Int32))) 31 (ix p1)))) ((sS s40 31 (ix p1) ((s40 31 (ix p1)) - (1 : Int32))) 0 0)) ((sS (sS s40 31 (ix p1) ((s40 31 (ix p1)) - (1 : Int32))) 32 (ix (((10 : Int32) * p1) + ((sS s40 31 (ix p1) ((s40 31 (ix p1)) - (1 : Int32))) 31 (ix p1)))) ((sS s40 31 (ix p1) ((s40 31 (ix p1)) - (1 : Int32))) 0 0)) 27 (ix p1))) + (M_moon ((sS (sS s40 31 (ix p1) ((s40 31 (ix p1)) - (1 : Int32))) 32 (ix (((10 : Int32) * p1) + ((sS s40 31 (ix p1) ((s40 31 (ix p1)) - (1 : Int32))) 31 (ix p1)))) ((sS s40 31 (ix p1) ((s40 31 (ix p1)) - (1 : Int32))) 0 0)) 0 0))) + (20 : Int32)) + ((sS (sS s40 31 (ix p1) ((s40 31 (ix p1)) - (1 : Int32))) 32 (ix (((10 : Int32) * p1) + ((sS s40 31 (ix p1) ((s40 31 (ix p1)) - (1 : Int32))) 31 (ix p1)))) ((sS s40 31 (ix p1) ((s40 31 (ix p1)) - (1 : Int32))) 0 0)) 28 (ix p1))) + (((sS (sS s40 31 (ix p1) ((s40 31 (ix p1)) - (1 : Int32))) 32 (ix (((10 : Int32) * p1) + ((sS s40 31 (ix p1) ((s40 31 (ix p1)) - (1 : Int32))) 31 (ix p1)))) ((sS s40 31 (ix p1) ((s40 31 (ix p1)) - (1 : Int32))) 0 0)) 29 (ix p1)) * (((sS (sS s40 31 (ix p1) ((s40 31 (ix p1)) - (1 : Int32))) 32 (ix (((10 : Int32) * p1) + ((sS s40 31 (ix p1) ((s40 31 (ix p1)) - (1 : Int32))) 31 (ix p1)))) ((sS s40 31 (ix p1) ((s40 31 (ix p1)) - (1 : Int32))) 0 0)) 0 0) / (24 : Int32))))) 31 (ix p1)) + (1 : Int32)))) n9 (10 * ix p1) (M_fails_s σ (M_read_j6 σ p1))) else (sS (sS (sS (M_fails_s σ (M_read_j6 σ p1)) 32 (ix (((10 : Int32) * p1) + ((M_fails_s σ (M_read_j6 σ p1)) 31 (ix p1)))) ((M_fails_s σ (M_read_j6 σ p1)) 0 0)) 33 (ix (((10 : Int32) * p1) + ((M_fails_s σ (M_read_j6 σ p1)) 31 (ix p1)))) (((((M_glowOf (sS (M_fails_s σ (M_read_j6 σ p1)) 32 (ix (((10 : Int32) * p1) + ((M_fails_s σ (M_read_j6 σ p1)) 31 (ix p1)))) ((M_fails_s σ (M_read_j6 σ p1)) 0 0)) ((sS (M_fails_s σ (M_read_j6 σ p1)) 32 (ix (((10 : Int32) * p1) + ((M_fails_s σ (M_read_j6 σ p1)) 31 (ix p1)))) ((M_fails_s σ (M_read_j6 σ p1)) 0 0)) 27 (ix p1))) + (M_moon ((sS (M_fails_s σ (M_read_j6 σ p1)) 32 (ix (((10 : Int32) * p1) + ((M_fails_s σ (M_read_j6 σ p1)) 31 (ix p1)))) ((M_fails_s σ (M_read_j6 σ p1)) 0 0)) 0 0))) + (20 : Int32)) + ((sS (M_fails_s σ (M_read_j6 σ p1)) 32 (ix (((10 : Int32) * p1) + ((M_fails_s σ (M_read_j6 σ p1)) 31 (ix p1)))) ((M_fails_s σ (M_read_j6 σ p1)) 0 0)) 28 (ix p1))) + (((sS (M_fails_s σ (M_read_j6 σ p1)) 32 (ix (((10 : Int32) * p1) + ((M_fails_s σ (M_read_j6 σ p1)) 31 (ix p1)))) ((M_fails_s σ (M_read_j6 σ p1)) 0 0)) 29 (ix p1)) * (((sS (M_fails_s σ (M_read_j6 σ p1)) 32 (ix (((10 : Int32) * p1) + ((M_fails_s σ (M_read_j6 σ p1)) 31 (ix p1)))) ((M_fails_s σ (M_read_j6 σ p1)) 0 0)) 0 0) / (24 : Int32))))) 31 (ix p1) (((sS (sS (M_fails_s σ (M_read_j6 σ p1)) 32 (ix (((10 : Int32) * p1) + ((M_fails_s σ (M_read_j6 σ p1)) 31 (ix p1)))) ((M_fails_s σ (M_read_j6 σ p1)) 0 0)) 33 (ix (((10 : Int32) * p1) + ((M_fails_s σ (M_read_j6 σ p1)) 31 (ix p1)))) (((((M_glowOf (sS (M_fails_s σ (M_read_j6 σ p1)) 32 (ix (((10 : Int32) * p1) + ((M_fails_s σ (M_read_j6 σ p1)) 31 (ix p1)))) ((M_fails_s σ (M_read_j6 σ p1)) 0 0)) ((sS (M_fails_s σ (M_read_j6 σ p1)) 32 (ix (((10 : Int32) * p1) + ((M_fails_s σ (M_read_j6 σ p1)) 31 (ix p1)))) ((M_fails_s σ (M_read_j6 σ p1)) 0 0)) 27 (ix p1))) + (M_moon ((sS (M_fails_s σ (M_read_j6 σ p1)) 32 (ix (((10 : Int32) * p1) + ((M_fails_s σ (M_read_j6 σ p1)) 31 (ix p1)))) ((M_fails_s σ (M_read_j6 σ p1)) 0 0)) 0 0))) + (20 : Int32)) + ((sS (M_fails_s σ (M_read_j6 σ p1)) 32 (ix (((10 : Int32) * p1) + ((M_fails_s σ (M_read_j6 σ p1)) 31 (ix p1)))) ((M_fails_s σ (M_read_j6 σ p1)) 0 0)) 28 (ix p1))) + (((sS (M_fails_s σ (M_read_j6 σ p1)) 32 (ix (((10 : Int32) * p1) + ((M_fails_s σ (M_read_j6 σ p1)) 31 (ix p1)))) ((M_fails_s σ (M_read_j6 σ p1)) 0 0)) 29 (ix p1)) * (((sS (M_fails_s σ (M_read_j6 σ p1)) 32 (ix (((10 : Int32) * p1) + ((M_fails_s σ (M_read_j6 σ p1)) 31 (ix p1)))) ((M_fails_s σ (M_read_j6 σ p1)) 0 0)) 0 0) / (24 : Int32))))) 31 (ix p1)) + (1 : Int32)))) else (M_fails_s σ (M_read_j6 σ p1))) := rfl
  refine J_aload_0 X dX11_read_0 ?_
  refine J_aload_0 X dX11_read_1 ?_
  refine J_iload_1 X dX11_read_2 ?_
  refine J_callV X (c_M_isMeter hR p1) (And.intro gw_5_239 cw_X11_isMeter) hR.1 rfl rfl rfl (Nat.le_of_ble_eq_true rfl) dX11_read_3 rfl (J.pi ?_) JE.no
  have K6_14 : ∀ (v6_0 : Int32), v6_0 = (M_read_j6 σ p1) → J K h [some (.ref m), some (.int p1), none, none] [.int v6_0, .ref m] 14 0 0 := by
    intro v6_0 ev6_0
    try rw [ev6_0]
    clear ev6_0
    refine J_callV X (c_M_fails hR (M_read_j6 σ p1)) (And.intro gw_5_151 cw_X11_fails) hR.1 rfl rfl rfl (Nat.le_of_ble_eq_true rfl) dX11_read_14 rfl (J.pim (fun h1 hR1 => ?_)) JE.no
    have hI1 : Inv (M_fails_s σ (M_read_j6 σ p1)) := (Inv_fails hI)
    refine J_if_eq (tgt := 22) X dX11_read_17 (by decide) (fun c17 => ?_) (fun c17 => ?_)
    · skip
      rw [if_pos c17] at q_v
      rw [if_pos c17] at q_s
      have hp := ok_read0 hI c17
      have h9 := n9_eq
      have hz := vp_lt hp
      refine J_bipush (v := (10 : Int32)) X dX11_read_22 (by decide) ?_
      refine J_iload_1 X dX11_read_24 ?_
      refine J_imul X dX11_read_25 ?_
      refine J_istore_2 X dX11_read_26 rfl (by decide) ?_
      refine J_aload_0 X dX11_read_27 ?_
      refine JM_get X hR1 31 (by decide) rfl rfl gw_5_41 dX11_read_28 ?_
      refine J_iload_1 X dX11_read_31 ?_
      refine JM_ald X hR1 31 rfl rfl hp dX11_read_32 ?_
      refine J_bipush (v := (10 : Int32)) X dX11_read_33 (by decide) ?_
      refine J_icmp_ne (tgt := 94) X dX11_read_35 (by decide) (fun c35 => ?_) (fun c35 => ?_)
      · skip
        rw [if_neg c35] at q_v
        rw [if_neg c35] at q_s
        refine J_iload_2 X dX11_read_94 ?_
        refine J_aload_0 X dX11_read_95 ?_
        refine JM_get X hR1 31 (by decide) rfl rfl gw_5_41 dX11_read_96 ?_
        refine J_iload_1 X dX11_read_99 ?_
        refine JM_ald X hR1 31 rfl rfl hp dX11_read_100 ?_
        refine J_iadd X dX11_read_101 ?_
        refine J_istore_3 X dX11_read_102 rfl (by decide) ?_
        refine J_aload_0 X dX11_read_103 ?_
        refine JM_get X hR1 32 (by decide) rfl rfl gw_5_42 dX11_read_104 ?_
        refine J_iload_3 X dX11_read_107 ?_
        refine J_aload_0 X dX11_read_108 ?_
        refine JM_get X hR1 0 (by decide) rfl rfl gw_5_10 dX11_read_109 ?_
        refine JM_ast X hR1 32 rfl rfl (rowix hp (by first | exact vp_ne (N := 10) (hI 31 (ix p1)) (by decide) c35 | exact rdA (by rw [hr40]; exact c35))) dX11_read_112 (fun h2 hR2 => ?_)
        have hI2 : Inv (sS (M_fails_s σ (M_read_j6 σ p1)) 32 (ix (((10 : Int32) * p1) + ((M_fails_s σ (M_read_j6 σ p1)) 31 (ix p1)))) ((M_fails_s σ (M_read_j6 σ p1)) 0 0)) := (Inv_sS hI1 trivial)
        refine J_aload_0 X dX11_read_113 ?_
        refine JM_get X hR2 33 (by decide) rfl rfl gw_5_43 dX11_read_114 ?_
        refine J_iload_3 X dX11_read_117 ?_
        refine J_aload_0 X dX11_read_118 ?_
        refine J_aload_0 X dX11_read_119 ?_
        refine JM_get X hR2 27 (by decide) rfl rfl gw_5_37 dX11_read_120 ?_
        refine J_iload_1 X dX11_read_123 ?_
        refine JM_ald X hR2 27 rfl rfl hp dX11_read_124 ?_
        refine J_callV X (c_M_glowOf hR2 hI2 ((sS (M_fails_s σ (M_read_j6 σ p1)) 32 (ix (((10 : Int32) * p1) + ((M_fails_s σ (M_read_j6 σ p1)) 31 (ix p1)))) ((M_fails_s σ (M_read_j6 σ p1)) 0 0)) 27 (ix p1)) (Inv_at hI2 (vp_lt hp))) (And.intro gw_6_3 cw_X11_glowOf) hR2.1 rfl rfl rfl (Nat.le_of_ble_eq_true rfl) dX11_read_125 rfl (J.pi ?_) JE.no
        refine J_aload_0 X dX11_read_128 ?_
        refine JM_get X hR2 0 (by decide) rfl rfl gw_5_10 dX11_read_129 ?_
        refine J_callS X (c_M_moon ((sS (M_fails_s σ (M_read_j6 σ p1)) 32 (ix (((10 : Int32) * p1) + ((M_fails_s σ (M_read_j6 σ p1)) 31 (ix p1)))) ((M_fails_s σ (M_read_j6 σ p1)) 0 0)) 0 0)) (And.intro gw_6_26 cw_X11_moon) rfl rfl (Nat.le_of_ble_eq_true rfl) dX11_read_132 rfl (J.pi ?_) JE.no
        refine J_iadd X dX11_read_135 ?_
        refine J_bipush (v := (20 : Int32)) X dX11_read_136 (by decide) ?_
        refine J_iadd X dX11_read_138 ?_
        refine J_aload_0 X dX11_read_139 ?_
        refine JM_get X hR2 28 (by decide) rfl rfl gw_5_38 dX11_read_140 ?_
        refine J_iload_1 X dX11_read_143 ?_
        refine JM_ald X hR2 28 rfl rfl hp dX11_read_144 ?_
        refine J_iadd X dX11_read_145 ?_
        refine J_aload_0 X dX11_read_146 ?_
        refine JM_get X hR2 29 (by decide) rfl rfl gw_5_39 dX11_read_147 ?_
        refine J_iload_1 X dX11_read_150 ?_
        refine JM_ald X hR2 29 rfl rfl hp dX11_read_151 ?_
        refine J_aload_0 X dX11_read_152 ?_
        refine JM_get X hR2 0 (by decide) rfl rfl gw_5_10 dX11_read_153 ?_
        refine J_bipush (v := (24 : Int32)) X dX11_read_156 (by decide) ?_
        refine J_idiv X dX11_read_158 (by decide) ?_
        refine J_imul X dX11_read_159 ?_
        refine J_iadd X dX11_read_160 ?_
        refine JM_ast X hR2 33 rfl rfl (rowix hp (by first | exact vp_ne (N := 10) (hI 31 (ix p1)) (by decide) c35 | exact rdA (by rw [hr40]; exact c35))) dX11_read_161 (fun h3 hR3 => ?_)
        refine J_aload_0 X dX11_read_162 ?_
        refine JM_get X hR3 31 (by decide) rfl rfl gw_5_41 dX11_read_163 ?_
        refine J_iload_1 X dX11_read_166 ?_
        refine J_dup2 X dX11_read_167 rfl rfl ?_
        refine JM_ald X hR3 31 rfl rfl hp dX11_read_168 ?_
        refine J_iconst (v := 1) X dX11_read_169 rfl ?_
        refine J_iadd X dX11_read_170 ?_
        refine JM_ast X hR3 31 rfl rfl hp dX11_read_171 (fun h4 hR4 => ?_)
        refine J_aload_0 X dX11_read_172 ?_
        refine JM_get X hR4 33 (by decide) rfl rfl gw_5_43 dX11_read_173 ?_
        refine J_iload_3 X dX11_read_176 ?_
        refine JM_ald X hR4 33 rfl rfl (rowix hp (by first | exact vp_ne (N := 10) (hI 31 (ix p1)) (by decide) c35 | exact rdA (by rw [hr40]; exact c35))) dX11_read_177 ?_
        exact J_iret X rfl rfl ⟨by rw [q_v], by rw [q_s]; exact hR4⟩ dX11_read_178
      · skip
        rw [if_pos c35] at q_v
        rw [if_pos c35] at q_s
        refine J_iload_2 X dX11_read_38 ?_
        refine J_istore_3 X dX11_read_39 rfl (by decide) ?_
        obtain ⟨K40, hK40⟩ : ∃ f : St → Int32, f = (fun s40 => ((sS (sS (sS (sS s40 31 (ix p1) ((s40 31 (ix p1)) - (1 : Int32))) 32 (ix (((10 : Int32) * p1) + ((sS s40 31 (ix p1) ((s40 31 (ix p1)) - (1 : Int32))) 31 (ix p1)))) ((sS s40 31 (ix p1) ((s40 31 (ix p1)) - (1 : Int32))) 0 0)) 33 (ix (((10 : Int32) * p1) + ((sS s40 31 (ix p1) ((s40 31 (ix p1)) - (1 : Int32))) 31 (ix p1)))) (((((M_glowOf (sS (sS s40 31 (ix p1) ((s40 31 (ix p1)) - (1 : Int32))) 32 (ix (((10 : Int32) * p1) + ((sS s40 31 (ix p1) ((s40 31 (ix p1)) - (1 : Int32))) 31 (ix p1)))) ((sS s40 31 (ix p1) ((s40 31 (ix p1)) - (1 : Int32))) 0 0)) ((sS (sS s40 31 (ix p1) ((s40 31 (ix p1)) - (1 : Int32))) 32 (ix (((10 : Int32) * p1) + ((sS s40 31 (ix p1) ((s40 31 (ix p1)) - (1 : Int32))) 31 (ix p1)))) ((sS s40 31 (ix p1) ((s40 31 (ix p1)) - (1 : Int32))) 0 0)) 27 (ix p1))) + (M_moon ((sS (sS s40 31 (ix p1) ((s40 31 (ix p1)) - (1 : Int32))) 32 (ix (((10 : Int32) * p1) + ((sS s40 31 (ix p1) ((s40 31 (ix p1)) - (1 : Int32))) 31 (ix p1)))) ((sS s40 31 (ix p1) ((s40 31 (ix p1)) - (1 : Int32))) 0 0)) 0 0))) + (20 : Int32)) + ((sS (sS s40 31 (ix p1) ((s40 31 (ix p1)) - (1 : Int32))) 32 (ix (((10 : Int32) * p1) + ((sS s40 31 (ix p1) ((s40 31 (ix p1)) - (1 : Int32))) 31 (ix p1)))) ((sS s40 31 (ix p1) ((s40 31 (ix p1)) - (1 : Int32))) 0 0)) 28 (ix p1))) + (((sS (sS s40 31 (ix p1) ((s40 31 (ix p1)) - (1 : Int32))) 32 (ix (((10 : Int32) * p1) + ((sS s40 31 (ix p1) ((s40 31 (ix p1)) - (1 : Int32))) 31 (ix p1)))) ((sS s40 31 (ix p1) ((s40 31 (ix p1)) - (1 : Int32))) 0 0)) 29 (ix p1)) * (((sS (sS s40 31 (ix p1) ((s40 31 (ix p1)) - (1 : Int32))) 32 (ix (((10 : Int32) * p1) + ((sS s40 31 (ix p1) ((s40 31 (ix p1)) - (1 : Int32))) 31 (ix p1)))) ((sS s40 31 (ix p1) ((s40 31 (ix p1)) - (1 : Int32))) 0 0)) 0 0) / (24 : Int32))))) 31 (ix p1) (((sS (sS (sS s40 31 (ix p1) ((s40 31 (ix p1)) - (1 : Int32))) 32 (ix (((10 : Int32) * p1) + ((sS s40 31 (ix p1) ((s40 31 (ix p1)) - (1 : Int32))) 31 (ix p1)))) ((sS s40 31 (ix p1) ((s40 31 (ix p1)) - (1 : Int32))) 0 0)) 33 (ix (((10 : Int32) * p1) + ((sS s40 31 (ix p1) ((s40 31 (ix p1)) - (1 : Int32))) 31 (ix p1)))) (((((M_glowOf (sS (sS s40 31 (ix p1) ((s40 31 (ix p1)) - (1 : Int32))) 32 (ix (((10 : Int32) * p1) + ((sS s40 31 (ix p1) ((s40 31 (ix p1)) - (1 : Int32))) 31 (ix p1)))) ((sS s40 31 (ix p1) ((s40 31 (ix p1)) - (1 : Int32))) 0 0)) ((sS (sS s40 31 (ix p1) ((s40 31 (ix p1)) - (1 : Int32))) 32 (ix (((10 : Int32) * p1) + ((sS s40 31 (ix p1) ((s40 31 (ix p1)) - (1 : Int32))) 31 (ix p1)))) ((sS s40 31 (ix p1) ((s40 31 (ix p1)) - (1 : Int32))) 0 0)) 27 (ix p1))) + (M_moon ((sS (sS s40 31 (ix p1) ((s40 31 (ix p1)) - (1 : Int32))) 32 (ix (((10 : Int32) * p1) + ((sS s40 31 (ix p1) ((s40 31 (ix p1)) - (1 : Int32))) 31 (ix p1)))) ((sS s40 31 (ix p1) ((s40 31 (ix p1)) - (1 : Int32))) 0 0)) 0 0))) + (20 : Int32)) + ((sS (sS s40 31 (ix p1) ((s40 31 (ix p1)) - (1 : Int32))) 32 (ix (((10 : Int32) * p1) + ((sS s40 31 (ix p1) ((s40 31 (ix p1)) - (1 : Int32))) 31 (ix p1)))) ((sS s40 31 (ix p1) ((s40 31 (ix p1)) - (1 : Int32))) 0 0)) 28 (ix p1))) + (((sS (sS s40 31 (ix p1) ((s40 31 (ix p1)) - (1 : Int32))) 32 (ix (((10 : Int32) * p1) + ((sS s40 31 (ix p1) ((s40 31 (ix p1)) - (1 : Int32))) 31 (ix p1)))) ((sS s40 31 (ix p1) ((s40 31 (ix p1)) - (1 : Int32))) 0 0)) 29 (ix p1)) * (((sS (sS s40 31 (ix p1) ((s40 31 (ix p1)) - (1 : Int32))) 32 (ix (((10 : Int32) * p1) + ((sS s40 31 (ix p1) ((s40 31 (ix p1)) - (1 : Int32))) 31 (ix p1)))) ((sS s40 31 (ix p1) ((s40 31 (ix p1)) - (1 : Int32))) 0 0)) 0 0) / (24 : Int32))))) 31 (ix p1)) + (1 : Int32))) 33 (ix (((10 : Int32) * p1) + ((sS s40 31 (ix p1) ((s40 31 (ix p1)) - (1 : Int32))) 31 (ix p1)))))) := ⟨_, rfl⟩
        obtain ⟨K40s, hK40s⟩ : ∃ f : St → St, f = (fun s40 => (sS (sS (sS (sS s40 31 (ix p1) ((s40 31 (ix p1)) - (1 : Int32))) 32 (ix (((10 : Int32) * p1) + ((sS s40 31 (ix p1) ((s40 31 (ix p1)) - (1 : Int32))) 31 (ix p1)))) ((sS s40 31 (ix p1) ((s40 31 (ix p1)) - (1 : Int32))) 0 0)) 33 (ix (((10 : Int32) * p1) + ((sS s40 31 (ix p1) ((s40 31 (ix p1)) - (1 : Int32))) 31 (ix p1)))) (((((M_glowOf (sS (sS s40 31 (ix p1) ((s40 31 (ix p1)) - (1 : Int32))) 32 (ix (((10 : Int32) * p1) + ((sS s40 31 (ix p1) ((s40 31 (ix p1)) - (1 : Int32))) 31 (ix p1)))) ((sS s40 31 (ix p1) ((s40 31 (ix p1)) - (1 : Int32))) 0 0)) ((sS (sS s40 31 (ix p1) ((s40 31 (ix p1)) - (1 : Int32))) 32 (ix (((10 : Int32) * p1) + ((sS s40 31 (ix p1) ((s40 31 (ix p1)) - (1 : Int32))) 31 (ix p1)))) ((sS s40 31 (ix p1) ((s40 31 (ix p1)) - (1 : Int32))) 0 0)) 27 (ix p1))) + (M_moon ((sS (sS s40 31 (ix p1) ((s40 31 (ix p1)) - (1 : Int32))) 32 (ix (((10 : Int32) * p1) + ((sS s40 31 (ix p1) ((s40 31 (ix p1)) - (1 : Int32))) 31 (ix p1)))) ((sS s40 31 (ix p1) ((s40 31 (ix p1)) - (1 : Int32))) 0 0)) 0 0))) + (20 : Int32)) + ((sS (sS s40 31 (ix p1) ((s40 31 (ix p1)) - (1 : Int32))) 32 (ix (((10 : Int32) * p1) + ((sS s40 31 (ix p1) ((s40 31 (ix p1)) - (1 : Int32))) 31 (ix p1)))) ((sS s40 31 (ix p1) ((s40 31 (ix p1)) - (1 : Int32))) 0 0)) 28 (ix p1))) + (((sS (sS s40 31 (ix p1) ((s40 31 (ix p1)) - (1 : Int32))) 32 (ix (((10 : Int32) * p1) + ((sS s40 31 (ix p1) ((s40 31 (ix p1)) - (1 : Int32))) 31 (ix p1)))) ((sS s40 31 (ix p1) ((s40 31 (ix p1)) - (1 : Int32))) 0 0)) 29 (ix p1)) * (((sS (sS s40 31 (ix p1) ((s40 31 (ix p1)) - (1 : Int32))) 32 (ix (((10 : Int32) * p1) + ((sS s40 31 (ix p1) ((s40 31 (ix p1)) - (1 : Int32))) 31 (ix p1)))) ((sS s40 31 (ix p1) ((s40 31 (ix p1)) - (1 : Int32))) 0 0)) 0 0) / (24 : Int32))))) 31 (ix p1) (((sS (sS (sS s40 31 (ix p1) ((s40 31 (ix p1)) - (1 : Int32))) 32 (ix (((10 : Int32) * p1) + ((sS s40 31 (ix p1) ((s40 31 (ix p1)) - (1 : Int32))) 31 (ix p1)))) ((sS s40 31 (ix p1) ((s40 31 (ix p1)) - (1 : Int32))) 0 0)) 33 (ix (((10 : Int32) * p1) + ((sS s40 31 (ix p1) ((s40 31 (ix p1)) - (1 : Int32))) 31 (ix p1)))) (((((M_glowOf (sS (sS s40 31 (ix p1) ((s40 31 (ix p1)) - (1 : Int32))) 32 (ix (((10 : Int32) * p1) + ((sS s40 31 (ix p1) ((s40 31 (ix p1)) - (1 : Int32))) 31 (ix p1)))) ((sS s40 31 (ix p1) ((s40 31 (ix p1)) - (1 : Int32))) 0 0)) ((sS (sS s40 31 (ix p1) ((s40 31 (ix p1)) - (1 : Int32))) 32 (ix (((10 : Int32) * p1) + ((sS s40 31 (ix p1) ((s40 31 (ix p1)) - (1 : Int32))) 31 (ix p1)))) ((sS s40 31 (ix p1) ((s40 31 (ix p1)) - (1 : Int32))) 0 0)) 27 (ix p1))) + (M_moon ((sS (sS s40 31 (ix p1) ((s40 31 (ix p1)) - (1 : Int32))) 32 (ix (((10 : Int32) * p1) + ((sS s40 31 (ix p1) ((s40 31 (ix p1)) - (1 : Int32))) 31 (ix p1)))) ((sS s40 31 (ix p1) ((s40 31 (ix p1)) - (1 : Int32))) 0 0)) 0 0))) + (20 : Int32)) + ((sS (sS s40 31 (ix p1) ((s40 31 (ix p1)) - (1 : Int32))) 32 (ix (((10 : Int32) * p1) + ((sS s40 31 (ix p1) ((s40 31 (ix p1)) - (1 : Int32))) 31 (ix p1)))) ((sS s40 31 (ix p1) ((s40 31 (ix p1)) - (1 : Int32))) 0 0)) 28 (ix p1))) + (((sS (sS s40 31 (ix p1) ((s40 31 (ix p1)) - (1 : Int32))) 32 (ix (((10 : Int32) * p1) + ((sS s40 31 (ix p1) ((s40 31 (ix p1)) - (1 : Int32))) 31 (ix p1)))) ((sS s40 31 (ix p1) ((s40 31 (ix p1)) - (1 : Int32))) 0 0)) 29 (ix p1)) * (((sS (sS s40 31 (ix p1) ((s40 31 (ix p1)) - (1 : Int32))) 32 (ix (((10 : Int32) * p1) + ((sS s40 31 (ix p1) ((s40 31 (ix p1)) - (1 : Int32))) 31 (ix p1)))) ((sS s40 31 (ix p1) ((s40 31 (ix p1)) - (1 : Int32))) 0 0)) 0 0) / (24 : Int32))))) 31 (ix p1)) + (1 : Int32)))) := ⟨_, rfl⟩
        have X40 : ∀ (s40 : St) (h40_ : fH) (_ : True), RM (kca K) h40_ m ρ s40 → Inv s40 → s40 31 = σ 31 → (M_read σ p1) = ((sS (sS (sS (sS s40 31 (ix p1) ((s40 31 (ix p1)) - (1 : Int32))) 32 (ix (((10 : Int32) * p1) + ((sS s40 31 (ix p1) ((s40 31 (ix p1)) - (1 : Int32))) 31 (ix p1)))) ((sS s40 31 (ix p1) ((s40 31 (ix p1)) - (1 : Int32))) 0 0)) 33 (ix (((10 : Int32) * p1) + ((sS s40 31 (ix p1) ((s40 31 (ix p1)) - (1 : Int32))) 31 (ix p1)))) (((((M_glowOf (sS (sS s40 31 (ix p1) ((s40 31 (ix p1)) - (1 : Int32))) 32 (ix (((10 : Int32) * p1) + ((sS s40 31 (ix p1) ((s40 31 (ix p1)) - (1 : Int32))) 31 (ix p1)))) ((sS s40 31 (ix p1) ((s40 31 (ix p1)) - (1 : Int32))) 0 0)) ((sS (sS s40 31 (ix p1) ((s40 31 (ix p1)) - (1 : Int32))) 32 (ix (((10 : Int32) * p1) + ((sS s40 31 (ix p1) ((s40 31 (ix p1)) - (1 : Int32))) 31 (ix p1)))) ((sS s40 31 (ix p1) ((s40 31 (ix p1)) - (1 : Int32))) 0 0)) 27 (ix p1))) + (M_moon ((sS (sS s40 31 (ix p1) ((s40 31 (ix p1)) - (1 : Int32))) 32 (ix (((10 : Int32) * p1) + ((sS s40 31 (ix p1) ((s40 31 (ix p1)) - (1 : Int32))) 31 (ix p1)))) ((sS s40 31 (ix p1) ((s40 31 (ix p1)) - (1 : Int32))) 0 0)) 0 0))) + (20 : Int32)) + ((sS (sS s40 31 (ix p1) ((s40 31 (ix p1)) - (1 : Int32))) 32 (ix (((10 : Int32) * p1) + ((sS s40 31 (ix p1) ((s40 31 (ix p1)) - (1 : Int32))) 31 (ix p1)))) ((sS s40 31 (ix p1) ((s40 31 (ix p1)) - (1 : Int32))) 0 0)) 28 (ix p1))) + (((sS (sS s40 31 (ix p1) ((s40 31 (ix p1)) - (1 : Int32))) 32 (ix (((10 : Int32) * p1) + ((sS s40 31 (ix p1) ((s40 31 (ix p1)) - (1 : Int32))) 31 (ix p1)))) ((sS s40 31 (ix p1) ((s40 31 (ix p1)) - (1 : Int32))) 0 0)) 29 (ix p1)) * (((sS (sS s40 31 (ix p1) ((s40 31 (ix p1)) - (1 : Int32))) 32 (ix (((10 : Int32) * p1) + ((sS s40 31 (ix p1) ((s40 31 (ix p1)) - (1 : Int32))) 31 (ix p1)))) ((sS s40 31 (ix p1) ((s40 31 (ix p1)) - (1 : Int32))) 0 0)) 0 0) / (24 : Int32))))) 31 (ix p1) (((sS (sS (sS s40 31 (ix p1) ((s40 31 (ix p1)) - (1 : Int32))) 32 (ix (((10 : Int32) * p1) + ((sS s40 31 (ix p1) ((s40 31 (ix p1)) - (1 : Int32))) 31 (ix p1)))) ((sS s40 31 (ix p1) ((s40 31 (ix p1)) - (1 : Int32))) 0 0)) 33 (ix (((10 : Int32) * p1) + ((sS s40 31 (ix p1) ((s40 31 (ix p1)) - (1 : Int32))) 31 (ix p1)))) (((((M_glowOf (sS (sS s40 31 (ix p1) ((s40 31 (ix p1)) - (1 : Int32))) 32 (ix (((10 : Int32) * p1) + ((sS s40 31 (ix p1) ((s40 31 (ix p1)) - (1 : Int32))) 31 (ix p1)))) ((sS s40 31 (ix p1) ((s40 31 (ix p1)) - (1 : Int32))) 0 0)) ((sS (sS s40 31 (ix p1) ((s40 31 (ix p1)) - (1 : Int32))) 32 (ix (((10 : Int32) * p1) + ((sS s40 31 (ix p1) ((s40 31 (ix p1)) - (1 : Int32))) 31 (ix p1)))) ((sS s40 31 (ix p1) ((s40 31 (ix p1)) - (1 : Int32))) 0 0)) 27 (ix p1))) + (M_moon ((sS (sS s40 31 (ix p1) ((s40 31 (ix p1)) - (1 : Int32))) 32 (ix (((10 : Int32) * p1) + ((sS s40 31 (ix p1) ((s40 31 (ix p1)) - (1 : Int32))) 31 (ix p1)))) ((sS s40 31 (ix p1) ((s40 31 (ix p1)) - (1 : Int32))) 0 0)) 0 0))) + (20 : Int32)) + ((sS (sS s40 31 (ix p1) ((s40 31 (ix p1)) - (1 : Int32))) 32 (ix (((10 : Int32) * p1) + ((sS s40 31 (ix p1) ((s40 31 (ix p1)) - (1 : Int32))) 31 (ix p1)))) ((sS s40 31 (ix p1) ((s40 31 (ix p1)) - (1 : Int32))) 0 0)) 28 (ix p1))) + (((sS (sS s40 31 (ix p1) ((s40 31 (ix p1)) - (1 : Int32))) 32 (ix (((10 : Int32) * p1) + ((sS s40 31 (ix p1) ((s40 31 (ix p1)) - (1 : Int32))) 31 (ix p1)))) ((sS s40 31 (ix p1) ((s40 31 (ix p1)) - (1 : Int32))) 0 0)) 29 (ix p1)) * (((sS (sS s40 31 (ix p1) ((s40 31 (ix p1)) - (1 : Int32))) 32 (ix (((10 : Int32) * p1) + ((sS s40 31 (ix p1) ((s40 31 (ix p1)) - (1 : Int32))) 31 (ix p1)))) ((sS s40 31 (ix p1) ((s40 31 (ix p1)) - (1 : Int32))) 0 0)) 0 0) / (24 : Int32))))) 31 (ix p1)) + (1 : Int32))) 33 (ix (((10 : Int32) * p1) + ((sS s40 31 (ix p1) ((s40 31 (ix p1)) - (1 : Int32))) 31 (ix p1))))) → (M_read_s σ p1) = (sS (sS (sS (sS s40 31 (ix p1) ((s40 31 (ix p1)) - (1 : Int32))) 32 (ix (((10 : Int32) * p1) + ((sS s40 31 (ix p1) ((s40 31 (ix p1)) - (1 : Int32))) 31 (ix p1)))) ((sS s40 31 (ix p1) ((s40 31 (ix p1)) - (1 : Int32))) 0 0)) 33 (ix (((10 : Int32) * p1) + ((sS s40 31 (ix p1) ((s40 31 (ix p1)) - (1 : Int32))) 31 (ix p1)))) (((((M_glowOf (sS (sS s40 31 (ix p1) ((s40 31 (ix p1)) - (1 : Int32))) 32 (ix (((10 : Int32) * p1) + ((sS s40 31 (ix p1) ((s40 31 (ix p1)) - (1 : Int32))) 31 (ix p1)))) ((sS s40 31 (ix p1) ((s40 31 (ix p1)) - (1 : Int32))) 0 0)) ((sS (sS s40 31 (ix p1) ((s40 31 (ix p1)) - (1 : Int32))) 32 (ix (((10 : Int32) * p1) + ((sS s40 31 (ix p1) ((s40 31 (ix p1)) - (1 : Int32))) 31 (ix p1)))) ((sS s40 31 (ix p1) ((s40 31 (ix p1)) - (1 : Int32))) 0 0)) 27 (ix p1))) + (M_moon ((sS (sS s40 31 (ix p1) ((s40 31 (ix p1)) - (1 : Int32))) 32 (ix (((10 : Int32) * p1) + ((sS s40 31 (ix p1) ((s40 31 (ix p1)) - (1 : Int32))) 31 (ix p1)))) ((sS s40 31 (ix p1) ((s40 31 (ix p1)) - (1 : Int32))) 0 0)) 0 0))) + (20 : Int32)) + ((sS (sS s40 31 (ix p1) ((s40 31 (ix p1)) - (1 : Int32))) 32 (ix (((10 : Int32) * p1) + ((sS s40 31 (ix p1) ((s40 31 (ix p1)) - (1 : Int32))) 31 (ix p1)))) ((sS s40 31 (ix p1) ((s40 31 (ix p1)) - (1 : Int32))) 0 0)) 28 (ix p1))) + (((sS (sS s40 31 (ix p1) ((s40 31 (ix p1)) - (1 : Int32))) 32 (ix (((10 : Int32) * p1) + ((sS s40 31 (ix p1) ((s40 31 (ix p1)) - (1 : Int32))) 31 (ix p1)))) ((sS s40 31 (ix p1) ((s40 31 (ix p1)) - (1 : Int32))) 0 0)) 29 (ix p1)) * (((sS (sS s40 31 (ix p1) ((s40 31 (ix p1)) - (1 : Int32))) 32 (ix (((10 : Int32) * p1) + ((sS s40 31 (ix p1) ((s40 31 (ix p1)) - (1 : Int32))) 31 (ix p1)))) ((sS s40 31 (ix p1) ((s40 31 (ix p1)) - (1 : Int32))) 0 0)) 0 0) / (24 : Int32))))) 31 (ix p1) (((sS (sS (sS s40 31 (ix p1) ((s40 31 (ix p1)) - (1 : Int32))) 32 (ix (((10 : Int32) * p1) + ((sS s40 31 (ix p1) ((s40 31 (ix p1)) - (1 : Int32))) 31 (ix p1)))) ((sS s40 31 (ix p1) ((s40 31 (ix p1)) - (1 : Int32))) 0 0)) 33 (ix (((10 : Int32) * p1) + ((sS s40 31 (ix p1) ((s40 31 (ix p1)) - (1 : Int32))) 31 (ix p1)))) (((((M_glowOf (sS (sS s40 31 (ix p1) ((s40 31 (ix p1)) - (1 : Int32))) 32 (ix (((10 : Int32) * p1) + ((sS s40 31 (ix p1) ((s40 31 (ix p1)) - (1 : Int32))) 31 (ix p1)))) ((sS s40 31 (ix p1) ((s40 31 (ix p1)) - (1 : Int32))) 0 0)) ((sS (sS s40 31 (ix p1) ((s40 31 (ix p1)) - (1 : Int32))) 32 (ix (((10 : Int32) * p1) + ((sS s40 31 (ix p1) ((s40 31 (ix p1)) - (1 : Int32))) 31 (ix p1)))) ((sS s40 31 (ix p1) ((s40 31 (ix p1)) - (1 : Int32))) 0 0)) 27 (ix p1))) + (M_moon ((sS (sS s40 31 (ix p1) ((s40 31 (ix p1)) - (1 : Int32))) 32 (ix (((10 : Int32) * p1) + ((sS s40 31 (ix p1) ((s40 31 (ix p1)) - (1 : Int32))) 31 (ix p1)))) ((sS s40 31 (ix p1) ((s40 31 (ix p1)) - (1 : Int32))) 0 0)) 0 0))) + (20 : Int32)) + ((sS (sS s40 31 (ix p1) ((s40 31 (ix p1)) - (1 : Int32))) 32 (ix (((10 : Int32) * p1) + ((sS s40 31 (ix p1) ((s40 31 (ix p1)) - (1 : Int32))) 31 (ix p1)))) ((sS s40 31 (ix p1) ((s40 31 (ix p1)) - (1 : Int32))) 0 0)) 28 (ix p1))) + (((sS (sS s40 31 (ix p1) ((s40 31 (ix p1)) - (1 : Int32))) 32 (ix (((10 : Int32) * p1) + ((sS s40 31 (ix p1) ((s40 31 (ix p1)) - (1 : Int32))) 31 (ix p1)))) ((sS s40 31 (ix p1) ((s40 31 (ix p1)) - (1 : Int32))) 0 0)) 29 (ix p1)) * (((sS (sS s40 31 (ix p1) ((s40 31 (ix p1)) - (1 : Int32))) 32 (ix (((10 : Int32) * p1) + ((sS s40 31 (ix p1) ((s40 31 (ix p1)) - (1 : Int32))) 31 (ix p1)))) ((sS s40 31 (ix p1) ((s40 31 (ix p1)) - (1 : Int32))) 0 0)) 0 0) / (24 : Int32))))) 31 (ix p1)) + (1 : Int32))) → J K h40_ [some (.ref m), some (.int p1), some (.int ((10 : Int32) * p1)), none] [] 84 0 0 := by
          intro s40 h40_ _ hR40_ hI40_ hr40 q_v q_s
          refine J_aload_0 X dX11_read_84 ?_
          refine JM_get X hR40_ 31 (by decide) rfl rfl gw_5_41 dX11_read_85 ?_
          refine J_iload_1 X dX11_read_88 ?_
          refine J_dup2 X dX11_read_89 rfl rfl ?_
          refine JM_ald X hR40_ 31 rfl rfl hp dX11_read_90 ?_
          refine J_iconst (v := 1) X dX11_read_91 rfl ?_
          refine J_isub X dX11_read_92 ?_
          refine JM_ast X hR40_ 31 rfl rfl hp dX11_read_93 (fun h5 hR5 => ?_)
          have hI5 : Inv (sS s40 31 (ix p1) ((s40 31 (ix p1)) - (1 : Int32))) := (Inv_sS hI40_ (rdC (by rw [hr40]; exact c35)))
          refine J_iload_2 X dX11_read_94 ?_
          refine J_aload_0 X dX11_read_95 ?_
          refine JM_get X hR5 31 (by decide) rfl rfl gw_5_41 dX11_read_96 ?_
          refine J_iload_1 X dX11_read_99 ?_
          refine JM_ald X hR5 31 rfl rfl hp dX11_read_100 ?_
          refine J_iadd X dX11_read_101 ?_
          refine J_istore_3 X dX11_read_102 rfl (by decide) ?_
          refine J_aload_0 X dX11_read_103 ?_
          refine JM_get X hR5 32 (by decide) rfl rfl gw_5_42 dX11_read_104 ?_
          refine J_iload_3 X dX11_read_107 ?_
          refine J_aload_0 X dX11_read_108 ?_
          refine JM_get X hR5 0 (by decide) rfl rfl gw_5_10 dX11_read_109 ?_
          refine JM_ast X hR5 32 rfl rfl (rowix hp (by first | exact vp_ne (N := 10) (hI 31 (ix p1)) (by decide) c35 | exact rdA (by rw [hr40]; exact c35))) dX11_read_112 (fun h6 hR6 => ?_)
          have hI6 : Inv (sS (sS s40 31 (ix p1) ((s40 31 (ix p1)) - (1 : Int32))) 32 (ix (((10 : Int32) * p1) + ((sS s40 31 (ix p1) ((s40 31 (ix p1)) - (1 : Int32))) 31 (ix p1)))) ((sS s40 31 (ix p1) ((s40 31 (ix p1)) - (1 : Int32))) 0 0)) := (Inv_sS hI5 trivial)
          refine J_aload_0 X dX11_read_113 ?_
          refine JM_get X hR6 33 (by decide) rfl rfl gw_5_43 dX11_read_114 ?_
          refine J_iload_3 X dX11_read_117 ?_
          refine J_aload_0 X dX11_read_118 ?_
          refine J_aload_0 X dX11_read_119 ?_
          refine JM_get X hR6 27 (by decide) rfl rfl gw_5_37 dX11_read_120 ?_
          refine J_iload_1 X dX11_read_123 ?_
          refine JM_ald X hR6 27 rfl rfl hp dX11_read_124 ?_
          refine J_callV X (c_M_glowOf hR6 hI6 ((sS (sS s40 31 (ix p1) ((s40 31 (ix p1)) - (1 : Int32))) 32 (ix (((10 : Int32) * p1) + ((sS s40 31 (ix p1) ((s40 31 (ix p1)) - (1 : Int32))) 31 (ix p1)))) ((sS s40 31 (ix p1) ((s40 31 (ix p1)) - (1 : Int32))) 0 0)) 27 (ix p1)) (Inv_at hI6 (vp_lt hp))) (And.intro gw_6_3 cw_X11_glowOf) hR6.1 rfl rfl rfl (Nat.le_of_ble_eq_true rfl) dX11_read_125 rfl (J.pi ?_) JE.no
          refine J_aload_0 X dX11_read_128 ?_
          refine JM_get X hR6 0 (by decide) rfl rfl gw_5_10 dX11_read_129 ?_
          refine J_callS X (c_M_moon ((sS (sS s40 31 (ix p1) ((s40 31 (ix p1)) - (1 : Int32))) 32 (ix (((10 : Int32) * p1) + ((sS s40 31 (ix p1) ((s40 31 (ix p1)) - (1 : Int32))) 31 (ix p1)))) ((sS s40 31 (ix p1) ((s40 31 (ix p1)) - (1 : Int32))) 0 0)) 0 0)) (And.intro gw_6_26 cw_X11_moon) rfl rfl (Nat.le_of_ble_eq_true rfl) dX11_read_132 rfl (J.pi ?_) JE.no
          refine J_iadd X dX11_read_135 ?_
          refine J_bipush (v := (20 : Int32)) X dX11_read_136 (by decide) ?_
          refine J_iadd X dX11_read_138 ?_
          refine J_aload_0 X dX11_read_139 ?_
          refine JM_get X hR6 28 (by decide) rfl rfl gw_5_38 dX11_read_140 ?_
          refine J_iload_1 X dX11_read_143 ?_
          refine JM_ald X hR6 28 rfl rfl hp dX11_read_144 ?_
          refine J_iadd X dX11_read_145 ?_
          refine J_aload_0 X dX11_read_146 ?_
          refine JM_get X hR6 29 (by decide) rfl rfl gw_5_39 dX11_read_147 ?_
          refine J_iload_1 X dX11_read_150 ?_
          refine JM_ald X hR6 29 rfl rfl hp dX11_read_151 ?_
          refine J_aload_0 X dX11_read_152 ?_
          refine JM_get X hR6 0 (by decide) rfl rfl gw_5_10 dX11_read_153 ?_
          refine J_bipush (v := (24 : Int32)) X dX11_read_156 (by decide) ?_
          refine J_idiv X dX11_read_158 (by decide) ?_
          refine J_imul X dX11_read_159 ?_
          refine J_iadd X dX11_read_160 ?_
          refine JM_ast X hR6 33 rfl rfl (rowix hp (by first | exact vp_ne (N := 10) (hI 31 (ix p1)) (by decide) c35 | exact rdA (by rw [hr40]; exact c35))) dX11_read_161 (fun h7 hR7 => ?_)
          refine J_aload_0 X dX11_read_162 ?_
          refine JM_get X hR7 31 (by decide) rfl rfl gw_5_41 dX11_read_163 ?_
          refine J_iload_1 X dX11_read_166 ?_
          refine J_dup2 X dX11_read_167 rfl rfl ?_
          refine JM_ald X hR7 31 rfl rfl hp dX11_read_168 ?_
          refine J_iconst (v := 1) X dX11_read_169 rfl ?_
          refine J_iadd X dX11_read_170 ?_
          refine JM_ast X hR7 31 rfl rfl hp dX11_read_171 (fun h8 hR8 => ?_)
          refine J_aload_0 X dX11_read_172 ?_
          refine JM_get X hR8 33 (by decide) rfl rfl gw_5_43 dX11_read_173 ?_
          refine J_iload_3 X dX11_read_176 ?_
          refine JM_ald X hR8 33 rfl rfl (rowix hp (by first | exact vp_ne (N := 10) (hI 31 (ix p1)) (by decide) c35 | exact rdA (by rw [hr40]; exact c35))) dX11_read_177 ?_
          exact J_iret X rfl rfl ⟨by rw [q_v], by rw [q_s]; exact hR8⟩ dX11_read_178
        have L40 : ∀ (n40 k40 : Nat) (s40 : St) (h40_ : fH), k40 + n40 = (10 * ix p1 + 9) → RM (kca K) h40_ m ρ s40 → Inv s40 → s40 31 = σ 31 → (M_read σ p1) = (M_read_L40 σ p1 K40 n40 k40 s40) → (M_read_s σ p1) = (M_read_L40_s σ p1 K40s n40 k40 s40) → J K h40_ [some (.ref m), some (.int p1), some (.int ((10 : Int32) * p1)), some (.int (nI k40))] [] 40 0 0 := by
          intro n40
          induction n40 with
          | zero =>
            intro k40 s40 h40_ hk40 hR40_ hI40_ hr40 q_v q_s
            rw [M_read_L40] at q_v
            rw [M_read_L40_s] at q_s
            refine J_iload_3 X dX11_read_40 ?_
            refine J_iload_2 X dX11_read_41 ?_
            refine J_bipush (v := (10 : Int32)) X dX11_read_42 (by decide) ?_
            refine J_iadd X dX11_read_44 ?_
            refine J_iconst (v := 1) X dX11_read_45 rfl ?_
            refine J_isub X dX11_read_46 ?_
            refine J_icmp_ge (tgt := 84) X dX11_read_47 (by decide) (fun _ => ?_) (fun c => absurd (lp_exit (rowB hp) (by omega) hk40) c)
            rw [hK40] at q_v
            rw [hK40s] at q_s
            refine J.subL (lv' := [some (.ref m), some (.int p1), some (.int ((10 : Int32) * p1)), none]) (And.intro rfl (And.intro rfl (And.intro rfl trivial))) ?_
            exact X40 s40 h40_ trivial hR40_ hI40_ hr40 q_v q_s
          | succ n40 ih40 =>
            intro k40 s40 h40_ hk40 hR40_ hI40_ hr40 q_v q_s
            rw [M_read_L40] at q_v
            rw [M_read_L40_s] at q_s
            have hlt40 : k40 < (10 * ix p1 + 9) := by omega
            refine J_iload_3 X dX11_read_40 ?_
            refine J_iload_2 X dX11_read_41 ?_
            refine J_bipush (v := (10 : Int32)) X dX11_read_42 (by decide) ?_
            refine J_iadd X dX11_read_44 ?_
            refine J_iconst (v := 1) X dX11_read_45 rfl ?_
            refine J_isub X dX11_read_46 ?_
            refine J_icmp_ge (tgt := 84) X dX11_read_47 (by decide) (fun c => absurd c (lp_stay (rowB hp) (by omega) hk40)) (fun _ => ?_)
            refine J_aload_0 X dX11_read_50 ?_
            refine JM_get X hR40_ 32 (by decide) rfl rfl gw_5_42 dX11_read_51 ?_
            refine J_iload_3 X dX11_read_54 ?_
            refine J_aload_0 X dX11_read_55 ?_
            refine JM_get X hR40_ 32 (by decide) rfl rfl gw_5_42 dX11_read_56 ?_
            refine J_iload_3 X dX11_read_59 ?_
            refine J_iconst (v := 1) X dX11_read_60 rfl ?_
            refine J_iadd X dX11_read_61 ?_
            refine JM_ald X hR40_ 32 rfl rfl (by rw [nI_1]; exact vp_in_nI (N := 80) (by omega) (by decide)) dX11_read_62 ?_
            refine JM_ast X hR40_ 32 rfl rfl (vp_in_nI (N := 80) (by omega) (by decide)) dX11_read_63 (fun h9 hR9 => ?_)
            have hI9 : Inv (sS s40 32 (ix (nI k40)) (s40 32 (ix ((nI k40) + (1 : Int32))))) := (Inv_sS hI40_ trivial)
            refine J_aload_0 X dX11_read_64 ?_
            refine JM_get X hR9 33 (by decide) rfl rfl gw_5_43 dX11_read_65 ?_
            refine J_iload_3 X dX11_read_68 ?_
            refine J_aload_0 X dX11_read_69 ?_
            refine JM_get X hR9 33 (by decide) rfl rfl gw_5_43 dX11_read_70 ?_
            refine J_iload_3 X dX11_read_73 ?_
            refine J_iconst (v := 1) X dX11_read_74 rfl ?_
            refine J_iadd X dX11_read_75 ?_
            refine JM_ald X hR9 33 rfl rfl (by rw [nI_1]; exact vp_in_nI (N := 80) (by omega) (by decide)) dX11_read_76 ?_
            refine JM_ast X hR9 33 rfl rfl (vp_in_nI (N := 80) (by omega) (by decide)) dX11_read_77 (fun h10 hR10 => ?_)
            have hI10 : Inv (sS (sS s40 32 (ix (nI k40)) (s40 32 (ix ((nI k40) + (1 : Int32))))) 33 (ix (nI k40)) ((sS s40 32 (ix (nI k40)) (s40 32 (ix ((nI k40) + (1 : Int32))))) 33 (ix ((nI k40) + (1 : Int32))))) := (Inv_sS hI9 trivial)
            refine J_iinc_3 (v := (nI (k40 + 1))) X dX11_read_78 (nI_1 _) rfl (by decide) ?_
            refine J_goto (tgt := 40) X dX11_read_81 (by decide) ?_
            exact ih40 (k40 + 1) (sS (sS s40 32 (ix (nI k40)) (s40 32 (ix ((nI k40) + (1 : Int32))))) 33 (ix (nI k40)) ((sS s40 32 (ix (nI k40)) (s40 32 (ix ((nI k40) + (1 : Int32))))) 33 (ix ((nI k40) + (1 : Int32))))) h10 (by omega) hR10 hI10 hr40 q_v q_s
        have q_v : (M_read σ p1) = (M_read_L40 σ p1 K40 n9 (10 * ix p1) (M_fails_s σ (M_read_j6 σ p1))) := by rw [hK40]; exact q_v
        have q_s : (M_read_s σ p1) = (M_read_L40_s σ p1 K40s n9 (10 * ix p1) (M_fails_s σ (M_read_j6 σ p1))) := by rw [hK40s]; exact q_s
        have ec40 : ((10 : Int32) * p1) = nI (10 * ix p1) := (rowA hp)
        have z40 := L40 n9 (10 * ix p1) (M_fails_s σ (M_read_j6 σ p1)) h1 (by omega) hR1 hI1 rfl q_v q_s
        rw [← ec40] at z40
        exact z40
    · skip
      rw [if_neg c17] at q_v
      rw [if_neg c17] at q_s
      refine J_iconst (v := 0) X dX11_read_20 rfl ?_
      exact J_iret X rfl rfl ⟨by rw [q_v], by rw [q_s]; exact hR1⟩ dX11_read_21
  have j6_0 : M_read_j6 σ p1 = (if (M_isMeter σ p1) = (0 : Int32) then (1 : Int32) else (0 : Int32)) := rfl
  refine J_if_eq (tgt := 13) X dX11_read_6 (by decide) (fun c6 => ?_) (fun c6 => ?_)
  · skip
    rw [if_pos c6] at j6_0
    refine J_iconst (v := 1) X dX11_read_13 rfl ?_
    exact K6_14 _ j6_0.symm
  · skip
    rw [if_neg c6] at j6_0
    refine J_iconst (v := 0) X dX11_read_9 rfl ?_
    refine J_goto (tgt := 14) X dX11_read_10 (by decide) ?_
    exact K6_14 _ j6_0.symm
def M_way_j4 (σ : St) (p1 : Int32) (p2 : Int32) (p3 : Int32) : Int32 := (if (M_isPlace p1) = (0 : Int32) then (0 : Int32) else (if (M_isPlace p2) = (0 : Int32) then (0 : Int32) else (1 : Int32)))
theorem M_way_j4_b (σ : St) (p1 : Int32) (p2 : Int32) (p3 : Int32) : M_way_j4 σ p1 p2 p3 = 0 ∨ M_way_j4 σ p1 p2 p3 = 1 := by
  unfold M_way_j4
  (repeat' split) <;> first | exact Or.inl rfl | exact Or.inr rfl
def M_way_j24 (σ : St) (p1 : Int32) (p2 : Int32) (p3 : Int32) : Int32 := (if (M_way_j4 σ p1 p2 p3) = (0 : Int32) then (1 : Int32) else (if (M_isIn p3 (0 : Int32) (100000 : Int32)) = (0 : Int32) then (2 : Int32) else (0 : Int32)))
def M_way_j77 (σ : St) (p1 : Int32) (p2 : Int32) (p3 : Int32) (k57 : Nat) (s57 : St) : Int32 := (if (M_groundOf s57 (nI k57)) ≤ p3 then (if (nI k57) = p1 then (0 : Int32) else (-1 : Int32)) else (-2 : Int32))
def M_way_L57 (σ : St) (p1 : Int32) (p2 : Int32) (p3 : Int32) (K57 : St → Int32) : Nat → Nat → St → Int32
  | 0, _, s57 => K57 s57
  | n57 + 1, k57, s57 => (M_way_L57 σ p1 p2 p3 K57 n57 (k57 + 1) (sS s57 40 (ix (nI k57)) (M_way_j77 σ p1 p2 p3 k57 s57)))
def M_way_L57_s (σ : St) (p1 : Int32) (p2 : Int32) (p3 : Int32) (K57s : St → St) : Nat → Nat → St → St
  | 0, _, s57 => K57s s57
  | n57 + 1, k57, s57 => (M_way_L57_s σ p1 p2 p3 K57s n57 (k57 + 1) (sS s57 40 (ix (nI k57)) (M_way_j77 σ p1 p2 p3 k57 s57)))
def M_way_j128 (σ : St) (p1 : Int32) (p2 : Int32) (p3 : Int32) (s57 : St) (k106 : Nat) (s106 : St) (k116 : Nat) (s116 : St) : Int32 := (if ((nI k116) - (nI k116) / (8 : Int32) * (8 : Int32)) ≤ (0 : Int32) then (if (7 : Int32) ≤ ((nI k116) - (nI k116) / (8 : Int32) * (8 : Int32)) then (if (nI k116) ≤ (7 : Int32) then (if (56 : Int32) ≤ (nI k116) then (0 : Int32) else (if (s116 40 (ix ((nI k116) + (8 : Int32)))) = (nI k106) then (1 : Int32) else (0 : Int32))) else (if (s116 40 (ix ((nI k116) - (8 : Int32)))) = (nI k106) then (1 : Int32) else (if (56 : Int32) ≤ (nI k116) then (0 : Int32) else (if (s116 40 (ix ((nI k116) + (8 : Int32)))) = (nI k106) then (1 : Int32) else (0 : Int32))))) else (if (s116 40 (ix ((nI k116) + (1 : Int32)))) = (nI k106) then (1 : Int32) else (if (nI k116) ≤ (7 : Int32) then (if (56 : Int32) ≤ (nI k116) then (0 : Int32) else (if (s116 40 (ix ((nI k116) + (8 : Int32)))) = (nI k106) then (1 : Int32) else (0 : Int32))) else (if (s116 40 (ix ((nI k116) - (8 : Int32)))) = (nI k106) then (1 : Int32) else (if (56 : Int32) ≤ (nI k116) then (0 : Int32) else (if (s116 40 (ix ((nI k116) + (8 : Int32)))) = (nI k106) then (1 : Int32) else (0 : Int32))))))) else (if (s116 40 (ix ((nI k116) - (1 : Int32)))) = (nI k106) then (1 : Int32) else (if (7 : Int32) ≤ ((nI k116) - (nI k116) / (8 : Int32) * (8 : Int32)) then (if (nI k116) ≤ (7 : Int32) then (if (56 : Int32) ≤ (nI k116) then (0 : Int32) else (if (s116 40 (ix ((nI k116) + (8 : Int32)))) = (nI k106) then (1 : Int32) else (0 : Int32))) else (if (s116 40 (ix ((nI k116) - (8 : Int32)))) = (nI k106) then (1 : Int32) else (if (56 : Int32) ≤ (nI k116) then (0 : Int32) else (if (s116 40 (ix ((nI k116) + (8 : Int32)))) = (nI k106) then (1 : Int32) else (0 : Int32))))) else (if (s116 40 (ix ((nI k116) + (1 : Int32)))) = (nI k106) then (1 : Int32) else (if (nI k116) ≤ (7 : Int32) then (if (56 : Int32) ≤ (nI k116) then (0 : Int32) else (if (s116 40 (ix ((nI k116) + (8 : Int32)))) = (nI k106) then (1 : Int32) else (0 : Int32))) else (if (s116 40 (ix ((nI k116) - (8 : Int32)))) = (nI k106) then (1 : Int32) else (if (56 : Int32) ≤ (nI k116) then (0 : Int32) else (if (s116 40 (ix ((nI k116) + (8 : Int32)))) = (nI k106) then (1 : Int32) else (0 : Int32)))))))))
theorem M_way_j128_b (σ : St) (p1 : Int32) (p2 : Int32) (p3 : Int32) (s57 : St) (k106 : Nat) (s106 : St) (k116 : Nat) (s116 : St) : M_way_j128 σ p1 p2 p3 s57 k106 s106 k116 s116 = 0 ∨ M_way_j128 σ p1 p2 p3 s57 k106 s106 k116 s116 = 1 := by
  unfold M_way_j128
  (repeat' split) <;> first | exact Or.inl rfl | exact Or.inr rfl
def M_way_j234 (σ : St) (p1 : Int32) (p2 : Int32) (p3 : Int32) (s57 : St) (k106 : Nat) (s106 : St) (k116 : Nat) (s116 : St) : Int32 := (if (s116 40 (ix (nI k116))) = (-1 : Int32) then (if (M_way_j128 σ p1 p2 p3 s57 k106 s106 k116 s116) = (0 : Int32) then (s116 40 (ix (nI k116))) else ((nI k106) + (1 : Int32))) else (s116 40 (ix (nI k116))))
def M_way_L116 (σ : St) (p1 : Int32) (p2 : Int32) (p3 : Int32) (s57 : St) (k106 : Nat) (s106 : St) (K116 : St → Int32) : Nat → Nat → St → Int32
  | 0, _, s116 => K116 s116
  | n116 + 1, k116, s116 => (M_way_L116 σ p1 p2 p3 s57 k106 s106 K116 n116 (k116 + 1) (sS s116 40 (ix (nI k116)) (M_way_j234 σ p1 p2 p3 s57 k106 s106 k116 s116)))
def M_way_L116_s (σ : St) (p1 : Int32) (p2 : Int32) (p3 : Int32) (s57 : St) (k106 : Nat) (s106 : St) (K116s : St → St) : Nat → Nat → St → St
  | 0, _, s116 => K116s s116
  | n116 + 1, k116, s116 => (M_way_L116_s σ p1 p2 p3 s57 k106 s106 K116s n116 (k116 + 1) (sS s116 40 (ix (nI k116)) (M_way_j234 σ p1 p2 p3 s57 k106 s106 k116 s116)))
def M_way_L106 (σ : St) (p1 : Int32) (p2 : Int32) (p3 : Int32) (s57 : St) (K106 : St → Int32) : Nat → Nat → St → Int32
  | 0, _, s106 => K106 s106
  | n106 + 1, k106, s106 => (M_way_L116 σ p1 p2 p3 s57 k106 s106 (fun s116 => (M_way_L106 σ p1 p2 p3 s57 K106 n106 (k106 + 1) s116)) n64 0 s106)
def M_way_L106_s (σ : St) (p1 : Int32) (p2 : Int32) (p3 : Int32) (s57 : St) (K106s : St → St) : Nat → Nat → St → St
  | 0, _, s106 => K106s s106
  | n106 + 1, k106, s106 => (M_way_L116_s σ p1 p2 p3 s57 k106 s106 (fun s116 => (M_way_L106_s σ p1 p2 p3 s57 K106s n106 (k106 + 1) s116)) n64 0 s106)
def M_way_j275 (σ : St) (p1 : Int32) (p2 : Int32) (p3 : Int32) (s57 : St) (s106 : St) : Int32 := (if (0 : Int32) ≤ (s106 40 (ix p2)) then (s106 40 (ix p2)) else (-1 : Int32))
def M_way (σ : St) (p1 : Int32) (p2 : Int32) (p3 : Int32) : Int32 := (if (M_fails σ (M_way_j24 σ p1 p2 p3)) = (0 : Int32) then (M_way_L57 σ p1 p2 p3 (fun s57 => (M_way_L106 σ p1 p2 p3 s57 (fun s106 => (M_way_j275 σ p1 p2 p3 s57 s106)) n64 0 s57)) n64 0 (M_fails_s σ (M_way_j24 σ p1 p2 p3))) else (0 : Int32))
def M_way_s (σ : St) (p1 : Int32) (p2 : Int32) (p3 : Int32) : St := (if (M_fails σ (M_way_j24 σ p1 p2 p3)) = (0 : Int32) then (M_way_L57_s σ p1 p2 p3 (fun s57 => (M_way_L106_s σ p1 p2 p3 s57 (fun s106 => s106) n64 0 s57)) n64 0 (M_fails_s σ (M_way_j24 σ p1 p2 p3))) else (M_fails_s σ (M_way_j24 σ p1 p2 p3)))
theorem ok_way0 {σ : St} {p1 p2 p3 : Int32} (hI : Inv σ) (c : M_fails σ (M_way_j24 σ p1 p2 p3) = 0) : vp_in p2 64 := by
  refine isPlace_in (fun q => ?_)
  exact fz c (by unfold M_way_j24 M_way_j4; simp [q])
theorem cw_X11_way : Cond.instanceMethod yX11_way ∈ GW ∧ Cond.selects RX11 yX11_way yX11_way ∈ GW ∧ Cond.initialized RX11 ∈ GW ∧ Cond.code yX11_way cX11_way 8 (some .int) ∈ GW ∧ yX11_way.cls = RX11 ∧ (yX11_way.cls ≠ "java/lang/invoke/MethodHandle" ∧ yX11_way.cls ≠ "java/lang/invoke/VarHandle") ∧ (parseMethodDescriptor yX11_way.desc).map (fun d => d.parameters.length) = some 3 := ⟨gw_6_83, gw_6_84, gw_1_14, gw_6_85, rfl, ⟨by decide, by decide⟩, by decide +kernel⟩
set_option maxRecDepth 100000 in
set_option maxHeartbeats 4000000 in
theorem c_M_way {l : Launch} {D : va_G} {ca : Nat → Nat} {h : fH} {m : Nat} {ρ : Nat → Nat} {σ : St} (hR : RM ca h m ρ σ) (hI : Inv σ) (p1 : Int32) (p2 : Int32) (p3 : Int32) : FM l D ca yX11_way (.code yX11_way cX11_way 8 (some .int)) { frames := 3, cells := 0, slots := 0, locals := 69 } [.ref m, .int p1, .int p2, .int p3] h (pIM (M_way σ p1 p2 p3) (fun h2 => RM ca h2 m ρ (M_way_s σ p1 p2 p3))) noX := by
  refine FM.of [some (.ref m), some (.int p1), some (.int p2), some (.int p3), none, none, none, none] (by decide) (Nat.le_of_ble_eq_true rfl) rfl ?_
  rintro K X rfl rfl rfl
  have q_v : (M_way σ p1 p2 p3) = (if (M_fails σ (M_way_j24 σ p1 p2 p3)) = (0 : Int32) then (M_way_L57 σ p1 p2 p3 (fun s57 => (M_way_L106 σ p1 p2 p3 s57 (fun s106 => (M_way_j275 σ p1 p2 p3 s57 s106)) n64 0 s57)) n64 0 (M_fails_s σ (M_way_j24 σ p1 p2 p3))) else (0 : Int32)) := rfl
  have q_s : (M_way_s σ p1 p2 p3) = (if (M_fails σ (M_way_j24 σ p1 p2 p3)) = (0 : Int32) then (M_way_L57_s σ p1 p2 p3 (fun s57 => (M_way_L106_s σ p1 p2 p3 s57 (fun s106 => s106) n64 0 s57)) n64 0 (M_fails_s σ (M_way_j24 σ p1 p2 p3))) else (M_fails_s σ (M_way_j24 σ p1 p2 p3))) := rfl
  refine J_iload_1 X dX11_way_0 ?_
  refine J_callS X (c_M_isPlace p1) (And.intro gw_5_145 cw_X11_isPlace) rfl rfl (Nat.le_of_ble_eq_true rfl) dX11_way_1 rfl (J.pi ?_) JE.no
  have K4_19 : ∀ (v4_0 : Int32), v4_0 = (M_way_j4 σ p1 p2 p3) → J K h [some (.ref m), some (.int p1), some (.int p2), some (.int p3), none, none, none, none] [.int v4_0] 19 0 0 := by
    intro v4_0 ev4_0
    try rw [ev4_0]
    clear ev4_0
    refine J_istore_4 X dX11_way_19 rfl (by decide) ?_
    refine J_aload_0 X dX11_way_21 ?_
    refine J_iload_4 X dX11_way_22 ?_
    have K24_46 : ∀ (v24_0 : Int32), v24_0 = (M_way_j24 σ p1 p2 p3) → J K h [some (.ref m), some (.int p1), some (.int p2), some (.int p3), some (.int (M_way_j4 σ p1 p2 p3)), none, none, none] [.int v24_0, .ref m] 46 0 0 := by
      intro v24_0 ev24_0
      try rw [ev24_0]
      clear ev24_0
      refine J_callV X (c_M_fails hR (M_way_j24 σ p1 p2 p3)) (And.intro gw_5_151 cw_X11_fails) hR.1 rfl rfl rfl (Nat.le_of_ble_eq_true rfl) dX11_way_46 rfl (J.pim (fun h1 hR1 => ?_)) JE.no
      have hI1 : Inv (M_fails_s σ (M_way_j24 σ p1 p2 p3)) := (Inv_fails hI)
      refine J_if_eq (tgt := 54) X dX11_way_49 (by decide) (fun c49 => ?_) (fun c49 => ?_)
      · skip
        rw [if_pos c49] at q_v
        rw [if_pos c49] at q_s
        have hp := ok_way0 hI c49
        have h64 := n64_eq
        refine J_iconst (v := 0) X dX11_way_54 rfl ?_
        refine J_istore_5 X dX11_way_55 rfl (by decide) ?_
        obtain ⟨K57, hK57⟩ : ∃ f : St → Int32, f = (fun s57 => (M_way_L106 σ p1 p2 p3 s57 (fun s106 => (M_way_j275 σ p1 p2 p3 s57 s106)) n64 0 s57)) := ⟨_, rfl⟩
        obtain ⟨K57s, hK57s⟩ : ∃ f : St → St, f = (fun s57 => (M_way_L106_s σ p1 p2 p3 s57 (fun s106 => s106) n64 0 s57)) := ⟨_, rfl⟩
        have X57 : ∀ (s57 : St) (h57_ : fH) (_ : True), RM (kca K) h57_ m ρ s57 → Inv s57 → (M_way σ p1 p2 p3) = (M_way_L106 σ p1 p2 p3 s57 (fun s106 => (M_way_j275 σ p1 p2 p3 s57 s106)) n64 0 s57) → (M_way_s σ p1 p2 p3) = (M_way_L106_s σ p1 p2 p3 s57 (fun s106 => s106) n64 0 s57) → J K h57_ [some (.ref m), some (.int p1), some (.int p2), some (.int p3), some (.int (M_way_j4 σ p1 p2 p3)), none, none, none] [] 103 0 0 := by
          intro s57 h57_ _ hR57_ hI57_ q_v q_s
          refine J_iconst (v := 0) X dX11_way_103 rfl ?_
          refine J_istore_5 X dX11_way_104 rfl (by decide) ?_
          obtain ⟨K106, hK106⟩ : ∃ f : St → Int32, f = (fun s106 => (M_way_j275 σ p1 p2 p3 s57 s106)) := ⟨_, rfl⟩
          obtain ⟨K106s, hK106s⟩ : ∃ f : St → St, f = (fun s106 => s106) := ⟨_, rfl⟩
          have X106 : ∀ (s106 : St) (h106_ : fH) (_ : True), RM (kca K) h106_ m ρ s106 → Inv s106 → (M_way σ p1 p2 p3) = (M_way_j275 σ p1 p2 p3 s57 s106) → (M_way_s σ p1 p2 p3) = s106 → J K h106_ [some (.ref m), some (.int p1), some (.int p2), some (.int p3), some (.int (M_way_j4 σ p1 p2 p3)), none, none, none] [] 269 0 0 := by
            intro s106 h106_ _ hR106_ hI106_ q_v q_s
            refine J_aload_0 X dX11_way_269 ?_
            refine JM_get X hR106_ 40 (by decide) rfl rfl gw_5_50 dX11_way_270 ?_
            refine J_iload_2 X dX11_way_273 ?_
            refine JM_ald X hR106_ 40 rfl rfl hp dX11_way_274 ?_
            have K275_288 : ∀ (v275_0 : Int32), v275_0 = (M_way_j275 σ p1 p2 p3 s57 s106) → J K h106_ [some (.ref m), some (.int p1), some (.int p2), some (.int p3), some (.int (M_way_j4 σ p1 p2 p3)), none, none, none] [.int v275_0] 288 0 0 := by
              intro v275_0 ev275_0
              try rw [ev275_0]
              clear ev275_0
              exact J_iret X rfl rfl ⟨by rw [q_v], by rw [q_s]; exact hR106_⟩ dX11_way_288
            have j275_0 : M_way_j275 σ p1 p2 p3 s57 s106 = (if (0 : Int32) ≤ (s106 40 (ix p2)) then (s106 40 (ix p2)) else (-1 : Int32)) := rfl
            refine J_if_ge (tgt := 282) X dX11_way_275 (by decide) (fun c275 => ?_) (fun c275 => ?_)
            · skip
              rw [if_pos c275] at j275_0
              refine J_aload_0 X dX11_way_282 ?_
              refine JM_get X hR106_ 40 (by decide) rfl rfl gw_5_50 dX11_way_283 ?_
              refine J_iload_2 X dX11_way_286 ?_
              refine JM_ald X hR106_ 40 rfl rfl hp dX11_way_287 ?_
              exact K275_288 _ j275_0.symm
            · skip
              rw [if_neg c275] at j275_0
              refine J_iconst (v := -1) X dX11_way_278 rfl ?_
              refine J_goto (tgt := 288) X dX11_way_279 (by decide) ?_
              exact K275_288 _ j275_0.symm
          have L106 : ∀ (n106 k106 : Nat) (s106 : St) (h106_ : fH), k106 + n106 = n64 → RM (kca K) h106_ m ρ s106 → Inv s106 → (M_way σ p1 p2 p3) = (M_way_L106 σ p1 p2 p3 s57 K106 n106 k106 s106) → (M_way_s σ p1 p2 p3) = (M_way_L106_s σ p1 p2 p3 s57 K106s n106 k106 s106) → J K h106_ [some (.ref m), some (.int p1), some (.int p2), some (.int p3), some (.int (M_way_j4 σ p1 p2 p3)), some (.int (nI k106)), none, none] [] 106 0 0 := by
            intro n106
            induction n106 with
            | zero =>
              intro k106 s106 h106_ hk106 hR106_ hI106_ q_v q_s
              rw [M_way_L106] at q_v
              rw [M_way_L106_s] at q_s
              refine J_iload_5 X dX11_way_106 ?_
              refine J_bipush (v := (64 : Int32)) X dX11_way_108 (by decide) ?_
              refine J_icmp_ge (tgt := 269) X dX11_way_110 (by decide) (fun _ => ?_) (fun c => absurd (lp_exit (by rw [n64_eq]; rfl) (by omega) hk106) c)
              rw [hK106] at q_v
              rw [hK106s] at q_s
              refine J.subL (lv' := [some (.ref m), some (.int p1), some (.int p2), some (.int p3), some (.int (M_way_j4 σ p1 p2 p3)), none, none, none]) (And.intro rfl (And.intro rfl (And.intro rfl (And.intro rfl (And.intro rfl trivial))))) ?_
              exact X106 s106 h106_ trivial hR106_ hI106_ q_v q_s
            | succ n106 ih106 =>
              intro k106 s106 h106_ hk106 hR106_ hI106_ q_v q_s
              rw [M_way_L106] at q_v
              rw [M_way_L106_s] at q_s
              have hlt106 : k106 < n64 := by omega
              refine J_iload_5 X dX11_way_106 ?_
              refine J_bipush (v := (64 : Int32)) X dX11_way_108 (by decide) ?_
              refine J_icmp_ge (tgt := 269) X dX11_way_110 (by decide) (fun c => absurd c (lp_stay (by rw [n64_eq]; rfl) (by omega) hk106)) (fun _ => ?_)
              refine J_iconst (v := 0) X dX11_way_113 rfl ?_
              refine J_istore_6 X dX11_way_114 rfl (by decide) ?_
              obtain ⟨K116, hK116⟩ : ∃ f : St → Int32, f = (fun s116 => (M_way_L106 σ p1 p2 p3 s57 K106 n106 (k106 + 1) s116)) := ⟨_, rfl⟩
              obtain ⟨K116s, hK116s⟩ : ∃ f : St → St, f = (fun s116 => (M_way_L106_s σ p1 p2 p3 s57 K106s n106 (k106 + 1) s116)) := ⟨_, rfl⟩
              have X116 : ∀ (s116 : St) (h116_ : fH) (_ : True), RM (kca K) h116_ m ρ s116 → Inv s116 → (M_way σ p1 p2 p3) = (M_way_L106 σ p1 p2 p3 s57 K106 n106 (k106 + 1) s116) → (M_way_s σ p1 p2 p3) = (M_way_L106_s σ p1 p2 p3 s57 K106s n106 (k106 + 1) s116) → J K h116_ [some (.ref m), some (.int p1), some (.int p2), some (.int p3), some (.int (M_way_j4 σ p1 p2 p3)), some (.int (nI k106)), none, none] [] 263 0 0 := by
                intro s116 h116_ _ hR116_ hI116_ q_v q_s
                refine J_iinc_5 (v := (nI (k106 + 1))) X dX11_way_263 (nI_1 _) rfl (by decide) ?_
                refine J_goto (tgt := 106) X dX11_way_266 (by decide) ?_
                exact ih106 (k106 + 1) s116 h116_ (by omega) hR116_ hI116_ q_v q_s
              have L116 : ∀ (n116 k116 : Nat) (s116 : St) (h116_ : fH), k116 + n116 = n64 → RM (kca K) h116_ m ρ s116 → Inv s116 → (M_way σ p1 p2 p3) = (M_way_L116 σ p1 p2 p3 s57 k106 s106 K116 n116 k116 s116) → (M_way_s σ p1 p2 p3) = (M_way_L116_s σ p1 p2 p3 s57 k106 s106 K116s n116 k116 s116) → J K h116_ [some (.ref m), some (.int p1), some (.int p2), some (.int p3), some (.int (M_way_j4 σ p1 p2 p3)), some (.int (nI k106)), some (.int (nI k116)), none] [] 116 0 0 := by
                intro n116
                induction n116 with
                | zero =>
                  intro k116 s116 h116_ hk116 hR116_ hI116_ q_v q_s
                  rw [M_way_L116] at q_v
                  rw [M_way_L116_s] at q_s
                  refine J_iload_6 X dX11_way_116 ?_
                  refine J_bipush (v := (64 : Int32)) X dX11_way_118 (by decide) ?_
                  refine J_icmp_ge (tgt := 263) X dX11_way_120 (by decide) (fun _ => ?_) (fun c => absurd (lp_exit (by rw [n64_eq]; rfl) (by omega) hk116) c)
                  rw [hK116] at q_v
                  rw [hK116s] at q_s
                  refine J.subL (lv' := [some (.ref m), some (.int p1), some (.int p2), some (.int p3), some (.int (M_way_j4 σ p1 p2 p3)), some (.int (nI k106)), none, none]) (And.intro rfl (And.intro rfl (And.intro rfl (And.intro rfl (And.intro rfl (And.intro rfl trivial)))))) ?_
                  exact X116 s116 h116_ trivial hR116_ hI116_ q_v q_s
                | succ n116 ih116 =>
                  intro k116 s116 h116_ hk116 hR116_ hI116_ q_v q_s
                  rw [M_way_L116] at q_v
                  rw [M_way_L116_s] at q_s
                  have hlt116 : k116 < n64 := by omega
                  refine J_iload_6 X dX11_way_116 ?_
                  refine J_bipush (v := (64 : Int32)) X dX11_way_118 (by decide) ?_
                  refine J_icmp_ge (tgt := 263) X dX11_way_120 (by decide) (fun c => absurd c (lp_stay (by rw [n64_eq]; rfl) (by omega) hk116)) (fun _ => ?_)
                  refine J_iload_6 X dX11_way_123 ?_
                  refine J_bipush (v := (8 : Int32)) X dX11_way_125 (by decide) ?_
                  refine J_irem X dX11_way_127 (by decide) ?_
                  have K128_218 : ∀ (v128_0 : Int32), v128_0 = (M_way_j128 σ p1 p2 p3 s57 k106 s106 k116 s116) → J K h116_ [some (.ref m), some (.int p1), some (.int p2), some (.int p3), some (.int (M_way_j4 σ p1 p2 p3)), some (.int (nI k106)), some (.int (nI k116)), none] [.int v128_0] 218 0 0 := by
                    intro v128_0 ev128_0
                    try rw [ev128_0]
                    clear ev128_0
                    refine J_istore_7 X dX11_way_218 rfl (by decide) ?_
                    refine J_aload_0 X dX11_way_220 ?_
                    refine JM_get X hR116_ 40 (by decide) rfl rfl gw_5_50 dX11_way_221 ?_
                    refine J_iload_6 X dX11_way_224 ?_
                    refine J_aload_0 X dX11_way_226 ?_
                    refine JM_get X hR116_ 40 (by decide) rfl rfl gw_5_50 dX11_way_227 ?_
                    refine J_iload_6 X dX11_way_230 ?_
                    refine JM_ald X hR116_ 40 rfl rfl (vp_in_nI (N := 64) (by omega) (by decide)) dX11_way_232 ?_
                    refine J_iconst (v := -1) X dX11_way_233 rfl ?_
                    have K234_256 : ∀ (v234_0 : Int32), v234_0 = (M_way_j234 σ p1 p2 p3 s57 k106 s106 k116 s116) → J K h116_ [some (.ref m), some (.int p1), some (.int p2), some (.int p3), some (.int (M_way_j4 σ p1 p2 p3)), some (.int (nI k106)), some (.int (nI k116)), some (.int (M_way_j128 σ p1 p2 p3 s57 k106 s106 k116 s116))] [.int v234_0, .int (nI k116), .ref (ρ 40)] 256 0 0 := by
                      intro v234_0 ev234_0
                      try rw [ev234_0]
                      clear ev234_0
                      refine JM_ast X hR116_ 40 rfl rfl (vp_in_nI (N := 64) (by omega) (by decide)) dX11_way_256 (fun h2 hR2 => ?_)
                      have hI2 : Inv (sS s116 40 (ix (nI k116)) (M_way_j234 σ p1 p2 p3 s57 k106 s106 k116 s116)) := (Inv_sS hI116_ trivial)
                      refine J_iinc_6 (v := (nI (k116 + 1))) X dX11_way_257 (nI_1 _) rfl (by decide) ?_
                      refine J_goto (tgt := 116) X dX11_way_260 (by decide) ?_
                      refine J.subL (lv' := [some (.ref m), some (.int p1), some (.int p2), some (.int p3), some (.int (M_way_j4 σ p1 p2 p3)), some (.int (nI k106)), some (.int (nI (k116 + 1))), none]) (And.intro rfl (And.intro rfl (And.intro rfl (And.intro rfl (And.intro rfl (And.intro rfl (And.intro rfl trivial))))))) ?_
                      exact ih116 (k116 + 1) (sS s116 40 (ix (nI k116)) (M_way_j234 σ p1 p2 p3 s57 k106 s106 k116 s116)) h2 (by omega) hR2 hI2 q_v q_s
                    have j234_0 : M_way_j234 σ p1 p2 p3 s57 k106 s106 k116 s116 = (if (s116 40 (ix (nI k116))) = (-1 : Int32) then (if (M_way_j128 σ p1 p2 p3 s57 k106 s106 k116 s116) = (0 : Int32) then (s116 40 (ix (nI k116))) else ((nI k106) + (1 : Int32))) else (s116 40 (ix (nI k116)))) := rfl
                    refine J_icmp_ne (tgt := 249) X dX11_way_234 (by decide) (fun c234 => ?_) (fun c234 => ?_)
                    · skip
                      rw [if_neg c234] at j234_0
                      refine J_aload_0 X dX11_way_249 ?_
                      refine JM_get X hR116_ 40 (by decide) rfl rfl gw_5_50 dX11_way_250 ?_
                      refine J_iload_6 X dX11_way_253 ?_
                      refine JM_ald X hR116_ 40 rfl rfl (vp_in_nI (N := 64) (by omega) (by decide)) dX11_way_255 ?_
                      exact K234_256 _ j234_0.symm
                    · skip
                      rw [if_pos c234] at j234_0
                      refine J_iload_7 X dX11_way_237 ?_
                      refine J_if_eq (tgt := 249) X dX11_way_239 (by decide) (fun c239 => ?_) (fun c239 => ?_)
                      · skip
                        rw [if_pos c239] at j234_0
                        refine J_aload_0 X dX11_way_249 ?_
                        refine JM_get X hR116_ 40 (by decide) rfl rfl gw_5_50 dX11_way_250 ?_
                        refine J_iload_6 X dX11_way_253 ?_
                        refine JM_ald X hR116_ 40 rfl rfl (vp_in_nI (N := 64) (by omega) (by decide)) dX11_way_255 ?_
                        exact K234_256 _ j234_0.symm
                      · skip
                        rw [if_neg c239] at j234_0
                        refine J_iload_5 X dX11_way_242 ?_
                        refine J_iconst (v := 1) X dX11_way_244 rfl ?_
                        refine J_iadd X dX11_way_245 ?_
                        refine J_goto (tgt := 256) X dX11_way_246 (by decide) ?_
                        exact K234_256 _ j234_0.symm
                  have j128_0 : M_way_j128 σ p1 p2 p3 s57 k106 s106 k116 s116 = (if ((nI k116) - (nI k116) / (8 : Int32) * (8 : Int32)) ≤ (0 : Int32) then (if (7 : Int32) ≤ ((nI k116) - (nI k116) / (8 : Int32) * (8 : Int32)) then (if (nI k116) ≤ (7 : Int32) then (if (56 : Int32) ≤ (nI k116) then (0 : Int32) else (if (s116 40 (ix ((nI k116) + (8 : Int32)))) = (nI k106) then (1 : Int32) else (0 : Int32))) else (if (s116 40 (ix ((nI k116) - (8 : Int32)))) = (nI k106) then (1 : Int32) else (if (56 : Int32) ≤ (nI k116) then (0 : Int32) else (if (s116 40 (ix ((nI k116) + (8 : Int32)))) = (nI k106) then (1 : Int32) else (0 : Int32))))) else (if (s116 40 (ix ((nI k116) + (1 : Int32)))) = (nI k106) then (1 : Int32) else (if (nI k116) ≤ (7 : Int32) then (if (56 : Int32) ≤ (nI k116) then (0 : Int32) else (if (s116 40 (ix ((nI k116) + (8 : Int32)))) = (nI k106) then (1 : Int32) else (0 : Int32))) else (if (s116 40 (ix ((nI k116) - (8 : Int32)))) = (nI k106) then (1 : Int32) else (if (56 : Int32) ≤ (nI k116) then (0 : Int32) else (if (s116 40 (ix ((nI k116) + (8 : Int32)))) = (nI k106) then (1 : Int32) else (0 : Int32))))))) else (if (s116 40 (ix ((nI k116) - (1 : Int32)))) = (nI k106) then (1 : Int32) else (if (7 : Int32) ≤ ((nI k116) - (nI k116) / (8 : Int32) * (8 : Int32)) then (if (nI k116) ≤ (7 : Int32) then (if (56 : Int32) ≤ (nI k116) then (0 : Int32) else (if (s116 40 (ix ((nI k116) + (8 : Int32)))) = (nI k106) then (1 : Int32) else (0 : Int32))) else (if (s116 40 (ix ((nI k116) - (8 : Int32)))) = (nI k106) then (1 : Int32) else (if (56 : Int32) ≤ (nI k116) then (0 : Int32) else (if (s116 40 (ix ((nI k116) + (8 : Int32)))) = (nI k106) then (1 : Int32) else (0 : Int32))))) else (if (s116 40 (ix ((nI k116) + (1 : Int32)))) = (nI k106) then (1 : Int32) else (if (nI k116) ≤ (7 : Int32) then (if (56 : Int32) ≤ (nI k116) then (0 : Int32) else (if (s116 40 (ix ((nI k116) + (8 : Int32)))) = (nI k106) then (1 : Int32) else (0 : Int32))) else (if (s116 40 (ix ((nI k116) - (8 : Int32)))) = (nI k106) then (1 : Int32) else (if (56 : Int32) ≤ (nI k116) then (0 : Int32) else (if (s116 40 (ix ((nI k116) + (8 : Int32)))) = (nI k106) then (1 : Int32) else (0 : Int32))))))))) := rfl
                  refine J_if_le (tgt := 145) X dX11_way_128 (by decide) (fun c128 => ?_) (fun c128 => ?_)
                  · skip
                    rw [if_pos c128] at j128_0
                    refine J_iload_6 X dX11_way_145 ?_
                    refine J_bipush (v := (8 : Int32)) X dX11_way_147 (by decide) ?_
                    refine J_irem X dX11_way_149 (by decide) ?_
                    refine J_bipush (v := (7 : Int32)) X dX11_way_150 (by decide) ?_
                    refine J_icmp_ge (tgt := 169) X dX11_way_152 (by decide) (fun c152 => ?_) (fun c152 => ?_)
                    · skip
                      rw [if_pos c152] at j128_0
                      refine J_iload_6 X dX11_way_169 ?_
                      refine J_bipush (v := (7 : Int32)) X dX11_way_171 (by decide) ?_
                      refine J_icmp_le (tgt := 191) X dX11_way_173 (by decide) (fun c173 => ?_) (fun c173 => ?_)
                      · skip
                        rw [if_pos c173] at j128_0
                        refine J_iload_6 X dX11_way_191 ?_
                        refine J_bipush (v := (56 : Int32)) X dX11_way_193 (by decide) ?_
                        refine J_icmp_ge (tgt := 217) X dX11_way_195 (by decide) (fun c195 => ?_) (fun c195 => ?_)
                        · skip
                          rw [if_pos c195] at j128_0
                          refine J_iconst (v := 0) X dX11_way_217 rfl ?_
                          exact K128_218 _ j128_0.symm
                        · skip
                          rw [if_neg c195] at j128_0
                          refine J_aload_0 X dX11_way_198 ?_
                          refine JM_get X hR116_ 40 (by decide) rfl rfl gw_5_50 dX11_way_199 ?_
                          refine J_iload_6 X dX11_way_202 ?_
                          refine J_bipush (v := (8 : Int32)) X dX11_way_204 (by decide) ?_
                          refine J_iadd X dX11_way_206 ?_
                          refine JM_ald X hR116_ 40 rfl rfl (wayD (by omega) c195) dX11_way_207 ?_
                          refine J_iload_5 X dX11_way_208 ?_
                          refine J_icmp_ne (tgt := 217) X dX11_way_210 (by decide) (fun c210 => ?_) (fun c210 => ?_)
                          · skip
                            rw [if_neg c210] at j128_0
                            refine J_iconst (v := 0) X dX11_way_217 rfl ?_
                            exact K128_218 _ j128_0.symm
                          · skip
                            rw [if_pos c210] at j128_0
                            refine J_iconst (v := 1) X dX11_way_213 rfl ?_
                            refine J_goto (tgt := 218) X dX11_way_214 (by decide) ?_
                            exact K128_218 _ j128_0.symm
                      · skip
                        rw [if_neg c173] at j128_0
                        refine J_aload_0 X dX11_way_176 ?_
                        refine JM_get X hR116_ 40 (by decide) rfl rfl gw_5_50 dX11_way_177 ?_
                        refine J_iload_6 X dX11_way_180 ?_
                        refine J_bipush (v := (8 : Int32)) X dX11_way_182 (by decide) ?_
                        refine J_isub X dX11_way_184 ?_
                        refine JM_ald X hR116_ 40 rfl rfl (wayU (by omega) c173) dX11_way_185 ?_
                        refine J_iload_5 X dX11_way_186 ?_
                        refine J_icmp_eq (tgt := 213) X dX11_way_188 (by decide) (fun c188 => ?_) (fun c188 => ?_)
                        · skip
                          rw [if_pos c188] at j128_0
                          refine J_iconst (v := 1) X dX11_way_213 rfl ?_
                          refine J_goto (tgt := 218) X dX11_way_214 (by decide) ?_
                          exact K128_218 _ j128_0.symm
                        · skip
                          rw [if_neg c188] at j128_0
                          refine J_iload_6 X dX11_way_191 ?_
                          refine J_bipush (v := (56 : Int32)) X dX11_way_193 (by decide) ?_
                          refine J_icmp_ge (tgt := 217) X dX11_way_195 (by decide) (fun c195 => ?_) (fun c195 => ?_)
                          · skip
                            rw [if_pos c195] at j128_0
                            refine J_iconst (v := 0) X dX11_way_217 rfl ?_
                            exact K128_218 _ j128_0.symm
                          · skip
                            rw [if_neg c195] at j128_0
                            refine J_aload_0 X dX11_way_198 ?_
                            refine JM_get X hR116_ 40 (by decide) rfl rfl gw_5_50 dX11_way_199 ?_
                            refine J_iload_6 X dX11_way_202 ?_
                            refine J_bipush (v := (8 : Int32)) X dX11_way_204 (by decide) ?_
                            refine J_iadd X dX11_way_206 ?_
                            refine JM_ald X hR116_ 40 rfl rfl (wayD (by omega) c195) dX11_way_207 ?_
                            refine J_iload_5 X dX11_way_208 ?_
                            refine J_icmp_ne (tgt := 217) X dX11_way_210 (by decide) (fun c210 => ?_) (fun c210 => ?_)
                            · skip
                              rw [if_neg c210] at j128_0
                              refine J_iconst (v := 0) X dX11_way_217 rfl ?_
                              exact K128_218 _ j128_0.symm
                            · skip
                              rw [if_pos c210] at j128_0
                              refine J_iconst (v := 1) X dX11_way_213 rfl ?_
                              refine J_goto (tgt := 218) X dX11_way_214 (by decide) ?_
                              exact K128_218 _ j128_0.symm
                    · skip
                      rw [if_neg c152] at j128_0
                      refine J_aload_0 X dX11_way_155 ?_
                      refine JM_get X hR116_ 40 (by decide) rfl rfl gw_5_50 dX11_way_156 ?_
                      refine J_iload_6 X dX11_way_159 ?_
                      refine J_iconst (v := 1) X dX11_way_161 rfl ?_
                      refine J_iadd X dX11_way_162 ?_
                      refine JM_ald X hR116_ 40 rfl rfl (wayR (by omega) c152) dX11_way_163 ?_
                      refine J_iload_5 X dX11_way_164 ?_
                      refine J_icmp_eq (tgt := 213) X dX11_way_166 (by decide) (fun c166 => ?_) (fun c166 => ?_)
                      · skip
                        rw [if_pos c166] at j128_0
                        refine J_iconst (v := 1) X dX11_way_213 rfl ?_
                        refine J_goto (tgt := 218) X dX11_way_214 (by decide) ?_
                        exact K128_218 _ j128_0.symm
                      · skip
                        rw [if_neg c166] at j128_0
                        refine J_iload_6 X dX11_way_169 ?_
                        refine J_bipush (v := (7 : Int32)) X dX11_way_171 (by decide) ?_
                        refine J_icmp_le (tgt := 191) X dX11_way_173 (by decide) (fun c173 => ?_) (fun c173 => ?_)
                        · skip
                          rw [if_pos c173] at j128_0
                          refine J_iload_6 X dX11_way_191 ?_
                          refine J_bipush (v := (56 : Int32)) X dX11_way_193 (by decide) ?_
                          refine J_icmp_ge (tgt := 217) X dX11_way_195 (by decide) (fun c195 => ?_) (fun c195 => ?_)
                          · skip
                            rw [if_pos c195] at j128_0
                            refine J_iconst (v := 0) X dX11_way_217 rfl ?_
                            exact K128_218 _ j128_0.symm
                          · skip
                            rw [if_neg c195] at j128_0
                            refine J_aload_0 X dX11_way_198 ?_
                            refine JM_get X hR116_ 40 (by decide) rfl rfl gw_5_50 dX11_way_199 ?_
                            refine J_iload_6 X dX11_way_202 ?_
                            refine J_bipush (v := (8 : Int32)) X dX11_way_204 (by decide) ?_
                            refine J_iadd X dX11_way_206 ?_
                            refine JM_ald X hR116_ 40 rfl rfl (wayD (by omega) c195) dX11_way_207 ?_
                            refine J_iload_5 X dX11_way_208 ?_
                            refine J_icmp_ne (tgt := 217) X dX11_way_210 (by decide) (fun c210 => ?_) (fun c210 => ?_)
                            · skip
                              rw [if_neg c210] at j128_0
                              refine J_iconst (v := 0) X dX11_way_217 rfl ?_
                              exact K128_218 _ j128_0.symm
                            · skip
                              rw [if_pos c210] at j128_0
                              refine J_iconst (v := 1) X dX11_way_213 rfl ?_
                              refine J_goto (tgt := 218) X dX11_way_214 (by decide) ?_
                              exact K128_218 _ j128_0.symm
                        · skip
                          rw [if_neg c173] at j128_0
                          refine J_aload_0 X dX11_way_176 ?_
                          refine JM_get X hR116_ 40 (by decide) rfl rfl gw_5_50 dX11_way_177 ?_
                          refine J_iload_6 X dX11_way_180 ?_
                          refine J_bipush (v := (8 : Int32)) X dX11_way_182 (by decide) ?_
                          refine J_isub X dX11_way_184 ?_
                          refine JM_ald X hR116_ 40 rfl rfl (wayU (by omega) c173) dX11_way_185 ?_
                          refine J_iload_5 X dX11_way_186 ?_
                          refine J_icmp_eq (tgt := 213) X dX11_way_188 (by decide) (fun c188 => ?_) (fun c188 => ?_)
                          · skip
                            rw [if_pos c188] at j128_0
                            refine J_iconst (v := 1) X dX11_way_213 rfl ?_
                            refine J_goto (tgt := 218) X dX11_way_214 (by decide) ?_
                            exact K128_218 _ j128_0.symm
                          · skip
                            rw [if_neg c188] at j128_0
                            refine J_iload_6 X dX11_way_191 ?_
                            refine J_bipush (v := (56 : Int32)) X dX11_way_193 (by decide) ?_
                            refine J_icmp_ge (tgt := 217) X dX11_way_195 (by decide) (fun c195 => ?_) (fun c195 => ?_)
                            · skip
                              rw [if_pos c195] at j128_0
                              refine J_iconst (v := 0) X dX11_way_217 rfl ?_
                              exact K128_218 _ j128_0.symm
                            · skip
                              rw [if_neg c195] at j128_0
                              refine J_aload_0 X dX11_way_198 ?_
                              refine JM_get X hR116_ 40 (by decide) rfl rfl gw_5_50 dX11_way_199 ?_
                              refine J_iload_6 X dX11_way_202 ?_
                              refine J_bipush (v := (8 : Int32)) X dX11_way_204 (by decide) ?_
                              refine J_iadd X dX11_way_206 ?_
                              refine JM_ald X hR116_ 40 rfl rfl (wayD (by omega) c195) dX11_way_207 ?_
                              refine J_iload_5 X dX11_way_208 ?_
                              refine J_icmp_ne (tgt := 217) X dX11_way_210 (by decide) (fun c210 => ?_) (fun c210 => ?_)
                              · skip
                                rw [if_neg c210] at j128_0
                                refine J_iconst (v := 0) X dX11_way_217 rfl ?_
                                exact K128_218 _ j128_0.symm
                              · skip
                                rw [if_pos c210] at j128_0
                                refine J_iconst (v := 1) X dX11_way_213 rfl ?_
                                refine J_goto (tgt := 218) X dX11_way_214 (by decide) ?_
                                exact K128_218 _ j128_0.symm
                  · skip
                    rw [if_neg c128] at j128_0
                    refine J_aload_0 X dX11_way_131 ?_
                    refine JM_get X hR116_ 40 (by decide) rfl rfl gw_5_50 dX11_way_132 ?_
                    refine J_iload_6 X dX11_way_135 ?_
                    refine J_iconst (v := 1) X dX11_way_137 rfl ?_
                    refine J_isub X dX11_way_138 ?_
                    refine JM_ald X hR116_ 40 rfl rfl (wayL (by omega) c128) dX11_way_139 ?_
                    refine J_iload_5 X dX11_way_140 ?_
                    refine J_icmp_eq (tgt := 213) X dX11_way_142 (by decide) (fun c142 => ?_) (fun c142 => ?_)
                    · skip
                      rw [if_pos c142] at j128_0
                      refine J_iconst (v := 1) X dX11_way_213 rfl ?_
                      refine J_goto (tgt := 218) X dX11_way_214 (by decide) ?_
                      exact K128_218 _ j128_0.symm
                    · skip
                      rw [if_neg c142] at j128_0
                      refine J_iload_6 X dX11_way_145 ?_
                      refine J_bipush (v := (8 : Int32)) X dX11_way_147 (by decide) ?_
                      refine J_irem X dX11_way_149 (by decide) ?_
                      refine J_bipush (v := (7 : Int32)) X dX11_way_150 (by decide) ?_
                      refine J_icmp_ge (tgt := 169) X dX11_way_152 (by decide) (fun c152 => ?_) (fun c152 => ?_)
                      · skip
                        rw [if_pos c152] at j128_0
                        refine J_iload_6 X dX11_way_169 ?_
                        refine J_bipush (v := (7 : Int32)) X dX11_way_171 (by decide) ?_
                        refine J_icmp_le (tgt := 191) X dX11_way_173 (by decide) (fun c173 => ?_) (fun c173 => ?_)
                        · skip
                          rw [if_pos c173] at j128_0
                          refine J_iload_6 X dX11_way_191 ?_
                          refine J_bipush (v := (56 : Int32)) X dX11_way_193 (by decide) ?_
                          refine J_icmp_ge (tgt := 217) X dX11_way_195 (by decide) (fun c195 => ?_) (fun c195 => ?_)
                          · skip
                            rw [if_pos c195] at j128_0
                            refine J_iconst (v := 0) X dX11_way_217 rfl ?_
                            exact K128_218 _ j128_0.symm
                          · skip
                            rw [if_neg c195] at j128_0
                            refine J_aload_0 X dX11_way_198 ?_
                            refine JM_get X hR116_ 40 (by decide) rfl rfl gw_5_50 dX11_way_199 ?_
                            refine J_iload_6 X dX11_way_202 ?_
                            refine J_bipush (v := (8 : Int32)) X dX11_way_204 (by decide) ?_
                            refine J_iadd X dX11_way_206 ?_
                            refine JM_ald X hR116_ 40 rfl rfl (wayD (by omega) c195) dX11_way_207 ?_
                            refine J_iload_5 X dX11_way_208 ?_
                            refine J_icmp_ne (tgt := 217) X dX11_way_210 (by decide) (fun c210 => ?_) (fun c210 => ?_)
                            · skip
                              rw [if_neg c210] at j128_0
                              refine J_iconst (v := 0) X dX11_way_217 rfl ?_
                              exact K128_218 _ j128_0.symm
                            · skip
                              rw [if_pos c210] at j128_0
                              refine J_iconst (v := 1) X dX11_way_213 rfl ?_
                              refine J_goto (tgt := 218) X dX11_way_214 (by decide) ?_
                              exact K128_218 _ j128_0.symm
                        · skip
                          rw [if_neg c173] at j128_0
                          refine J_aload_0 X dX11_way_176 ?_
                          refine JM_get X hR116_ 40 (by decide) rfl rfl gw_5_50 dX11_way_177 ?_
                          refine J_iload_6 X dX11_way_180 ?_
                          refine J_bipush (v := (8 : Int32)) X dX11_way_182 (by decide) ?_
                          refine J_isub X dX11_way_184 ?_
                          refine JM_ald X hR116_ 40 rfl rfl (wayU (by omega) c173) dX11_way_185 ?_
                          refine J_iload_5 X dX11_way_186 ?_
                          refine J_icmp_eq (tgt := 213) X dX11_way_188 (by decide) (fun c188 => ?_) (fun c188 => ?_)
                          · skip
                            rw [if_pos c188] at j128_0
                            refine J_iconst (v := 1) X dX11_way_213 rfl ?_
                            refine J_goto (tgt := 218) X dX11_way_214 (by decide) ?_
                            exact K128_218 _ j128_0.symm
                          · skip
                            rw [if_neg c188] at j128_0
                            refine J_iload_6 X dX11_way_191 ?_
                            refine J_bipush (v := (56 : Int32)) X dX11_way_193 (by decide) ?_
                            refine J_icmp_ge (tgt := 217) X dX11_way_195 (by decide) (fun c195 => ?_) (fun c195 => ?_)
                            · skip
                              rw [if_pos c195] at j128_0
                              refine J_iconst (v := 0) X dX11_way_217 rfl ?_
                              exact K128_218 _ j128_0.symm
                            · skip
                              rw [if_neg c195] at j128_0
                              refine J_aload_0 X dX11_way_198 ?_
                              refine JM_get X hR116_ 40 (by decide) rfl rfl gw_5_50 dX11_way_199 ?_
                              refine J_iload_6 X dX11_way_202 ?_
                              refine J_bipush (v := (8 : Int32)) X dX11_way_204 (by decide) ?_
                              refine J_iadd X dX11_way_206 ?_
                              refine JM_ald X hR116_ 40 rfl rfl (wayD (by omega) c195) dX11_way_207 ?_
                              refine J_iload_5 X dX11_way_208 ?_
                              refine J_icmp_ne (tgt := 217) X dX11_way_210 (by decide) (fun c210 => ?_) (fun c210 => ?_)
                              · skip
                                rw [if_neg c210] at j128_0
                                refine J_iconst (v := 0) X dX11_way_217 rfl ?_
                                exact K128_218 _ j128_0.symm
                              · skip
                                rw [if_pos c210] at j128_0
                                refine J_iconst (v := 1) X dX11_way_213 rfl ?_
                                refine J_goto (tgt := 218) X dX11_way_214 (by decide) ?_
                                exact K128_218 _ j128_0.symm
                      · skip
                        rw [if_neg c152] at j128_0
                        refine J_aload_0 X dX11_way_155 ?_
                        refine JM_get X hR116_ 40 (by decide) rfl rfl gw_5_50 dX11_way_156 ?_
                        refine J_iload_6 X dX11_way_159 ?_
                        refine J_iconst (v := 1) X dX11_way_161 rfl ?_
                        refine J_iadd X dX11_way_162 ?_
                        refine JM_ald X hR116_ 40 rfl rfl (wayR (by omega) c152) dX11_way_163 ?_
                        refine J_iload_5 X dX11_way_164 ?_
                        refine J_icmp_eq (tgt := 213) X dX11_way_166 (by decide) (fun c166 => ?_) (fun c166 => ?_)
                        · skip
                          rw [if_pos c166] at j128_0
                          refine J_iconst (v := 1) X dX11_way_213 rfl ?_
                          refine J_goto (tgt := 218) X dX11_way_214 (by decide) ?_
                          exact K128_218 _ j128_0.symm
                        · skip
                          rw [if_neg c166] at j128_0
                          refine J_iload_6 X dX11_way_169 ?_
                          refine J_bipush (v := (7 : Int32)) X dX11_way_171 (by decide) ?_
                          refine J_icmp_le (tgt := 191) X dX11_way_173 (by decide) (fun c173 => ?_) (fun c173 => ?_)
                          · skip
                            rw [if_pos c173] at j128_0
                            refine J_iload_6 X dX11_way_191 ?_
                            refine J_bipush (v := (56 : Int32)) X dX11_way_193 (by decide) ?_
                            refine J_icmp_ge (tgt := 217) X dX11_way_195 (by decide) (fun c195 => ?_) (fun c195 => ?_)
                            · skip
                              rw [if_pos c195] at j128_0
                              refine J_iconst (v := 0) X dX11_way_217 rfl ?_
                              exact K128_218 _ j128_0.symm
                            · skip
                              rw [if_neg c195] at j128_0
                              refine J_aload_0 X dX11_way_198 ?_
                              refine JM_get X hR116_ 40 (by decide) rfl rfl gw_5_50 dX11_way_199 ?_
                              refine J_iload_6 X dX11_way_202 ?_
                              refine J_bipush (v := (8 : Int32)) X dX11_way_204 (by decide) ?_
                              refine J_iadd X dX11_way_206 ?_
                              refine JM_ald X hR116_ 40 rfl rfl (wayD (by omega) c195) dX11_way_207 ?_
                              refine J_iload_5 X dX11_way_208 ?_
                              refine J_icmp_ne (tgt := 217) X dX11_way_210 (by decide) (fun c210 => ?_) (fun c210 => ?_)
                              · skip
                                rw [if_neg c210] at j128_0
                                refine J_iconst (v := 0) X dX11_way_217 rfl ?_
                                exact K128_218 _ j128_0.symm
                              · skip
                                rw [if_pos c210] at j128_0
                                refine J_iconst (v := 1) X dX11_way_213 rfl ?_
                                refine J_goto (tgt := 218) X dX11_way_214 (by decide) ?_
                                exact K128_218 _ j128_0.symm
                          · skip
                            rw [if_neg c173] at j128_0
                            refine J_aload_0 X dX11_way_176 ?_
                            refine JM_get X hR116_ 40 (by decide) rfl rfl gw_5_50 dX11_way_177 ?_
                            refine J_iload_6 X dX11_way_180 ?_
                            refine J_bipush (v := (8 : Int32)) X dX11_way_182 (by decide) ?_
                            refine J_isub X dX11_way_184 ?_
                            refine JM_ald X hR116_ 40 rfl rfl (wayU (by omega) c173) dX11_way_185 ?_
                            refine J_iload_5 X dX11_way_186 ?_
                            refine J_icmp_eq (tgt := 213) X dX11_way_188 (by decide) (fun c188 => ?_) (fun c188 => ?_)
                            · skip
                              rw [if_pos c188] at j128_0
                              refine J_iconst (v := 1) X dX11_way_213 rfl ?_
                              refine J_goto (tgt := 218) X dX11_way_214 (by decide) ?_
                              exact K128_218 _ j128_0.symm
                            · skip
                              rw [if_neg c188] at j128_0
                              refine J_iload_6 X dX11_way_191 ?_
                              refine J_bipush (v := (56 : Int32)) X dX11_way_193 (by decide) ?_
                              refine J_icmp_ge (tgt := 217) X dX11_way_195 (by decide) (fun c195 => ?_) (fun c195 => ?_)
                              · skip
                                rw [if_pos c195] at j128_0
                                refine J_iconst (v := 0) X dX11_way_217 rfl ?_
                                exact K128_218 _ j128_0.symm
                              · skip
                                rw [if_neg c195] at j128_0
                                refine J_aload_0 X dX11_way_198 ?_
                                refine JM_get X hR116_ 40 (by decide) rfl rfl gw_5_50 dX11_way_199 ?_
                                refine J_iload_6 X dX11_way_202 ?_
                                refine J_bipush (v := (8 : Int32)) X dX11_way_204 (by decide) ?_
                                refine J_iadd X dX11_way_206 ?_
                                refine JM_ald X hR116_ 40 rfl rfl (wayD (by omega) c195) dX11_way_207 ?_
                                refine J_iload_5 X dX11_way_208 ?_
                                refine J_icmp_ne (tgt := 217) X dX11_way_210 (by decide) (fun c210 => ?_) (fun c210 => ?_)
                                · skip
                                  rw [if_neg c210] at j128_0
                                  refine J_iconst (v := 0) X dX11_way_217 rfl ?_
                                  exact K128_218 _ j128_0.symm
                                · skip
                                  rw [if_pos c210] at j128_0
                                  refine J_iconst (v := 1) X dX11_way_213 rfl ?_
                                  refine J_goto (tgt := 218) X dX11_way_214 (by decide) ?_
                                  exact K128_218 _ j128_0.symm
              have q_v : (M_way σ p1 p2 p3) = (M_way_L116 σ p1 p2 p3 s57 k106 s106 K116 n64 0 s106) := by rw [hK116]; exact q_v
              have q_s : (M_way_s σ p1 p2 p3) = (M_way_L116_s σ p1 p2 p3 s57 k106 s106 K116s n64 0 s106) := by rw [hK116s]; exact q_s
              exact L116 n64 0 s106 h106_ (Nat.zero_add _) hR106_ hI106_ q_v q_s
          have q_v : (M_way σ p1 p2 p3) = (M_way_L106 σ p1 p2 p3 s57 K106 n64 0 s57) := by rw [hK106]; exact q_v
          have q_s : (M_way_s σ p1 p2 p3) = (M_way_L106_s σ p1 p2 p3 s57 K106s n64 0 s57) := by rw [hK106s]; exact q_s
          exact L106 n64 0 s57 h57_ (Nat.zero_add _) hR57_ hI57_ q_v q_s
        have L57 : ∀ (n57 k57 : Nat) (s57 : St) (h57_ : fH), k57 + n57 = n64 → RM (kca K) h57_ m ρ s57 → Inv s57 → (M_way σ p1 p2 p3) = (M_way_L57 σ p1 p2 p3 K57 n57 k57 s57) → (M_way_s σ p1 p2 p3) = (M_way_L57_s σ p1 p2 p3 K57s n57 k57 s57) → J K h57_ [some (.ref m), some (.int p1), some (.int p2), some (.int p3), some (.int (M_way_j4 σ p1 p2 p3)), some (.int (nI k57)), none, none] [] 57 0 0 := by
          intro n57
          induction n57 with
          | zero =>
            intro k57 s57 h57_ hk57 hR57_ hI57_ q_v q_s
            rw [M_way_L57] at q_v
            rw [M_way_L57_s] at q_s
            refine J_iload_5 X dX11_way_57 ?_
            refine J_bipush (v := (64 : Int32)) X dX11_way_59 (by decide) ?_
            refine J_icmp_ge (tgt := 103) X dX11_way_61 (by decide) (fun _ => ?_) (fun c => absurd (lp_exit (by rw [n64_eq]; rfl) (by omega) hk57) c)
            rw [hK57] at q_v
            rw [hK57s] at q_s
            refine J.subL (lv' := [some (.ref m), some (.int p1), some (.int p2), some (.int p3), some (.int (M_way_j4 σ p1 p2 p3)), none, none, none]) (And.intro rfl (And.intro rfl (And.intro rfl (And.intro rfl (And.intro rfl trivial))))) ?_
            exact X57 s57 h57_ trivial hR57_ hI57_ q_v q_s
          | succ n57 ih57 =>
            intro k57 s57 h57_ hk57 hR57_ hI57_ q_v q_s
            rw [M_way_L57] at q_v
            rw [M_way_L57_s] at q_s
            have hlt57 : k57 < n64 := by omega
            refine J_iload_5 X dX11_way_57 ?_
            refine J_bipush (v := (64 : Int32)) X dX11_way_59 (by decide) ?_
            refine J_icmp_ge (tgt := 103) X dX11_way_61 (by decide) (fun c => absurd c (lp_stay (by rw [n64_eq]; rfl) (by omega) hk57)) (fun _ => ?_)
            refine J_aload_0 X dX11_way_64 ?_
            refine JM_get X hR57_ 40 (by decide) rfl rfl gw_5_50 dX11_way_65 ?_
            refine J_iload_5 X dX11_way_68 ?_
            refine J_aload_0 X dX11_way_70 ?_
            refine J_iload_5 X dX11_way_71 ?_
            refine J_callV X (c_M_groundOf hR57_ hI57_ (nI k57) (vp_in_nI (N := 64) (by omega) (by decide))) (And.intro gw_6_78 cw_X11_groundOf) hR57_.1 rfl rfl rfl (Nat.le_of_ble_eq_true rfl) dX11_way_73 rfl (J.pi ?_) JE.no
            refine J_iload_3 X dX11_way_76 ?_
            have K77_96 : ∀ (v77_0 : Int32), v77_0 = (M_way_j77 σ p1 p2 p3 k57 s57) → J K h57_ [some (.ref m), some (.int p1), some (.int p2), some (.int p3), some (.int (M_way_j4 σ p1 p2 p3)), some (.int (nI k57)), none, none] [.int v77_0, .int (nI k57), .ref (ρ 40)] 96 0 0 := by
              intro v77_0 ev77_0
              try rw [ev77_0]
              clear ev77_0
              refine JM_ast X hR57_ 40 rfl rfl (vp_in_nI (N := 64) (by omega) (by decide)) dX11_way_96 (fun h3 hR3 => ?_)
              have hI3 : Inv (sS s57 40 (ix (nI k57)) (M_way_j77 σ p1 p2 p3 k57 s57)) := (Inv_sS hI57_ trivial)
              refine J_iinc_5 (v := (nI (k57 + 1))) X dX11_way_97 (nI_1 _) rfl (by decide) ?_
              refine J_goto (tgt := 57) X dX11_way_100 (by decide) ?_
              exact ih57 (k57 + 1) (sS s57 40 (ix (nI k57)) (M_way_j77 σ p1 p2 p3 k57 s57)) h3 (by omega) hR3 hI3 q_v q_s
            have j77_0 : M_way_j77 σ p1 p2 p3 k57 s57 = (if (M_groundOf s57 (nI k57)) ≤ p3 then (if (nI k57) = p1 then (0 : Int32) else (-1 : Int32)) else (-2 : Int32)) := rfl
            refine J_icmp_le (tgt := 85) X dX11_way_77 (by decide) (fun c77 => ?_) (fun c77 => ?_)
            · skip
              rw [if_pos c77] at j77_0
              refine J_iload_5 X dX11_way_85 ?_
              refine J_iload_1 X dX11_way_87 ?_
              refine J_icmp_ne (tgt := 95) X dX11_way_88 (by decide) (fun c88 => ?_) (fun c88 => ?_)
              · skip
                rw [if_neg c88] at j77_0
                refine J_iconst (v := -1) X dX11_way_95 rfl ?_
                exact K77_96 _ j77_0.symm
              · skip
                rw [if_pos c88] at j77_0
                refine J_iconst (v := 0) X dX11_way_91 rfl ?_
                refine J_goto (tgt := 96) X dX11_way_92 (by decide) ?_
                exact K77_96 _ j77_0.symm
            · skip
              rw [if_neg c77] at j77_0
              refine J_bipush (v := (-2 : Int32)) X dX11_way_80 (by decide) ?_
              refine J_goto (tgt := 96) X dX11_way_82 (by decide) ?_
              exact K77_96 _ j77_0.symm
        have q_v : (M_way σ p1 p2 p3) = (M_way_L57 σ p1 p2 p3 K57 n64 0 (M_fails_s σ (M_way_j24 σ p1 p2 p3))) := by rw [hK57]; exact q_v
        have q_s : (M_way_s σ p1 p2 p3) = (M_way_L57_s σ p1 p2 p3 K57s n64 0 (M_fails_s σ (M_way_j24 σ p1 p2 p3))) := by rw [hK57s]; exact q_s
        exact L57 n64 0 (M_fails_s σ (M_way_j24 σ p1 p2 p3)) h1 (Nat.zero_add _) hR1 hI1 q_v q_s
      · skip
        rw [if_neg c49] at q_v
        rw [if_neg c49] at q_s
        refine J_iconst (v := 0) X dX11_way_52 rfl ?_
        exact J_iret X rfl rfl ⟨by rw [q_v], by rw [q_s]; exact hR1⟩ dX11_way_53
    have j24_0 : M_way_j24 σ p1 p2 p3 = (if (M_way_j4 σ p1 p2 p3) = (0 : Int32) then (1 : Int32) else (if (M_isIn p3 (0 : Int32) (100000 : Int32)) = (0 : Int32) then (2 : Int32) else (0 : Int32))) := rfl
    refine J_if_ne (tgt := 31) X dX11_way_24 (by decide) (fun c24 => ?_) (fun c24 => ?_)
    · skip
      rw [if_neg c24] at j24_0
      refine J_iload_3 X dX11_way_31 ?_
      refine J_iconst (v := 0) X dX11_way_32 rfl ?_
      refine J_ldc (v := (100000 : Int32)) X dX11_way_33 gw_6_37 ?_
      refine J_callS X (c_M_isIn p3 (0 : Int32) (100000 : Int32)) (And.intro gw_5_148 cw_X11_isIn) rfl rfl (Nat.le_of_ble_eq_true rfl) dX11_way_35 rfl (J.pi ?_) JE.no
      refine J_if_eq (tgt := 45) X dX11_way_38 (by decide) (fun c38 => ?_) (fun c38 => ?_)
      · skip
        rw [if_pos c38] at j24_0
        refine J_iconst (v := 2) X dX11_way_45 rfl ?_
        exact K24_46 _ j24_0.symm
      · skip
        rw [if_neg c38] at j24_0
        refine J_iconst (v := 0) X dX11_way_41 rfl ?_
        refine J_goto (tgt := 46) X dX11_way_42 (by decide) ?_
        exact K24_46 _ j24_0.symm
    · skip
      rw [if_pos c24] at j24_0
      refine J_iconst (v := 1) X dX11_way_27 rfl ?_
      refine J_goto (tgt := 46) X dX11_way_28 (by decide) ?_
      exact K24_46 _ j24_0.symm
  have j4_0 : M_way_j4 σ p1 p2 p3 = (if (M_isPlace p1) = (0 : Int32) then (0 : Int32) else (if (M_isPlace p2) = (0 : Int32) then (0 : Int32) else (1 : Int32))) := rfl
  refine J_if_eq (tgt := 18) X dX11_way_4 (by decide) (fun c4 => ?_) (fun c4 => ?_)
  · skip
    rw [if_pos c4] at j4_0
    refine J_iconst (v := 0) X dX11_way_18 rfl ?_
    exact K4_19 _ j4_0.symm
  · skip
    rw [if_neg c4] at j4_0
    refine J_iload_2 X dX11_way_7 ?_
    refine J_callS X (c_M_isPlace p2) (And.intro gw_5_145 cw_X11_isPlace) rfl rfl (Nat.le_of_ble_eq_true rfl) dX11_way_8 rfl (J.pi ?_) JE.no
    refine J_if_eq (tgt := 18) X dX11_way_11 (by decide) (fun c11 => ?_) (fun c11 => ?_)
    · skip
      rw [if_pos c11] at j4_0
      refine J_iconst (v := 0) X dX11_way_18 rfl ?_
      exact K4_19 _ j4_0.symm
    · skip
      rw [if_neg c11] at j4_0
      refine J_iconst (v := 1) X dX11_way_14 rfl ?_
      refine J_goto (tgt := 19) X dX11_way_15 (by decide) ?_
      exact K4_19 _ j4_0.symm
def M_trails_j8 (σ : St) (p1 : Int32) (p2 : Int32) : Int32 := (if (M_isIn p1 (0 : Int32) (20000 : Int32)) = (0 : Int32) then (0 : Int32) else (if (M_isIn p2 (1 : Int32) (500 : Int32)) = (0 : Int32) then (0 : Int32) else (1 : Int32)))
theorem M_trails_j8_b (σ : St) (p1 : Int32) (p2 : Int32) : M_trails_j8 σ p1 p2 = 0 ∨ M_trails_j8 σ p1 p2 = 1 := by
  unfold M_trails_j8
  (repeat' split) <;> first | exact Or.inl rfl | exact Or.inr rfl
def M_trails_j30 (σ : St) (p1 : Int32) (p2 : Int32) : Int32 := (if (M_trails_j8 σ p1 p2) = (0 : Int32) then (1 : Int32) else (0 : Int32))
theorem M_trails_j30_b (σ : St) (p1 : Int32) (p2 : Int32) : M_trails_j30 σ p1 p2 = 0 ∨ M_trails_j30 σ p1 p2 = 1 := by
  unfold M_trails_j30
  (repeat' split) <;> first | exact Or.inl rfl | exact Or.inr rfl
def M_trails_j91 (σ : St) (p1 : Int32) (p2 : Int32) (k52 : Nat) (a52_4 : Int32) (k63 : Nat) (a63_4 : Int32) : Int32 := (if ((nI k52) - (nI k52) / ((M_fails_s σ (M_trails_j30 σ p1 p2)) 38 (ix (nI k63))) * ((M_fails_s σ (M_trails_j30 σ p1 p2)) 38 (ix (nI k63)))) = ((M_fails_s σ (M_trails_j30 σ p1 p2)) 39 (ix (nI k63))) then (if (M_isIn ((nI k52) - (nI k52) / (24 : Int32) * (24 : Int32)) (6 : Int32) (17 : Int32)) = (0 : Int32) then (1 : Int32) else (0 : Int32)) else (0 : Int32))
theorem M_trails_j91_b (σ : St) (p1 : Int32) (p2 : Int32) (k52 : Nat) (a52_4 : Int32) (k63 : Nat) (a63_4 : Int32) : M_trails_j91 σ p1 p2 k52 a52_4 k63 a63_4 = 0 ∨ M_trails_j91 σ p1 p2 k52 a52_4 k63 a63_4 = 1 := by
  unfold M_trails_j91
  (repeat' split) <;> first | exact Or.inl rfl | exact Or.inr rfl
def M_trails_L63 (σ : St) (p1 : Int32) (p2 : Int32) (k52 : Nat) (a52_4 : Int32) (K63 : Int32 → Int32) : Nat → Nat → Int32 → Int32
  | 0, _, a63_4 => K63 a63_4
  | n63 + 1, k63, a63_4 => (M_trails_L63 σ p1 p2 k52 a52_4 K63 n63 (k63 + 1) (a63_4 + (M_trails_j91 σ p1 p2 k52 a52_4 k63 a63_4)))
def M_trails_L63_s (σ : St) (p1 : Int32) (p2 : Int32) (k52 : Nat) (a52_4 : Int32) (K63s : Int32 → St) : Nat → Nat → Int32 → St
  | 0, _, a63_4 => K63s a63_4
  | n63 + 1, k63, a63_4 => (M_trails_L63_s σ p1 p2 k52 a52_4 K63s n63 (k63 + 1) (a63_4 + (M_trails_j91 σ p1 p2 k52 a52_4 k63 a63_4)))
def M_trails_L52 (σ : St) (p1 : Int32) (p2 : Int32) (K52 : Int32 → Int32) : Nat → Nat → Int32 → Int32
  | 0, _, a52_4 => K52 a52_4
  | n52 + 1, k52, a52_4 => (M_trails_L63 σ p1 p2 k52 a52_4 (fun a63_4 => (M_trails_L52 σ p1 p2 K52 n52 (k52 + 1) a63_4)) (ix (σ 37 0)) 0 a52_4)
def M_trails_L52_s (σ : St) (p1 : Int32) (p2 : Int32) (K52s : Int32 → St) : Nat → Nat → Int32 → St
  | 0, _, a52_4 => K52s a52_4
  | n52 + 1, k52, a52_4 => (M_trails_L63_s σ p1 p2 k52 a52_4 (fun a63_4 => (M_trails_L52_s σ p1 p2 K52s n52 (k52 + 1) a63_4)) (ix (σ 37 0)) 0 a52_4)
def M_trails (σ : St) (p1 : Int32) (p2 : Int32) : Int32 := (if (M_fails σ (M_trails_j30 σ p1 p2)) = (0 : Int32) then (M_trails_L52 σ p1 p2 (fun a52_4 => a52_4) (ix p2) (ix p1) (0 : Int32)) else (0 : Int32))
def M_trails_s (σ : St) (p1 : Int32) (p2 : Int32) : St := (if (M_fails σ (M_trails_j30 σ p1 p2)) = (0 : Int32) then (M_trails_L52_s σ p1 p2 (fun a52_4 => (M_fails_s σ (M_trails_j30 σ p1 p2))) (ix p2) (ix p1) (0 : Int32)) else (M_fails_s σ (M_trails_j30 σ p1 p2)))
theorem ok_trails0 {σ : St} {p1 p2 : Int32} (hI : Inv σ) (c : M_fails σ (M_trails_j30 σ p1 p2) = 0) : vp_in p1 20001 ∧ vp_in p2 501 := by
  have h1 : ¬ M_isIn p1 0 20000 = 0 := fun q => fz c (by unfold M_trails_j30 M_trails_j8; simp [q])
  have h2 : ¬ M_isIn p2 1 500 = 0 := fun q => fz c (by unfold M_trails_j30 M_trails_j8; simp [q])
  refine ⟨isIn_in (N := 20000) (b := 20000) (by decide) h1, ?_⟩
  have h3 := isIn_iff.mp h2
  rw [show (1 : Int32).toInt = 1 from rfl, show (500 : Int32).toInt = 500 from rfl] at h3
  exact vp_in_iff.mpr ⟨by omega, by omega⟩
theorem cw_X11_trails : Cond.instanceMethod yX11_trails ∈ GW ∧ Cond.selects RX11 yX11_trails yX11_trails ∈ GW ∧ Cond.initialized RX11 ∈ GW ∧ Cond.code yX11_trails cX11_trails 7 (some .int) ∈ GW ∧ yX11_trails.cls = RX11 ∧ (yX11_trails.cls ≠ "java/lang/invoke/MethodHandle" ∧ yX11_trails.cls ≠ "java/lang/invoke/VarHandle") ∧ (parseMethodDescriptor yX11_trails.desc).map (fun d => d.parameters.length) = some 2 := ⟨gw_6_100, gw_6_101, gw_1_14, gw_6_102, rfl, ⟨by decide, by decide⟩, by decide +kernel⟩
set_option maxRecDepth 100000 in
set_option maxHeartbeats 4000000 in
theorem c_M_trails {l : Launch} {D : va_G} {ca : Nat → Nat} {h : fH} {m : Nat} {ρ : Nat → Nat} {σ : St} (hR : RM ca h m ρ σ) (hI : Inv σ) (p1 : Int32) (p2 : Int32) (hper : ∀ j, j < ix (σ 37 0) → ¬ σ 38 j = 0) : FM l D ca yX11_trails (.code yX11_trails cX11_trails 7 (some .int)) { frames := 2, cells := 0, slots := 0, locals := 42 } [.ref m, .int p1, .int p2] h (pIM (M_trails σ p1 p2) (fun h2 => RM ca h2 m ρ (M_trails_s σ p1 p2))) noX := by
  refine FM.of [some (.ref m), some (.int p1), some (.int p2), none, none, none, none] (by decide) (Nat.le_of_ble_eq_true rfl) rfl ?_
  rintro K X rfl rfl rfl
  have q_v : (M_trails σ p1 p2) = (if (M_fails σ (M_trails_j30 σ p1 p2)) = (0 : Int32) then (M_trails_L52 σ p1 p2 (fun a52_4 => a52_4) (ix p2) (ix p1) (0 : Int32)) else (0 : Int32)) := rfl
  have q_s : (M_trails_s σ p1 p2) = (if (M_fails σ (M_trails_j30 σ p1 p2)) = (0 : Int32) then (M_trails_L52_s σ p1 p2 (fun a52_4 => (M_fails_s σ (M_trails_j30 σ p1 p2))) (ix p2) (ix p1) (0 : Int32)) else (M_fails_s σ (M_trails_j30 σ p1 p2))) := rfl
  refine J_iload_1 X dX11_trails_0 ?_
  refine J_iconst (v := 0) X dX11_trails_1 rfl ?_
  refine J_sipush (v := (20000 : Int32)) X dX11_trails_2 (by decide) ?_
  refine J_callS X (c_M_isIn p1 (0 : Int32) (20000 : Int32)) (And.intro gw_5_148 cw_X11_isIn) rfl rfl (Nat.le_of_ble_eq_true rfl) dX11_trails_5 rfl (J.pi ?_) JE.no
  have K8_27 : ∀ (v8_0 : Int32), v8_0 = (M_trails_j8 σ p1 p2) → J K h [some (.ref m), some (.int p1), some (.int p2), none, none, none, none] [.int v8_0] 27 0 0 := by
    intro v8_0 ev8_0
    try rw [ev8_0]
    clear ev8_0
    refine J_istore_3 X dX11_trails_27 rfl (by decide) ?_
    refine J_aload_0 X dX11_trails_28 ?_
    refine J_iload_3 X dX11_trails_29 ?_
    have K30_38 : ∀ (v30_0 : Int32), v30_0 = (M_trails_j30 σ p1 p2) → J K h [some (.ref m), some (.int p1), some (.int p2), some (.int (M_trails_j8 σ p1 p2)), none, none, none] [.int v30_0, .ref m] 38 0 0 := by
      intro v30_0 ev30_0
      try rw [ev30_0]
      clear ev30_0
      refine J_callV X (c_M_fails hR (M_trails_j30 σ p1 p2)) (And.intro gw_5_151 cw_X11_fails) hR.1 rfl rfl rfl (Nat.le_of_ble_eq_true rfl) dX11_trails_38 rfl (J.pim (fun h1 hR1 => ?_)) JE.no
      have hI1 : Inv (M_fails_s σ (M_trails_j30 σ p1 p2)) := (Inv_fails hI)
      refine J_if_eq (tgt := 46) X dX11_trails_41 (by decide) (fun c41 => ?_) (fun c41 => ?_)
      · skip
        rw [if_pos c41] at q_v
        rw [if_pos c41] at q_s
        obtain ⟨hp, hp2⟩ := ok_trails0 hI c41
        have hz := vp_lt hp
        have hz2 := vp_lt hp2
        have hle := (cnt (N := 10) (hI 37 0) (by decide)).2
        refine J_iconst (v := 0) X dX11_trails_46 rfl ?_
        refine J_istore_4 X dX11_trails_47 rfl (by decide) ?_
        refine J_iload_1 X dX11_trails_49 ?_
        refine J_istore_5 X dX11_trails_50 rfl (by decide) ?_
        obtain ⟨K52, hK52⟩ : ∃ f : Int32 → Int32, f = (fun a52_4 => a52_4) := ⟨_, rfl⟩
        obtain ⟨K52s, hK52s⟩ : ∃ f : Int32 → St, f = (fun a52_4 => (M_fails_s σ (M_trails_j30 σ p1 p2))) := ⟨_, rfl⟩
        have X52 : ∀ (a52_4 : Int32) (_ : True), (M_trails σ p1 p2) = a52_4 → (M_trails_s σ p1 p2) = (M_fails_s σ (M_trails_j30 σ p1 p2)) → J K h1 [some (.ref m), some (.int p1), some (.int p2), some (.int (M_trails_j8 σ p1 p2)), some (.int a52_4), none, none] [] 129 0 0 := by
          intro a52_4  _  q_v q_s
          refine J_iload_4 X dX11_trails_129 ?_
          exact J_iret X rfl rfl ⟨by rw [q_v], by rw [q_s]; exact hR1⟩ dX11_trails_131
        have L52 : ∀ (n52 k52 : Nat) (a52_4 : Int32), k52 + n52 = (ix p1 + ix p2) → (M_trails σ p1 p2) = (M_trails_L52 σ p1 p2 K52 n52 k52 a52_4) → (M_trails_s σ p1 p2) = (M_trails_L52_s σ p1 p2 K52s n52 k52 a52_4) → J K h1 [some (.ref m), some (.int p1), some (.int p2), some (.int (M_trails_j8 σ p1 p2)), some (.int a52_4), some (.int (nI k52)), none] [] 52 0 0 := by
          intro n52
          induction n52 with
          | zero =>
            intro k52 a52_4  hk52  q_v q_s
            rw [M_trails_L52] at q_v
            rw [M_trails_L52_s] at q_s
            refine J_iload_5 X dX11_trails_52 ?_
            refine J_iload_1 X dX11_trails_54 ?_
            refine J_iload_2 X dX11_trails_55 ?_
            refine J_iadd X dX11_trails_56 ?_
            refine J_icmp_ge (tgt := 129) X dX11_trails_57 (by decide) (fun _ => ?_) (fun c => absurd (lp_exit (by rw [← nI_add, ← vp_nI' hp (by decide), ← vp_nI' hp2 (by decide)]) (by omega) hk52) c)
            rw [hK52] at q_v
            rw [hK52s] at q_s
            refine J.subL (lv' := [some (.ref m), some (.int p1), some (.int p2), some (.int (M_trails_j8 σ p1 p2)), some (.int a52_4), none, none]) (And.intro rfl (And.intro rfl (And.intro rfl (And.intro rfl (And.intro rfl trivial))))) ?_
            exact X52 a52_4  trivial  q_v q_s
          | succ n52 ih52 =>
            intro k52 a52_4  hk52  q_v q_s
            rw [M_trails_L52] at q_v
            rw [M_trails_L52_s] at q_s
            have hlt52 : k52 < (ix p1 + ix p2) := by omega
            refine J_iload_5 X dX11_trails_52 ?_
            refine J_iload_1 X dX11_trails_54 ?_
            refine J_iload_2 X dX11_trails_55 ?_
            refine J_iadd X dX11_trails_56 ?_
            refine J_icmp_ge (tgt := 129) X dX11_trails_57 (by decide) (fun c => absurd c (lp_stay (by rw [← nI_add, ← vp_nI' hp (by decide), ← vp_nI' hp2 (by decide)]) (by omega) hk52)) (fun _ => ?_)
            refine J_iconst (v := 0) X dX11_trails_60 rfl ?_
            refine J_istore_6 X dX11_trails_61 rfl (by decide) ?_
            obtain ⟨K63, hK63⟩ : ∃ f : Int32 → Int32, f = (fun a63_4 => (M_trails_L52 σ p1 p2 K52 n52 (k52 + 1) a63_4)) := ⟨_, rfl⟩
            obtain ⟨K63s, hK63s⟩ : ∃ f : Int32 → St, f = (fun a63_4 => (M_trails_L52_s σ p1 p2 K52s n52 (k52 + 1) a63_4)) := ⟨_, rfl⟩
            have X63 : ∀ (a63_4 : Int32) (_ : True), (M_trails σ p1 p2) = (M_trails_L52 σ p1 p2 K52 n52 (k52 + 1) a63_4) → (M_trails_s σ p1 p2) = (M_trails_L52_s σ p1 p2 K52s n52 (k52 + 1) a63_4) → J K h1 [some (.ref m), some (.int p1), some (.int p2), some (.int (M_trails_j8 σ p1 p2)), some (.int a63_4), some (.int (nI k52)), none] [] 123 0 0 := by
              intro a63_4  _  q_v q_s
              refine J_iinc_5 (v := (nI (k52 + 1))) X dX11_trails_123 (nI_1 _) rfl (by decide) ?_
              refine J_goto (tgt := 52) X dX11_trails_126 (by decide) ?_
              exact ih52 (k52 + 1) a63_4  (by omega)  q_v q_s
            have L63 : ∀ (n63 k63 : Nat) (a63_4 : Int32), k63 + n63 = ix (σ 37 0) → (M_trails σ p1 p2) = (M_trails_L63 σ p1 p2 k52 a52_4 K63 n63 k63 a63_4) → (M_trails_s σ p1 p2) = (M_trails_L63_s σ p1 p2 k52 a52_4 K63s n63 k63 a63_4) → J K h1 [some (.ref m), some (.int p1), some (.int p2), some (.int (M_trails_j8 σ p1 p2)), some (.int a63_4), some (.int (nI k52)), some (.int (nI k63))] [] 63 0 0 := by
              intro n63
              induction n63 with
              | zero =>
                intro k63 a63_4  hk63  q_v q_s
                rw [M_trails_L63] at q_v
                rw [M_trails_L63_s] at q_s
                refine J_iload_6 X dX11_trails_63 ?_
                refine J_aload_0 X dX11_trails_65 ?_
                refine JM_get X hR1 37 (by decide) rfl rfl gw_5_47 dX11_trails_66 ?_
                refine J_icmp_ge (tgt := 123) X dX11_trails_69 (by decide) (fun _ => ?_) (fun c => absurd (lp_exit (cnt (N := 10) (hI 37 0) (by decide)).1 (by omega) hk63) c)
                rw [hK63] at q_v
                rw [hK63s] at q_s
                refine J.subL (lv' := [some (.ref m), some (.int p1), some (.int p2), some (.int (M_trails_j8 σ p1 p2)), some (.int a63_4), some (.int (nI k52)), none]) (And.intro rfl (And.intro rfl (And.intro rfl (And.intro rfl (And.intro rfl (And.intro rfl trivial)))))) ?_
                exact X63 a63_4  trivial  q_v q_s
              | succ n63 ih63 =>
                intro k63 a63_4  hk63  q_v q_s
                rw [M_trails_L63] at q_v
                rw [M_trails_L63_s] at q_s
                have hlt63 : k63 < ix (σ 37 0) := by omega
                refine J_iload_6 X dX11_trails_63 ?_
                refine J_aload_0 X dX11_trails_65 ?_
                refine JM_get X hR1 37 (by decide) rfl rfl gw_5_47 dX11_trails_66 ?_
                refine J_icmp_ge (tgt := 123) X dX11_trails_69 (by decide) (fun c => absurd c (lp_stay (cnt (N := 10) (hI 37 0) (by decide)).1 (by omega) hk63)) (fun _ => ?_)
                refine J_iload_4 X dX11_trails_72 ?_
                refine J_iload_5 X dX11_trails_74 ?_
                refine J_aload_0 X dX11_trails_76 ?_
                refine JM_get X hR1 38 (by decide) rfl rfl gw_5_48 dX11_trails_77 ?_
                refine J_iload_6 X dX11_trails_80 ?_
                refine JM_ald X hR1 38 rfl rfl (vp_in_nI (N := 10) (by omega) (by decide)) dX11_trails_82 ?_
                refine J_irem X dX11_trails_83 (by rw [show ix (nI k63) = k63 from nI_clamp (by omega)]; exact hper k63 hlt63) ?_
                refine J_aload_0 X dX11_trails_84 ?_
                refine JM_get X hR1 39 (by decide) rfl rfl gw_5_49 dX11_trails_85 ?_
                refine J_iload_6 X dX11_trails_88 ?_
                refine JM_ald X hR1 39 rfl rfl (vp_in_nI (N := 10) (by omega) (by decide)) dX11_trails_90 ?_
                have K91_114 : ∀ (v91_0 : Int32), v91_0 = (M_trails_j91 σ p1 p2 k52 a52_4 k63 a63_4) → J K h1 [some (.ref m), some (.int p1), some (.int p2), some (.int (M_trails_j8 σ p1 p2)), some (.int a63_4), some (.int (nI k52)), some (.int (nI k63))] [.int v91_0, .int a63_4] 114 0 0 := by
                  intro v91_0 ev91_0
                  try rw [ev91_0]
                  clear ev91_0
                  refine J_iadd X dX11_trails_114 ?_
                  refine J_istore_4 X dX11_trails_115 rfl (by decide) ?_
                  refine J_iinc_6 (v := (nI (k63 + 1))) X dX11_trails_117 (nI_1 _) rfl (by decide) ?_
                  refine J_goto (tgt := 63) X dX11_trails_120 (by decide) ?_
                  exact ih63 (k63 + 1) (a63_4 + (M_trails_j91 σ p1 p2 k52 a52_4 k63 a63_4))  (by omega)  q_v q_s
                have j91_0 : M_trails_j91 σ p1 p2 k52 a52_4 k63 a63_4 = (if ((nI k52) - (nI k52) / ((M_fails_s σ (M_trails_j30 σ p1 p2)) 38 (ix (nI k63))) * ((M_fails_s σ (M_trails_j30 σ p1 p2)) 38 (ix (nI k63)))) = ((M_fails_s σ (M_trails_j30 σ p1 p2)) 39 (ix (nI k63))) then (if (M_isIn ((nI k52) - (nI k52) / (24 : Int32) * (24 : Int32)) (6 : Int32) (17 : Int32)) = (0 : Int32) then (1 : Int32) else (0 : Int32)) else (0 : Int32)) := rfl
                refine J_icmp_ne (tgt := 113) X dX11_trails_91 (by decide) (fun c91 => ?_) (fun c91 => ?_)
                · skip
                  rw [if_neg c91] at j91_0
                  refine J_iconst (v := 0) X dX11_trails_113 rfl ?_
                  exact K91_114 _ j91_0.symm
                · skip
                  rw [if_pos c91] at j91_0
                  refine J_iload_5 X dX11_trails_94 ?_
                  refine J_bipush (v := (24 : Int32)) X dX11_trails_96 (by decide) ?_
                  refine J_irem X dX11_trails_98 (by decide) ?_
                  refine J_bipush (v := (6 : Int32)) X dX11_trails_99 (by decide) ?_
                  refine J_bipush (v := (17 : Int32)) X dX11_trails_101 (by decide) ?_
                  refine J_callS X (c_M_isIn ((nI k52) - (nI k52) / (24 : Int32) * (24 : Int32)) (6 : Int32) (17 : Int32)) (And.intro gw_5_148 cw_X11_isIn) rfl rfl (Nat.le_of_ble_eq_true rfl) dX11_trails_103 rfl (J.pi ?_) JE.no
                  refine J_if_ne (tgt := 113) X dX11_trails_106 (by decide) (fun c106 => ?_) (fun c106 => ?_)
                  · skip
                    rw [if_neg c106] at j91_0
                    refine J_iconst (v := 0) X dX11_trails_113 rfl ?_
                    exact K91_114 _ j91_0.symm
                  · skip
                    rw [if_pos c106] at j91_0
                    refine J_iconst (v := 1) X dX11_trails_109 rfl ?_
                    refine J_goto (tgt := 114) X dX11_trails_110 (by decide) ?_
                    exact K91_114 _ j91_0.symm
            have q_v : (M_trails σ p1 p2) = (M_trails_L63 σ p1 p2 k52 a52_4 K63 (ix (σ 37 0)) 0 a52_4) := by rw [hK63]; exact q_v
            have q_s : (M_trails_s σ p1 p2) = (M_trails_L63_s σ p1 p2 k52 a52_4 K63s (ix (σ 37 0)) 0 a52_4) := by rw [hK63s]; exact q_s
            exact L63 (ix (σ 37 0)) 0 a52_4  (Nat.zero_add _)  q_v q_s
        have q_v : (M_trails σ p1 p2) = (M_trails_L52 σ p1 p2 K52 (ix p2) (ix p1) (0 : Int32)) := by rw [hK52]; exact q_v
        have q_s : (M_trails_s σ p1 p2) = (M_trails_L52_s σ p1 p2 K52s (ix p2) (ix p1) (0 : Int32)) := by rw [hK52s]; exact q_s
        have ec52 : p1 = nI (ix p1) := (vp_nI' hp (by decide))
        have z52 := L52 (ix p2) (ix p1) (0 : Int32)  rfl  q_v q_s
        rw [← ec52] at z52
        exact z52
      · skip
        rw [if_neg c41] at q_v
        rw [if_neg c41] at q_s
        refine J_iconst (v := 0) X dX11_trails_44 rfl ?_
        exact J_iret X rfl rfl ⟨by rw [q_v], by rw [q_s]; exact hR1⟩ dX11_trails_45
    have j30_0 : M_trails_j30 σ p1 p2 = (if (M_trails_j8 σ p1 p2) = (0 : Int32) then (1 : Int32) else (0 : Int32)) := rfl
    refine J_if_eq (tgt := 37) X dX11_trails_30 (by decide) (fun c30 => ?_) (fun c30 => ?_)
    · skip
      rw [if_pos c30] at j30_0
      refine J_iconst (v := 1) X dX11_trails_37 rfl ?_
      exact K30_38 _ j30_0.symm
    · skip
      rw [if_neg c30] at j30_0
      refine J_iconst (v := 0) X dX11_trails_33 rfl ?_
      refine J_goto (tgt := 38) X dX11_trails_34 (by decide) ?_
      exact K30_38 _ j30_0.symm
  have j8_0 : M_trails_j8 σ p1 p2 = (if (M_isIn p1 (0 : Int32) (20000 : Int32)) = (0 : Int32) then (0 : Int32) else (if (M_isIn p2 (1 : Int32) (500 : Int32)) = (0 : Int32) then (0 : Int32) else (1 : Int32))) := rfl
  refine J_if_eq (tgt := 26) X dX11_trails_8 (by decide) (fun c8 => ?_) (fun c8 => ?_)
  · skip
    rw [if_pos c8] at j8_0
    refine J_iconst (v := 0) X dX11_trails_26 rfl ?_
    exact K8_27 _ j8_0.symm
  · skip
    rw [if_neg c8] at j8_0
    refine J_iload_2 X dX11_trails_11 ?_
    refine J_iconst (v := 1) X dX11_trails_12 rfl ?_
    refine J_sipush (v := (500 : Int32)) X dX11_trails_13 (by decide) ?_
    refine J_callS X (c_M_isIn p2 (1 : Int32) (500 : Int32)) (And.intro gw_5_148 cw_X11_isIn) rfl rfl (Nat.le_of_ble_eq_true rfl) dX11_trails_16 rfl (J.pi ?_) JE.no
    refine J_if_eq (tgt := 26) X dX11_trails_19 (by decide) (fun c19 => ?_) (fun c19 => ?_)
    · skip
      rw [if_pos c19] at j8_0
      refine J_iconst (v := 0) X dX11_trails_26 rfl ?_
      exact K8_27 _ j8_0.symm
    · skip
      rw [if_neg c19] at j8_0
      refine J_iconst (v := 1) X dX11_trails_22 rfl ?_
      refine J_goto (tgt := 27) X dX11_trails_23 (by decide) ?_
      exact K8_27 _ j8_0.symm
def M_plan_j5 (σ : St) (p1 : Int32) (p2 : Int32) (p3 : Int32) : Int32 := (if (M_isVillage σ p1) = (0 : Int32) then (0 : Int32) else (if (M_isPlace p2) = (0 : Int32) then (0 : Int32) else (1 : Int32)))
theorem M_plan_j5_b (σ : St) (p1 : Int32) (p2 : Int32) (p3 : Int32) : M_plan_j5 σ p1 p2 p3 = 0 ∨ M_plan_j5 σ p1 p2 p3 = 1 := by
  unfold M_plan_j5
  (repeat' split) <;> first | exact Or.inl rfl | exact Or.inr rfl
def M_plan_j25 (σ : St) (p1 : Int32) (p2 : Int32) (p3 : Int32) : Int32 := (if (M_plan_j5 σ p1 p2 p3) = (0 : Int32) then (1 : Int32) else (if (M_isIn p3 (0 : Int32) (10000 : Int32)) = (0 : Int32) then (2 : Int32) else (0 : Int32)))
def M_plan_j120 (σ : St) (p1 : Int32) (p2 : Int32) (p3 : Int32) (k68 : Nat) (a68_5 : Int32) (a68_6 : Int32) (a68_7 : Int32) (k92 : Nat) (a92_9 : Int32) (a92_10 : Int32) (a92_11 : Int32) : Int32 := (if (((nI k68) >>> (a92_9 &&& 31)) &&& (1 : Int32)) = (1 : Int32) then (1 : Int32) else (0 : Int32))
theorem M_plan_j120_b (σ : St) (p1 : Int32) (p2 : Int32) (p3 : Int32) (k68 : Nat) (a68_5 : Int32) (a68_6 : Int32) (a68_7 : Int32) (k92 : Nat) (a92_9 : Int32) (a92_10 : Int32) (a92_11 : Int32) : M_plan_j120 σ p1 p2 p3 k68 a68_5 a68_6 a68_7 k92 a92_9 a92_10 a92_11 = 0 ∨ M_plan_j120 σ p1 p2 p3 k68 a68_5 a68_6 a68_7 k92 a92_9 a92_10 a92_11 = 1 := by
  unfold M_plan_j120
  (repeat' split) <;> first | exact Or.inl rfl | exact Or.inr rfl
def M_plan_j134 (σ : St) (p1 : Int32) (p2 : Int32) (p3 : Int32) (k68 : Nat) (a68_5 : Int32) (a68_6 : Int32) (a68_7 : Int32) (k92 : Nat) (a92_9 : Int32) (a92_10 : Int32) (a92_11 : Int32) : Int32 := (if (M_plan_j120 σ p1 p2 p3 k68 a68_5 a68_6 a68_7 k92 a92_9 a92_10 a92_11) = (0 : Int32) then (0 : Int32) else (M_given (M_fails_s σ (M_plan_j25 σ p1 p2 p3)) (nI k92) p2))
def M_plan_j155 (σ : St) (p1 : Int32) (p2 : Int32) (p3 : Int32) (k68 : Nat) (a68_5 : Int32) (a68_6 : Int32) (a68_7 : Int32) (k92 : Nat) (a92_9 : Int32) (a92_10 : Int32) (a92_11 : Int32) : Int32 := (if (M_plan_j120 σ p1 p2 p3 k68 a68_5 a68_6 a68_7 k92 a92_9 a92_10 a92_11) = (0 : Int32) then (0 : Int32) else (if (M_isBound (M_fails_s σ (M_plan_j25 σ p1 p2 p3)) (nI k92)) = (0 : Int32) then ((2 : Int32) * ((10 : Int32) - ((M_fails_s σ (M_plan_j25 σ p1 p2 p3)) 18 (ix (nI k92))))) else (20000 : Int32)))
def M_plan_j109l9 (σ : St) (p1 : Int32) (p2 : Int32) (p3 : Int32) (k68 : Nat) (a68_5 : Int32) (a68_6 : Int32) (a68_7 : Int32) (k92 : Nat) (a92_9 : Int32) (a92_10 : Int32) (a92_11 : Int32) : Int32 := (if ((M_fails_s σ (M_plan_j25 σ p1 p2 p3)) 14 (ix (nI k92))) = p1 then (a92_9 + 1) else a92_9)
def M_plan_j109l10 (σ : St) (p1 : Int32) (p2 : Int32) (p3 : Int32) (k68 : Nat) (a68_5 : Int32) (a68_6 : Int32) (a68_7 : Int32) (k92 : Nat) (a92_9 : Int32) (a92_10 : Int32) (a92_11 : Int32) : Int32 := (if ((M_fails_s σ (M_plan_j25 σ p1 p2 p3)) 14 (ix (nI k92))) = p1 then (a92_10 + (M_plan_j134 σ p1 p2 p3 k68 a68_5 a68_6 a68_7 k92 a92_9 a92_10 a92_11)) else a92_10)
def M_plan_j109l11 (σ : St) (p1 : Int32) (p2 : Int32) (p3 : Int32) (k68 : Nat) (a68_5 : Int32) (a68_6 : Int32) (a68_7 : Int32) (k92 : Nat) (a92_9 : Int32) (a92_10 : Int32) (a92_11 : Int32) : Int32 := (if ((M_fails_s σ (M_plan_j25 σ p1 p2 p3)) 14 (ix (nI k92))) = p1 then (a92_11 + (M_plan_j155 σ p1 p2 p3 k68 a68_5 a68_6 a68_7 k92 a92_9 a92_10 a92_11)) else a92_11)
def M_plan_L92 (σ : St) (p1 : Int32) (p2 : Int32) (p3 : Int32) (k68 : Nat) (a68_5 : Int32) (a68_6 : Int32) (a68_7 : Int32) (K92 : Int32 → Int32 → Int32 → Int32) : Nat → Nat → Int32 → Int32 → Int32 → Int32
  | 0, _, a92_9, a92_10, a92_11 => K92 a92_9 a92_10 a92_11
  | n92 + 1, k92, a92_9, a92_10, a92_11 => (M_plan_L92 σ p1 p2 p3 k68 a68_5 a68_6 a68_7 K92 n92 (k92 + 1) (M_plan_j109l9 σ p1 p2 p3 k68 a68_5 a68_6 a68_7 k92 a92_9 a92_10 a92_11) (M_plan_j109l10 σ p1 p2 p3 k68 a68_5 a68_6 a68_7 k92 a92_9 a92_10 a92_11) (M_plan_j109l11 σ p1 p2 p3 k68 a68_5 a68_6 a68_7 k92 a92_9 a92_10 a92_11))
def M_plan_L92_s (σ : St) (p1 : Int32) (p2 : Int32) (p3 : Int32) (k68 : Nat) (a68_5 : Int32) (a68_6 : Int32) (a68_7 : Int32) (K92s : Int32 → Int32 → Int32 → St) : Nat → Nat → Int32 → Int32 → Int32 → St
  | 0, _, a92_9, a92_10, a92_11 => K92s a92_9 a92_10 a92_11
  | n92 + 1, k92, a92_9, a92_10, a92_11 => (M_plan_L92_s σ p1 p2 p3 k68 a68_5 a68_6 a68_7 K92s n92 (k92 + 1) (M_plan_j109l9 σ p1 p2 p3 k68 a68_5 a68_6 a68_7 k92 a92_9 a92_10 a92_11) (M_plan_j109l10 σ p1 p2 p3 k68 a68_5 a68_6 a68_7 k92 a92_9 a92_10 a92_11) (M_plan_j109l11 σ p1 p2 p3 k68 a68_5 a68_6 a68_7 k92 a92_9 a92_10 a92_11))
def M_plan_j204 (σ : St) (p1 : Int32) (p2 : Int32) (p3 : Int32) (k68 : Nat) (a68_5 : Int32) (a68_6 : Int32) (a68_7 : Int32) (a92_9 : Int32) (a92_10 : Int32) (a92_11 : Int32) : Int32 := (if p3 < a92_11 then (0 : Int32) else (if a68_6 < a92_10 then (1 : Int32) else (if a92_10 = a68_6 then (if a68_7 ≤ a92_11 then (0 : Int32) else (1 : Int32)) else (0 : Int32))))
theorem M_plan_j204_b (σ : St) (p1 : Int32) (p2 : Int32) (p3 : Int32) (k68 : Nat) (a68_5 : Int32) (a68_6 : Int32) (a68_7 : Int32) (a92_9 : Int32) (a92_10 : Int32) (a92_11 : Int32) : M_plan_j204 σ p1 p2 p3 k68 a68_5 a68_6 a68_7 a92_9 a92_10 a92_11 = 0 ∨ M_plan_j204 σ p1 p2 p3 k68 a68_5 a68_6 a68_7 a92_9 a92_10 a92_11 = 1 := by
  unfold M_plan_j204
  (repeat' split) <;> first | exact Or.inl rfl | exact Or.inr rfl
def M_plan_j237 (σ : St) (p1 : Int32) (p2 : Int32) (p3 : Int32) (k68 : Nat) (a68_5 : Int32) (a68_6 : Int32) (a68_7 : Int32) (a92_9 : Int32) (a92_10 : Int32) (a92_11 : Int32) : Int32 := (if (M_plan_j204 σ p1 p2 p3 k68 a68_5 a68_6 a68_7 a92_9 a92_10 a92_11) = (0 : Int32) then a68_5 else (nI k68))
def M_plan_j251 (σ : St) (p1 : Int32) (p2 : Int32) (p3 : Int32) (k68 : Nat) (a68_5 : Int32) (a68_6 : Int32) (a68_7 : Int32) (a92_9 : Int32) (a92_10 : Int32) (a92_11 : Int32) : Int32 := (if (M_plan_j204 σ p1 p2 p3 k68 a68_5 a68_6 a68_7 a92_9 a92_10 a92_11) = (0 : Int32) then a68_7 else a92_11)
def M_plan_j265 (σ : St) (p1 : Int32) (p2 : Int32) (p3 : Int32) (k68 : Nat) (a68_5 : Int32) (a68_6 : Int32) (a68_7 : Int32) (a92_9 : Int32) (a92_10 : Int32) (a92_11 : Int32) : Int32 := (if (M_plan_j204 σ p1 p2 p3 k68 a68_5 a68_6 a68_7 a92_9 a92_10 a92_11) = (0 : Int32) then a68_6 else a92_10)
def M_plan_L68 (σ : St) (p1 : Int32) (p2 : Int32) (p3 : Int32) (K68 : Int32 → Int32 → Int32 → Int32) : Nat → Nat → Int32 → Int32 → Int32 → Int32
  | 0, _, a68_5, a68_6, a68_7 => K68 a68_5 a68_6 a68_7
  | n68 + 1, k68, a68_5, a68_6, a68_7 => (M_plan_L92 σ p1 p2 p3 k68 a68_5 a68_6 a68_7 (fun a92_9 a92_10 a92_11 => (M_plan_L68 σ p1 p2 p3 K68 n68 (k68 + 1) (M_plan_j237 σ p1 p2 p3 k68 a68_5 a68_6 a68_7 a92_9 a92_10 a92_11) (M_plan_j265 σ p1 p2 p3 k68 a68_5 a68_6 a68_7 a92_9 a92_10 a92_11) (M_plan_j251 σ p1 p2 p3 k68 a68_5 a68_6 a68_7 a92_9 a92_10 a92_11))) (ix (σ 13 0)) 0 (0 : Int32) (0 : Int32) (0 : Int32))
def M_plan_L68_s (σ : St) (p1 : Int32) (p2 : Int32) (p3 : Int32) (K68s : Int32 → Int32 → Int32 → St) : Nat → Nat → Int32 → Int32 → Int32 → St
  | 0, _, a68_5, a68_6, a68_7 => K68s a68_5 a68_6 a68_7
  | n68 + 1, k68, a68_5, a68_6, a68_7 => (M_plan_L92_s σ p1 p2 p3 k68 a68_5 a68_6 a68_7 (fun a92_9 a92_10 a92_11 => (M_plan_L68_s σ p1 p2 p3 K68s n68 (k68 + 1) (M_plan_j237 σ p1 p2 p3 k68 a68_5 a68_6 a68_7 a92_9 a92_10 a92_11) (M_plan_j265 σ p1 p2 p3 k68 a68_5 a68_6 a68_7 a92_9 a92_10 a92_11) (M_plan_j251 σ p1 p2 p3 k68 a68_5 a68_6 a68_7 a92_9 a92_10 a92_11))) (ix (σ 13 0)) 0 (0 : Int32) (0 : Int32) (0 : Int32))
def M_plan (σ : St) (p1 : Int32) (p2 : Int32) (p3 : Int32) : Int32 := (if (M_fails σ (M_plan_j25 σ p1 p2 p3)) = (0 : Int32) then (M_plan_L68 σ p1 p2 p3 (fun a68_5 a68_6 a68_7 => a68_5) (ix ((1 : Int32) <<< ((M_lampsOf (M_fails_s σ (M_plan_j25 σ p1 p2 p3)) p1) &&& 31))) 0 (0 : Int32) (0 : Int32) (0 : Int32)) else (0 : Int32))
def M_plan_s (σ : St) (p1 : Int32) (p2 : Int32) (p3 : Int32) : St := (if (M_fails σ (M_plan_j25 σ p1 p2 p3)) = (0 : Int32) then (M_plan_L68_s σ p1 p2 p3 (fun a68_5 a68_6 a68_7 => (M_fails_s σ (M_plan_j25 σ p1 p2 p3))) (ix ((1 : Int32) <<< ((M_lampsOf (M_fails_s σ (M_plan_j25 σ p1 p2 p3)) p1) &&& 31))) 0 (0 : Int32) (0 : Int32) (0 : Int32)) else (M_fails_s σ (M_plan_j25 σ p1 p2 p3)))
theorem ok_plan0 {σ : St} {p1 p2 p3 : Int32} (hI : Inv σ) (c : M_fails σ (M_plan_j25 σ p1 p2 p3) = 0) : vp_in p2 64 := by
  refine isPlace_in (fun q => ?_)
  exact fz c (by unfold M_plan_j25 M_plan_j5; simp [q])
theorem cw_X11_plan : Cond.instanceMethod yX11_plan ∈ GW ∧ Cond.selects RX11 yX11_plan yX11_plan ∈ GW ∧ Cond.initialized RX11 ∈ GW ∧ Cond.code yX11_plan cX11_plan 14 (some .int) ∈ GW ∧ yX11_plan.cls = RX11 ∧ (yX11_plan.cls ≠ "java/lang/invoke/MethodHandle" ∧ yX11_plan.cls ≠ "java/lang/invoke/VarHandle") ∧ (parseMethodDescriptor yX11_plan.desc).map (fun d => d.parameters.length) = some 3 := ⟨gw_6_108, gw_6_109, gw_1_14, gw_6_110, rfl, ⟨by decide, by decide⟩, by decide +kernel⟩
set_option maxRecDepth 100000 in
set_option maxHeartbeats 4000000 in
theorem c_M_plan {l : Launch} {D : va_G} {ca : Nat → Nat} {h : fH} {m : Nat} {ρ : Nat → Nat} {σ : St} (hR : RM ca h m ρ σ) (hI : Inv σ) (p1 : Int32) (p2 : Int32) (p3 : Int32) : FM l D ca yX11_plan (.code yX11_plan cX11_plan 14 (some .int)) { frames := 4, cells := 0, slots := 0, locals := 95 } [.ref m, .int p1, .int p2, .int p3] h (pIM (M_plan σ p1 p2 p3) (fun h2 => RM ca h2 m ρ (M_plan_s σ p1 p2 p3))) noX := by
  refine FM.of [some (.ref m), some (.int p1), some (.int p2), some (.int p3), none, none, none, none, none, none, none, none, none, none] (by decide) (Nat.le_of_ble_eq_true rfl) rfl ?_
  rintro K X rfl rfl rfl
  have q_v : (M_plan σ p1 p2 p3) = (if (M_fails σ (M_plan_j25 σ p1 p2 p3)) = (0 : Int32) then (M_plan_L68 σ p1 p2 p3 (fun a68_5 a68_6 a68_7 => a68_5) (ix ((1 : Int32) <<< ((M_lampsOf (M_fails_s σ (M_plan_j25 σ p1 p2 p3)) p1) &&& 31))) 0 (0 : Int32) (0 : Int32) (0 : Int32)) else (0 : Int32)) := rfl
  have q_s : (M_plan_s σ p1 p2 p3) = (if (M_fails σ (M_plan_j25 σ p1 p2 p3)) = (0 : Int32) then (M_plan_L68_s σ p1 p2 p3 (fun a68_5 a68_6 a68_7 => (M_fails_s σ (M_plan_j25 σ p1 p2 p3))) (ix ((1 : Int32) <<< ((M_lampsOf (M_fails_s σ (M_plan_j25 σ p1 p2 p3)) p1) &&& 31))) 0 (0 : Int32) (0 : Int32) (0 : Int32)) else (M_fails_s σ (M_plan_j25 σ p1 p2 p3))) := rfl
  refine J_aload_0 X dX11_plan_0 ?_
  refine J_iload_1 X dX11_plan_1 ?_
  refine J_callV X (c_M_isVillage hR p1) (And.intro gw_5_190 cw_X11_isVillage) hR.1 rfl rfl rfl (Nat.le_of_ble_eq_true rfl) dX11_plan_2 rfl (J.pi ?_) JE.no
  have K5_20 : ∀ (v5_0 : Int32), v5_0 = (M_plan_j5 σ p1 p2 p3) → J K h [some (.ref m), some (.int p1), some (.int p2), some (.int p3), none, none, none, none, none, none, none, none, none, none] [.int v5_0] 20 0 0 := by
    intro v5_0 ev5_0
    try rw [ev5_0]
    clear ev5_0
    refine J_istore_4 X dX11_plan_20 rfl (by decide) ?_
    refine J_aload_0 X dX11_plan_22 ?_
    refine J_iload_4 X dX11_plan_23 ?_
    have K25_48 : ∀ (v25_0 : Int32), v25_0 = (M_plan_j25 σ p1 p2 p3) → J K h [some (.ref m), some (.int p1), some (.int p2), some (.int p3), some (.int (M_plan_j5 σ p1 p2 p3)), none, none, none, none, none, none, none, none, none] [.int v25_0, .ref m] 48 0 0 := by
      intro v25_0 ev25_0
      try rw [ev25_0]
      clear ev25_0
      refine J_callV X (c_M_fails hR (M_plan_j25 σ p1 p2 p3)) (And.intro gw_5_151 cw_X11_fails) hR.1 rfl rfl rfl (Nat.le_of_ble_eq_true rfl) dX11_plan_48 rfl (J.pim (fun h1 hR1 => ?_)) JE.no
      have hI1 : Inv (M_fails_s σ (M_plan_j25 σ p1 p2 p3)) := (Inv_fails hI)
      refine J_if_eq (tgt := 56) X dX11_plan_51 (by decide) (fun c51 => ?_) (fun c51 => ?_)
      · skip
        rw [if_pos c51] at q_v
        rw [if_pos c51] at q_s
        have hp := ok_plan0 hI c51
        have hle := (cnt (N := 40) (hI 13 0) (by decide)).2
        refine J_iconst (v := 0) X dX11_plan_56 rfl ?_
        refine J_istore_5 X dX11_plan_57 rfl (by decide) ?_
        refine J_iconst (v := 0) X dX11_plan_59 rfl ?_
        refine J_istore_6 X dX11_plan_60 rfl (by decide) ?_
        refine J_iconst (v := 0) X dX11_plan_62 rfl ?_
        refine J_istore_7 X dX11_plan_63 rfl (by decide) ?_
        refine J_iconst (v := 0) X dX11_plan_65 rfl ?_
        refine J_istore_8 X dX11_plan_66 rfl (by decide) ?_
        obtain ⟨K68, hK68⟩ : ∃ f : Int32 → Int32 → Int32 → Int32, f = (fun a68_5 a68_6 a68_7 => a68_5) := ⟨_, rfl⟩
        obtain ⟨K68s, hK68s⟩ : ∃ f : Int32 → Int32 → Int32 → St, f = (fun a68_5 a68_6 a68_7 => (M_fails_s σ (M_plan_j25 σ p1 p2 p3))) := ⟨_, rfl⟩
        have X68 : ∀ (a68_5 : Int32) (a68_6 : Int32) (a68_7 : Int32) (_ : True), (M_plan σ p1 p2 p3) = a68_5 → (M_plan_s σ p1 p2 p3) = (M_fails_s σ (M_plan_j25 σ p1 p2 p3)) → J K h1 [some (.ref m), some (.int p1), some (.int p2), some (.int p3), some (.int (M_plan_j5 σ p1 p2 p3)), some (.int a68_5), some (.int a68_6), some (.int a68_7), none, none, none, none, none, none] [] 283 0 0 := by
          intro a68_5 a68_6 a68_7  _  q_v q_s
          refine J_iload_5 X dX11_plan_283 ?_
          exact J_iret X rfl rfl ⟨by rw [q_v], by rw [q_s]; exact hR1⟩ dX11_plan_285
        have L68 : ∀ (n68 k68 : Nat) (a68_5 : Int32) (a68_6 : Int32) (a68_7 : Int32), k68 + n68 = ix ((1 : Int32) <<< ((M_lampsOf (M_fails_s σ (M_plan_j25 σ p1 p2 p3)) p1) &&& 31)) → (M_plan σ p1 p2 p3) = (M_plan_L68 σ p1 p2 p3 K68 n68 k68 a68_5 a68_6 a68_7) → (M_plan_s σ p1 p2 p3) = (M_plan_L68_s σ p1 p2 p3 K68s n68 k68 a68_5 a68_6 a68_7) → J K h1 [some (.ref m), some (.int p1), some (.int p2), some (.int p3), some (.int (M_plan_j5 σ p1 p2 p3)), some (.int a68_5), some (.int a68_6), some (.int a68_7), some (.int (nI k68)), none, none, none, none, none] [] 68 0 0 := by
          intro n68
          induction n68 with
          | zero =>
            intro k68 a68_5 a68_6 a68_7  hk68  q_v q_s
            rw [M_plan_L68] at q_v
            rw [M_plan_L68_s] at q_s
            refine J_iload_8 X dX11_plan_68 ?_
            refine J_iconst (v := 1) X dX11_plan_70 rfl ?_
            refine J_aload_0 X dX11_plan_71 ?_
            refine J_iload_1 X dX11_plan_72 ?_
            refine J_callV X (c_M_lampsOf hR1 hI1 p1) (And.intro gw_5_194 cw_X11_lampsOf) hR1.1 rfl rfl rfl (Nat.le_of_ble_eq_true rfl) dX11_plan_73 rfl (J.pi ?_) JE.no
            refine J_ishl X dX11_plan_76 ?_
            refine J_icmp_ge (tgt := 283) X dX11_plan_77 (by decide) (fun _ => ?_) (fun c => absurd (lp_exit' hk68) c)
            rw [hK68] at q_v
            rw [hK68s] at q_s
            refine J.subL (lv' := [some (.ref m), some (.int p1), some (.int p2), some (.int p3), some (.int (M_plan_j5 σ p1 p2 p3)), some (.int a68_5), some (.int a68_6), some (.int a68_7), none, none, none, none, none, none]) (And.intro rfl (And.intro rfl (And.intro rfl (And.intro rfl (And.intro rfl (And.intro rfl (And.intro rfl (And.intro rfl trivial)))))))) ?_
            exact X68 a68_5 a68_6 a68_7  trivial  q_v q_s
          | succ n68 ih68 =>
            intro k68 a68_5 a68_6 a68_7  hk68  q_v q_s
            rw [M_plan_L68] at q_v
            rw [M_plan_L68_s] at q_s
            have hlt68 : k68 < ix ((1 : Int32) <<< ((M_lampsOf (M_fails_s σ (M_plan_j25 σ p1 p2 p3)) p1) &&& 31)) := by omega
            refine J_iload_8 X dX11_plan_68 ?_
            refine J_iconst (v := 1) X dX11_plan_70 rfl ?_
            refine J_aload_0 X dX11_plan_71 ?_
            refine J_iload_1 X dX11_plan_72 ?_
            refine J_callV X (c_M_lampsOf hR1 hI1 p1) (And.intro gw_5_194 cw_X11_lampsOf) hR1.1 rfl rfl rfl (Nat.le_of_ble_eq_true rfl) dX11_plan_73 rfl (J.pi ?_) JE.no
            refine J_ishl X dX11_plan_76 ?_
            refine J_icmp_ge (tgt := 283) X dX11_plan_77 (by decide) (fun c => absurd c (lp_stay' hk68)) (fun _ => ?_)
            refine J_iconst (v := 0) X dX11_plan_80 rfl ?_
            refine J_istore_9 X dX11_plan_81 rfl (by decide) ?_
            refine J_iconst (v := 0) X dX11_plan_83 rfl ?_
            refine J_istore_10 X dX11_plan_84 rfl (by decide) ?_
            refine J_iconst (v := 0) X dX11_plan_86 rfl ?_
            refine J_istore_11 X dX11_plan_87 rfl (by decide) ?_
            refine J_iconst (v := 0) X dX11_plan_89 rfl ?_
            refine J_istore_12 X dX11_plan_90 rfl (by decide) ?_
            obtain ⟨K92, hK92⟩ : ∃ f : Int32 → Int32 → Int32 → Int32, f = (fun a92_9 a92_10 a92_11 => (M_plan_L68 σ p1 p2 p3 K68 n68 (k68 + 1) (M_plan_j237 σ p1 p2 p3 k68 a68_5 a68_6 a68_7 a92_9 a92_10 a92_11) (M_plan_j265 σ p1 p2 p3 k68 a68_5 a68_6 a68_7 a92_9 a92_10 a92_11) (M_plan_j251 σ p1 p2 p3 k68 a68_5 a68_6 a68_7 a92_9 a92_10 a92_11))) := ⟨_, rfl⟩
            obtain ⟨K92s, hK92s⟩ : ∃ f : Int32 → Int32 → Int32 → St, f = (fun a92_9 a92_10 a92_11 => (M_plan_L68_s σ p1 p2 p3 K68s n68 (k68 + 1) (M_plan_j237 σ p1 p2 p3 k68 a68_5 a68_6 a68_7 a92_9 a92_10 a92_11) (M_plan_j265 σ p1 p2 p3 k68 a68_5 a68_6 a68_7 a92_9 a92_10 a92_11) (M_plan_j251 σ p1 p2 p3 k68 a68_5 a68_6 a68_7 a92_9 a92_10 a92_11))) := ⟨_, rfl⟩
            have X92 : ∀ (a92_9 : Int32) (a92_10 : Int32) (a92_11 : Int32) (_ : True), (M_plan σ p1 p2 p3) = (M_plan_L68 σ p1 p2 p3 K68 n68 (k68 + 1) (M_plan_j237 σ p1 p2 p3 k68 a68_5 a68_6 a68_7 a92_9 a92_10 a92_11) (M_plan_j265 σ p1 p2 p3 k68 a68_5 a68_6 a68_7 a92_9 a92_10 a92_11) (M_plan_j251 σ p1 p2 p3 k68 a68_5 a68_6 a68_7 a92_9 a92_10 a92_11)) → (M_plan_s σ p1 p2 p3) = (M_plan_L68_s σ p1 p2 p3 K68s n68 (k68 + 1) (M_plan_j237 σ p1 p2 p3 k68 a68_5 a68_6 a68_7 a92_9 a92_10 a92_11) (M_plan_j265 σ p1 p2 p3 k68 a68_5 a68_6 a68_7 a92_9 a92_10 a92_11) (M_plan_j251 σ p1 p2 p3 k68 a68_5 a68_6 a68_7 a92_9 a92_10 a92_11)) → J K h1 [some (.ref m), some (.int p1), some (.int p2), some (.int p3), some (.int (M_plan_j5 σ p1 p2 p3)), some (.int a68_5), some (.int a68_6), some (.int a68_7), some (.int (nI k68)), some (.int a92_9), some (.int a92_10), some (.int a92_11), none, none] [] 201 0 0 := by
              intro a92_9 a92_10 a92_11  _  q_v q_s
              refine J_iload_11 X dX11_plan_201 ?_
              refine J_iload_3 X dX11_plan_203 ?_
              have K204_233 : ∀ (v204_0 : Int32), v204_0 = (M_plan_j204 σ p1 p2 p3 k68 a68_5 a68_6 a68_7 a92_9 a92_10 a92_11) → J K h1 [some (.ref m), some (.int p1), some (.int p2), some (.int p3), some (.int (M_plan_j5 σ p1 p2 p3)), some (.int a68_5), some (.int a68_6), some (.int a68_7), some (.int (nI k68)), some (.int a92_9), some (.int a92_10), some (.int a92_11), none, none] [.int v204_0] 233 0 0 := by
                intro v204_0 ev204_0
                try rw [ev204_0]
                clear ev204_0
                refine J_istore_12 X dX11_plan_233 rfl (by decide) ?_
                refine J_iload_12 X dX11_plan_235 ?_
                have K237_247 : ∀ (v237_0 : Int32), v237_0 = (M_plan_j237 σ p1 p2 p3 k68 a68_5 a68_6 a68_7 a92_9 a92_10 a92_11) → J K h1 [some (.ref m), some (.int p1), some (.int p2), some (.int p3), some (.int (M_plan_j5 σ p1 p2 p3)), some (.int a68_5), some (.int a68_6), some (.int a68_7), some (.int (nI k68)), some (.int a92_9), some (.int a92_10), some (.int a92_11), some (.int (M_plan_j204 σ p1 p2 p3 k68 a68_5 a68_6 a68_7 a92_9 a92_10 a92_11)), none] [.int v237_0] 247 0 0 := by
                  intro v237_0 ev237_0
                  try rw [ev237_0]
                  clear ev237_0
                  refine J_istore_5 X dX11_plan_247 rfl (by decide) ?_
                  refine J_iload_12 X dX11_plan_249 ?_
                  have K251_261 : ∀ (v251_0 : Int32), v251_0 = (M_plan_j251 σ p1 p2 p3 k68 a68_5 a68_6 a68_7 a92_9 a92_10 a92_11) → J K h1 [some (.ref m), some (.int p1), some (.int p2), some (.int p3), some (.int (M_plan_j5 σ p1 p2 p3)), some (.int (M_plan_j237 σ p1 p2 p3 k68 a68_5 a68_6 a68_7 a92_9 a92_10 a92_11)), some (.int a68_6), some (.int a68_7), some (.int (nI k68)), some (.int a92_9), some (.int a92_10), some (.int a92_11), some (.int (M_plan_j204 σ p1 p2 p3 k68 a68_5 a68_6 a68_7 a92_9 a92_10 a92_11)), none] [.int v251_0] 261 0 0 := by
                    intro v251_0 ev251_0
                    try rw [ev251_0]
                    clear ev251_0
                    refine J_istore_7 X dX11_plan_261 rfl (by decide) ?_
                    refine J_iload_12 X dX11_plan_263 ?_
                    have K265_275 : ∀ (v265_0 : Int32), v265_0 = (M_plan_j265 σ p1 p2 p3 k68 a68_5 a68_6 a68_7 a92_9 a92_10 a92_11) → J K h1 [some (.ref m), some (.int p1), some (.int p2), some (.int p3), some (.int (M_plan_j5 σ p1 p2 p3)), some (.int (M_plan_j237 σ p1 p2 p3 k68 a68_5 a68_6 a68_7 a92_9 a92_10 a92_11)), some (.int a68_6), some (.int (M_plan_j251 σ p1 p2 p3 k68 a68_5 a68_6 a68_7 a92_9 a92_10 a92_11)), some (.int (nI k68)), some (.int a92_9), some (.int a92_10), some (.int a92_11), some (.int (M_plan_j204 σ p1 p2 p3 k68 a68_5 a68_6 a68_7 a92_9 a92_10 a92_11)), none] [.int v265_0] 275 0 0 := by
                      intro v265_0 ev265_0
                      try rw [ev265_0]
                      clear ev265_0
                      refine J_istore_6 X dX11_plan_275 rfl (by decide) ?_
                      refine J_iinc_8 (v := (nI (k68 + 1))) X dX11_plan_277 (nI_1 _) rfl (by decide) ?_
                      refine J_goto (tgt := 68) X dX11_plan_280 (by decide) ?_
                      refine J.subL (lv' := [some (.ref m), some (.int p1), some (.int p2), some (.int p3), some (.int (M_plan_j5 σ p1 p2 p3)), some (.int (M_plan_j237 σ p1 p2 p3 k68 a68_5 a68_6 a68_7 a92_9 a92_10 a92_11)), some (.int (M_plan_j265 σ p1 p2 p3 k68 a68_5 a68_6 a68_7 a92_9 a92_10 a92_11)), some (.int (M_plan_j251 σ p1 p2 p3 k68 a68_5 a68_6 a68_7 a92_9 a92_10 a92_11)), some (.int (nI (k68 + 1))), none, none, none, none, none]) (And.intro rfl (And.intro rfl (And.intro rfl (And.intro rfl (And.intro rfl (And.intro rfl (And.intro rfl (And.intro rfl (And.intro rfl trivial))))))))) ?_
                      exact ih68 (k68 + 1) (M_plan_j237 σ p1 p2 p3 k68 a68_5 a68_6 a68_7 a92_9 a92_10 a92_11) (M_plan_j265 σ p1 p2 p3 k68 a68_5 a68_6 a68_7 a92_9 a92_10 a92_11) (M_plan_j251 σ p1 p2 p3 k68 a68_5 a68_6 a68_7 a92_9 a92_10 a92_11)  (by omega)  q_v q_s
                    have j265_0 : M_plan_j265 σ p1 p2 p3 k68 a68_5 a68_6 a68_7 a92_9 a92_10 a92_11 = (if (M_plan_j204 σ p1 p2 p3 k68 a68_5 a68_6 a68_7 a92_9 a92_10 a92_11) = (0 : Int32) then a68_6 else a92_10) := rfl
                    refine J_if_eq (tgt := 273) X dX11_plan_265 (by decide) (fun c265 => ?_) (fun c265 => ?_)
                    · skip
                      rw [if_pos c265] at j265_0
                      refine J_iload_6 X dX11_plan_273 ?_
                      exact K265_275 _ j265_0.symm
                    · skip
                      rw [if_neg c265] at j265_0
                      refine J_iload_10 X dX11_plan_268 ?_
                      refine J_goto (tgt := 275) X dX11_plan_270 (by decide) ?_
                      exact K265_275 _ j265_0.symm
                  have j251_0 : M_plan_j251 σ p1 p2 p3 k68 a68_5 a68_6 a68_7 a92_9 a92_10 a92_11 = (if (M_plan_j204 σ p1 p2 p3 k68 a68_5 a68_6 a68_7 a92_9 a92_10 a92_11) = (0 : Int32) then a68_7 else a92_11) := rfl
                  refine J_if_eq (tgt := 259) X dX11_plan_251 (by decide) (fun c251 => ?_) (fun c251 => ?_)
                  · skip
                    rw [if_pos c251] at j251_0
                    refine J_iload_7 X dX11_plan_259 ?_
                    exact K251_261 _ j251_0.symm
                  · skip
                    rw [if_neg c251] at j251_0
                    refine J_iload_11 X dX11_plan_254 ?_
                    refine J_goto (tgt := 261) X dX11_plan_256 (by decide) ?_
                    exact K251_261 _ j251_0.symm
                have j237_0 : M_plan_j237 σ p1 p2 p3 k68 a68_5 a68_6 a68_7 a92_9 a92_10 a92_11 = (if (M_plan_j204 σ p1 p2 p3 k68 a68_5 a68_6 a68_7 a92_9 a92_10 a92_11) = (0 : Int32) then a68_5 else (nI k68)) := rfl
                refine J_if_eq (tgt := 245) X dX11_plan_237 (by decide) (fun c237 => ?_) (fun c237 => ?_)
                · skip
                  rw [if_pos c237] at j237_0
                  refine J_iload_5 X dX11_plan_245 ?_
                  exact K237_247 _ j237_0.symm
                · skip
                  rw [if_neg c237] at j237_0
                  refine J_iload_8 X dX11_plan_240 ?_
                  refine J_goto (tgt := 247) X dX11_plan_242 (by decide) ?_
                  exact K237_247 _ j237_0.symm
              have j204_0 : M_plan_j204 σ p1 p2 p3 k68 a68_5 a68_6 a68_7 a92_9 a92_10 a92_11 = (if p3 < a92_11 then (0 : Int32) else (if a68_6 < a92_10 then (1 : Int32) else (if a92_10 = a68_6 then (if a68_7 ≤ a92_11 then (0 : Int32) else (1 : Int32)) else (0 : Int32)))) := rfl
              refine J_icmp_gt (tgt := 232) X dX11_plan_204 (by decide) (fun c204 => ?_) (fun c204 => ?_)
              · skip
                rw [if_pos c204] at j204_0
                refine J_iconst (v := 0) X dX11_plan_232 rfl ?_
                exact K204_233 _ j204_0.symm
              · skip
                rw [if_neg c204] at j204_0
                refine J_iload_10 X dX11_plan_207 ?_
                refine J_iload_6 X dX11_plan_209 ?_
                refine J_icmp_gt (tgt := 228) X dX11_plan_211 (by decide) (fun c211 => ?_) (fun c211 => ?_)
                · skip
                  rw [if_pos c211] at j204_0
                  refine J_iconst (v := 1) X dX11_plan_228 rfl ?_
                  refine J_goto (tgt := 233) X dX11_plan_229 (by decide) ?_
                  exact K204_233 _ j204_0.symm
                · skip
                  rw [if_neg c211] at j204_0
                  refine J_iload_10 X dX11_plan_214 ?_
                  refine J_iload_6 X dX11_plan_216 ?_
                  refine J_icmp_ne (tgt := 232) X dX11_plan_218 (by decide) (fun c218 => ?_) (fun c218 => ?_)
                  · skip
                    rw [if_neg c218] at j204_0
                    refine J_iconst (v := 0) X dX11_plan_232 rfl ?_
                    exact K204_233 _ j204_0.symm
                  · skip
                    rw [if_pos c218] at j204_0
                    refine J_iload_11 X dX11_plan_221 ?_
                    refine J_iload_7 X dX11_plan_223 ?_
                    refine J_icmp_ge (tgt := 232) X dX11_plan_225 (by decide) (fun c225 => ?_) (fun c225 => ?_)
                    · skip
                      rw [if_pos c225] at j204_0
                      refine J_iconst (v := 0) X dX11_plan_232 rfl ?_
                      exact K204_233 _ j204_0.symm
                    · skip
                      rw [if_neg c225] at j204_0
                      refine J_iconst (v := 1) X dX11_plan_228 rfl ?_
                      refine J_goto (tgt := 233) X dX11_plan_229 (by decide) ?_
                      exact K204_233 _ j204_0.symm
            have L92 : ∀ (n92 k92 : Nat) (a92_9 : Int32) (a92_10 : Int32) (a92_11 : Int32), k92 + n92 = ix (σ 13 0) → (M_plan σ p1 p2 p3) = (M_plan_L92 σ p1 p2 p3 k68 a68_5 a68_6 a68_7 K92 n92 k92 a92_9 a92_10 a92_11) → (M_plan_s σ p1 p2 p3) = (M_plan_L92_s σ p1 p2 p3 k68 a68_5 a68_6 a68_7 K92s n92 k92 a92_9 a92_10 a92_11) → J K h1 [some (.ref m), some (.int p1), some (.int p2), some (.int p3), some (.int (M_plan_j5 σ p1 p2 p3)), some (.int a68_5), some (.int a68_6), some (.int a68_7), some (.int (nI k68)), some (.int a92_9), some (.int a92_10), some (.int a92_11), some (.int (nI k92)), none] [] 92 0 0 := by
              intro n92
              induction n92 with
              | zero =>
                intro k92 a92_9 a92_10 a92_11  hk92  q_v q_s
                rw [M_plan_L92] at q_v
                rw [M_plan_L92_s] at q_s
                refine J_iload_12 X dX11_plan_92 ?_
                refine J_aload_0 X dX11_plan_94 ?_
                refine JM_get X hR1 13 (by decide) rfl rfl gw_5_23 dX11_plan_95 ?_
                refine J_icmp_ge (tgt := 201) X dX11_plan_98 (by decide) (fun _ => ?_) (fun c => absurd (lp_exit (cnt (N := 40) (hI 13 0) (by decide)).1 (by have := (cnt (N := 40) (hI 13 0) (by decide)).2; omega) hk92) c)
                rw [hK92] at q_v
                rw [hK92s] at q_s
                refine J.subL (lv' := [some (.ref m), some (.int p1), some (.int p2), some (.int p3), some (.int (M_plan_j5 σ p1 p2 p3)), some (.int a68_5), some (.int a68_6), some (.int a68_7), some (.int (nI k68)), some (.int a92_9), some (.int a92_10), some (.int a92_11), none, none]) (And.intro rfl (And.intro rfl (And.intro rfl (And.intro rfl (And.intro rfl (And.intro rfl (And.intro rfl (And.intro rfl (And.intro rfl (And.intro rfl (And.intro rfl (And.intro rfl trivial)))))))))))) ?_
                exact X92 a92_9 a92_10 a92_11  trivial  q_v q_s
              | succ n92 ih92 =>
                intro k92 a92_9 a92_10 a92_11  hk92  q_v q_s
                rw [M_plan_L92] at q_v
                rw [M_plan_L92_s] at q_s
                have hlt92 : k92 < ix (σ 13 0) := by omega
                refine J_iload_12 X dX11_plan_92 ?_
                refine J_aload_0 X dX11_plan_94 ?_
                refine JM_get X hR1 13 (by decide) rfl rfl gw_5_23 dX11_plan_95 ?_
                refine J_icmp_ge (tgt := 201) X dX11_plan_98 (by decide) (fun c => absurd c (lp_stay (cnt (N := 40) (hI 13 0) (by decide)).1 (by have := (cnt (N := 40) (hI 13 0) (by decide)).2; omega) hk92)) (fun _ => ?_)
                refine J_aload_0 X dX11_plan_101 ?_
                refine JM_get X hR1 14 (by decide) rfl rfl gw_5_24 dX11_plan_102 ?_
                refine J_iload_12 X dX11_plan_105 ?_
                refine JM_ald X hR1 14 rfl rfl (vp_in_nI (N := 40) (by omega) (by decide)) dX11_plan_107 ?_
                refine J_iload_1 X dX11_plan_108 ?_
                have K109_195 : ∀ (v109_0 : Int32), v109_0 = (M_plan_j109l9 σ p1 p2 p3 k68 a68_5 a68_6 a68_7 k92 a92_9 a92_10 a92_11) → ∀ (v109_1 : Int32), v109_1 = (M_plan_j109l10 σ p1 p2 p3 k68 a68_5 a68_6 a68_7 k92 a92_9 a92_10 a92_11) → ∀ (v109_2 : Int32), v109_2 = (M_plan_j109l11 σ p1 p2 p3 k68 a68_5 a68_6 a68_7 k92 a92_9 a92_10 a92_11) → J K h1 [some (.ref m), some (.int p1), some (.int p2), some (.int p3), some (.int (M_plan_j5 σ p1 p2 p3)), some (.int a68_5), some (.int a68_6), some (.int a68_7), some (.int (nI k68)), some (.int v109_0), some (.int v109_1), some (.int v109_2), some (.int (nI k92)), none] [] 195 0 0 := by
                  intro v109_0 ev109_0
                  try rw [ev109_0]
                  clear ev109_0
                  intro v109_1 ev109_1
                  try rw [ev109_1]
                  clear ev109_1
                  intro v109_2 ev109_2
                  try rw [ev109_2]
                  clear ev109_2
                  refine J_iinc_12 (v := (nI (k92 + 1))) X dX11_plan_195 (nI_1 _) rfl (by decide) ?_
                  refine J_goto (tgt := 92) X dX11_plan_198 (by decide) ?_
                  exact ih92 (k92 + 1) (M_plan_j109l9 σ p1 p2 p3 k68 a68_5 a68_6 a68_7 k92 a92_9 a92_10 a92_11) (M_plan_j109l10 σ p1 p2 p3 k68 a68_5 a68_6 a68_7 k92 a92_9 a92_10 a92_11) (M_plan_j109l11 σ p1 p2 p3 k68 a68_5 a68_6 a68_7 k92 a92_9 a92_10 a92_11)  (by omega)  q_v q_s
                have j109_0 : M_plan_j109l9 σ p1 p2 p3 k68 a68_5 a68_6 a68_7 k92 a92_9 a92_10 a92_11 = (if ((M_fails_s σ (M_plan_j25 σ p1 p2 p3)) 14 (ix (nI k92))) = p1 then (a92_9 + 1) else a92_9) := rfl
                have j109_1 : M_plan_j109l10 σ p1 p2 p3 k68 a68_5 a68_6 a68_7 k92 a92_9 a92_10 a92_11 = (if ((M_fails_s σ (M_plan_j25 σ p1 p2 p3)) 14 (ix (nI k92))) = p1 then (a92_10 + (M_plan_j134 σ p1 p2 p3 k68 a68_5 a68_6 a68_7 k92 a92_9 a92_10 a92_11)) else a92_10) := rfl
                have j109_2 : M_plan_j109l11 σ p1 p2 p3 k68 a68_5 a68_6 a68_7 k92 a92_9 a92_10 a92_11 = (if ((M_fails_s σ (M_plan_j25 σ p1 p2 p3)) 14 (ix (nI k92))) = p1 then (a92_11 + (M_plan_j155 σ p1 p2 p3 k68 a68_5 a68_6 a68_7 k92 a92_9 a92_10 a92_11)) else a92_11) := rfl
                refine J_icmp_ne (tgt := 195) X dX11_plan_109 (by decide) (fun c109 => ?_) (fun c109 => ?_)
                · skip
                  rw [if_neg c109] at j109_0
                  rw [if_neg c109] at j109_1
                  rw [if_neg c109] at j109_2
                  exact K109_195 _ j109_0.symm _ j109_1.symm _ j109_2.symm
                · skip
                  rw [if_pos c109] at j109_0
                  rw [if_pos c109] at j109_1
                  rw [if_pos c109] at j109_2
                  refine J_iload_8 X dX11_plan_112 ?_
                  refine J_iload_9 X dX11_plan_114 ?_
                  refine J_ishr X dX11_plan_116 ?_
                  refine J_iconst (v := 1) X dX11_plan_117 rfl ?_
                  refine J_iand X dX11_plan_118 ?_
                  refine J_iconst (v := 1) X dX11_plan_119 rfl ?_
                  have K120_128 : ∀ (v120_0 : Int32), v120_0 = (M_plan_j120 σ p1 p2 p3 k68 a68_5 a68_6 a68_7 k92 a92_9 a92_10 a92_11) → J K h1 [some (.ref m), some (.int p1), some (.int p2), some (.int p3), some (.int (M_plan_j5 σ p1 p2 p3)), some (.int a68_5), some (.int a68_6), some (.int a68_7), some (.int (nI k68)), some (.int a92_9), some (.int a92_10), some (.int a92_11), some (.int (nI k92)), none] [.int v120_0] 128 0 0 := by
                    intro v120_0 ev120_0
                    try rw [ev120_0]
                    clear ev120_0
                    refine J_istore_13 X dX11_plan_128 rfl (by decide) ?_
                    refine J_iload_10 X dX11_plan_130 ?_
                    refine J_iload_13 X dX11_plan_132 ?_
                    have K134_148 : ∀ (v134_0 : Int32), v134_0 = (M_plan_j134 σ p1 p2 p3 k68 a68_5 a68_6 a68_7 k92 a92_9 a92_10 a92_11) → J K h1 [some (.ref m), some (.int p1), some (.int p2), some (.int p3), some (.int (M_plan_j5 σ p1 p2 p3)), some (.int a68_5), some (.int a68_6), some (.int a68_7), some (.int (nI k68)), some (.int a92_9), some (.int a92_10), some (.int a92_11), some (.int (nI k92)), some (.int (M_plan_j120 σ p1 p2 p3 k68 a68_5 a68_6 a68_7 k92 a92_9 a92_10 a92_11))] [.int v134_0, .int a92_10] 148 0 0 := by
                      intro v134_0 ev134_0
                      try rw [ev134_0]
                      clear ev134_0
                      refine J_iadd X dX11_plan_148 ?_
                      refine J_istore_10 X dX11_plan_149 rfl (by decide) ?_
                      refine J_iload_11 X dX11_plan_151 ?_
                      refine J_iload_13 X dX11_plan_153 ?_
                      have K155_189 : ∀ (v155_0 : Int32), v155_0 = (M_plan_j155 σ p1 p2 p3 k68 a68_5 a68_6 a68_7 k92 a92_9 a92_10 a92_11) → J K h1 [some (.ref m), some (.int p1), some (.int p2), some (.int p3), some (.int (M_plan_j5 σ p1 p2 p3)), some (.int a68_5), some (.int a68_6), some (.int a68_7), some (.int (nI k68)), some (.int a92_9), some (.int (a92_10 + (M_plan_j134 σ p1 p2 p3 k68 a68_5 a68_6 a68_7 k92 a92_9 a92_10 a92_11))), some (.int a92_11), some (.int (nI k92)), some (.int (M_plan_j120 σ p1 p2 p3 k68 a68_5 a68_6 a68_7 k92 a92_9 a92_10 a92_11))] [.int v155_0, .int a92_11] 189 0 0 := by
                        intro v155_0 ev155_0
                        try rw [ev155_0]
                        clear ev155_0
                        refine J_iadd X dX11_plan_189 ?_
                        refine J_istore_11 X dX11_plan_190 rfl (by decide) ?_
                        refine J_iinc_9 (v := (a92_9 + 1)) X dX11_plan_192 rfl rfl (by decide) ?_
                        refine J.subL (lv' := [some (.ref m), some (.int p1), some (.int p2), some (.int p3), some (.int (M_plan_j5 σ p1 p2 p3)), some (.int a68_5), some (.int a68_6), some (.int a68_7), some (.int (nI k68)), some (.int (a92_9 + 1)), some (.int (a92_10 + (M_plan_j134 σ p1 p2 p3 k68 a68_5 a68_6 a68_7 k92 a92_9 a92_10 a92_11))), some (.int (a92_11 + (M_plan_j155 σ p1 p2 p3 k68 a68_5 a68_6 a68_7 k92 a92_9 a92_10 a92_11))), some (.int (nI k92)), none]) (And.intro rfl (And.intro rfl (And.intro rfl (And.intro rfl (And.intro rfl (And.intro rfl (And.intro rfl (And.intro rfl (And.intro rfl (And.intro rfl (And.intro rfl (And.intro rfl (And.intro rfl trivial))))))))))))) ?_
                        exact K109_195 _ j109_0.symm _ j109_1.symm _ j109_2.symm
                      have j155_0 : M_plan_j155 σ p1 p2 p3 k68 a68_5 a68_6 a68_7 k92 a92_9 a92_10 a92_11 = (if (M_plan_j120 σ p1 p2 p3 k68 a68_5 a68_6 a68_7 k92 a92_9 a92_10 a92_11) = (0 : Int32) then (0 : Int32) else (if (M_isBound (M_fails_s σ (M_plan_j25 σ p1 p2 p3)) (nI k92)) = (0 : Int32) then ((2 : Int32) * ((10 : Int32) - ((M_fails_s σ (M_plan_j25 σ p1 p2 p3)) 18 (ix (nI k92))))) else (20000 : Int32))) := rfl
                      refine J_if_eq (tgt := 188) X dX11_plan_155 (by decide) (fun c155 => ?_) (fun c155 => ?_)
                      · skip
                        rw [if_pos c155] at j155_0
                        refine J_iconst (v := 0) X dX11_plan_188 rfl ?_
                        exact K155_189 _ j155_0.symm
                      · skip
                        rw [if_neg c155] at j155_0
                        refine J_aload_0 X dX11_plan_158 ?_
                        refine J_iload_12 X dX11_plan_159 ?_
                        refine J_callV X (c_M_isBound hR1 (nI k92) (vp_in_nI (N := 40) (by omega) (by decide))) (And.intro gw_5_207 cw_X11_isBound) hR1.1 rfl rfl rfl (Nat.le_of_ble_eq_true rfl) dX11_plan_161 rfl (J.pi ?_) JE.no
                        refine J_if_eq (tgt := 173) X dX11_plan_164 (by decide) (fun c164 => ?_) (fun c164 => ?_)
                        · skip
                          rw [if_pos c164] at j155_0
                          refine J_iconst (v := 2) X dX11_plan_173 rfl ?_
                          refine J_bipush (v := (10 : Int32)) X dX11_plan_174 (by decide) ?_
                          refine J_aload_0 X dX11_plan_176 ?_
                          refine JM_get X hR1 18 (by decide) rfl rfl gw_5_28 dX11_plan_177 ?_
                          refine J_iload_12 X dX11_plan_180 ?_
                          refine JM_ald X hR1 18 rfl rfl (vp_in_nI (N := 40) (by omega) (by decide)) dX11_plan_182 ?_
                          refine J_isub X dX11_plan_183 ?_
                          refine J_imul X dX11_plan_184 ?_
                          refine J_goto (tgt := 189) X dX11_plan_185 (by decide) ?_
                          exact K155_189 _ j155_0.symm
                        · skip
                          rw [if_neg c164] at j155_0
                          refine J_sipush (v := (20000 : Int32)) X dX11_plan_167 (by decide) ?_
                          refine J_goto (tgt := 189) X dX11_plan_170 (by decide) ?_
                          exact K155_189 _ j155_0.symm
                    have j134_0 : M_plan_j134 σ p1 p2 p3 k68 a68_5 a68_6 a68_7 k92 a92_9 a92_10 a92_11 = (if (M_plan_j120 σ p1 p2 p3 k68 a68_5 a68_6 a68_7 k92 a92_9 a92_10 a92_11) = (0 : Int32) then (0 : Int32) else (M_given (M_fails_s σ (M_plan_j25 σ p1 p2 p3)) (nI k92) p2)) := rfl
                    refine J_if_eq (tgt := 147) X dX11_plan_134 (by decide) (fun c134 => ?_) (fun c134 => ?_)
                    · skip
                      rw [if_pos c134] at j134_0
                      refine J_iconst (v := 0) X dX11_plan_147 rfl ?_
                      exact K134_148 _ j134_0.symm
                    · skip
                      rw [if_neg c134] at j134_0
                      refine J_aload_0 X dX11_plan_137 ?_
                      refine J_iload_12 X dX11_plan_138 ?_
                      refine J_iload_2 X dX11_plan_140 ?_
                      refine J_callV X (c_M_given hR1 hI1 (nI k92) p2 (vp_in_nI (N := 40) (by omega) (by decide)) hp) (And.intro gw_6_7 cw_X11_given) hR1.1 rfl rfl rfl (Nat.le_of_ble_eq_true rfl) dX11_plan_141 rfl (J.pi ?_) JE.no
                      refine J_goto (tgt := 148) X dX11_plan_144 (by decide) ?_
                      exact K134_148 _ j134_0.symm
                  have j120_0 : M_plan_j120 σ p1 p2 p3 k68 a68_5 a68_6 a68_7 k92 a92_9 a92_10 a92_11 = (if (((nI k68) >>> (a92_9 &&& 31)) &&& (1 : Int32)) = (1 : Int32) then (1 : Int32) else (0 : Int32)) := rfl
                  refine J_icmp_ne (tgt := 127) X dX11_plan_120 (by decide) (fun c120 => ?_) (fun c120 => ?_)
                  · skip
                    rw [if_neg c120] at j120_0
                    refine J_iconst (v := 0) X dX11_plan_127 rfl ?_
                    exact K120_128 _ j120_0.symm
                  · skip
                    rw [if_pos c120] at j120_0
                    refine J_iconst (v := 1) X dX11_plan_123 rfl ?_
                    refine J_goto (tgt := 128) X dX11_plan_124 (by decide) ?_
                    exact K120_128 _ j120_0.symm
            have q_v : (M_plan σ p1 p2 p3) = (M_plan_L92 σ p1 p2 p3 k68 a68_5 a68_6 a68_7 K92 (ix (σ 13 0)) 0 (0 : Int32) (0 : Int32) (0 : Int32)) := by rw [hK92]; exact q_v
            have q_s : (M_plan_s σ p1 p2 p3) = (M_plan_L92_s σ p1 p2 p3 k68 a68_5 a68_6 a68_7 K92s (ix (σ 13 0)) 0 (0 : Int32) (0 : Int32) (0 : Int32)) := by rw [hK92s]; exact q_s
            exact L92 (ix (σ 13 0)) 0 (0 : Int32) (0 : Int32) (0 : Int32)  (Nat.zero_add _)  q_v q_s
        have q_v : (M_plan σ p1 p2 p3) = (M_plan_L68 σ p1 p2 p3 K68 (ix ((1 : Int32) <<< ((M_lampsOf (M_fails_s σ (M_plan_j25 σ p1 p2 p3)) p1) &&& 31))) 0 (0 : Int32) (0 : Int32) (0 : Int32)) := by rw [hK68]; exact q_v
        have q_s : (M_plan_s σ p1 p2 p3) = (M_plan_L68_s σ p1 p2 p3 K68s (ix ((1 : Int32) <<< ((M_lampsOf (M_fails_s σ (M_plan_j25 σ p1 p2 p3)) p1) &&& 31))) 0 (0 : Int32) (0 : Int32) (0 : Int32)) := by rw [hK68s]; exact q_s
        exact L68 (ix ((1 : Int32) <<< ((M_lampsOf (M_fails_s σ (M_plan_j25 σ p1 p2 p3)) p1) &&& 31))) 0 (0 : Int32) (0 : Int32) (0 : Int32)  (Nat.zero_add _)  q_v q_s
      · skip
        rw [if_neg c51] at q_v
        rw [if_neg c51] at q_s
        refine J_iconst (v := 0) X dX11_plan_54 rfl ?_
        exact J_iret X rfl rfl ⟨by rw [q_v], by rw [q_s]; exact hR1⟩ dX11_plan_55
    have j25_0 : M_plan_j25 σ p1 p2 p3 = (if (M_plan_j5 σ p1 p2 p3) = (0 : Int32) then (1 : Int32) else (if (M_isIn p3 (0 : Int32) (10000 : Int32)) = (0 : Int32) then (2 : Int32) else (0 : Int32))) := rfl
    refine J_if_ne (tgt := 32) X dX11_plan_25 (by decide) (fun c25 => ?_) (fun c25 => ?_)
    · skip
      rw [if_neg c25] at j25_0
      refine J_iload_3 X dX11_plan_32 ?_
      refine J_iconst (v := 0) X dX11_plan_33 rfl ?_
      refine J_sipush (v := (10000 : Int32)) X dX11_plan_34 (by decide) ?_
      refine J_callS X (c_M_isIn p3 (0 : Int32) (10000 : Int32)) (And.intro gw_5_148 cw_X11_isIn) rfl rfl (Nat.le_of_ble_eq_true rfl) dX11_plan_37 rfl (J.pi ?_) JE.no
      refine J_if_eq (tgt := 47) X dX11_plan_40 (by decide) (fun c40 => ?_) (fun c40 => ?_)
      · skip
        rw [if_pos c40] at j25_0
        refine J_iconst (v := 2) X dX11_plan_47 rfl ?_
        exact K25_48 _ j25_0.symm
      · skip
        rw [if_neg c40] at j25_0
        refine J_iconst (v := 0) X dX11_plan_43 rfl ?_
        refine J_goto (tgt := 48) X dX11_plan_44 (by decide) ?_
        exact K25_48 _ j25_0.symm
    · skip
      rw [if_pos c25] at j25_0
      refine J_iconst (v := 1) X dX11_plan_28 rfl ?_
      refine J_goto (tgt := 48) X dX11_plan_29 (by decide) ?_
      exact K25_48 _ j25_0.symm
  have j5_0 : M_plan_j5 σ p1 p2 p3 = (if (M_isVillage σ p1) = (0 : Int32) then (0 : Int32) else (if (M_isPlace p2) = (0 : Int32) then (0 : Int32) else (1 : Int32))) := rfl
  refine J_if_eq (tgt := 19) X dX11_plan_5 (by decide) (fun c5 => ?_) (fun c5 => ?_)
  · skip
    rw [if_pos c5] at j5_0
    refine J_iconst (v := 0) X dX11_plan_19 rfl ?_
    exact K5_20 _ j5_0.symm
  · skip
    rw [if_neg c5] at j5_0
    refine J_iload_2 X dX11_plan_8 ?_
    refine J_callS X (c_M_isPlace p2) (And.intro gw_5_145 cw_X11_isPlace) rfl rfl (Nat.le_of_ble_eq_true rfl) dX11_plan_9 rfl (J.pi ?_) JE.no
    refine J_if_eq (tgt := 19) X dX11_plan_12 (by decide) (fun c12 => ?_) (fun c12 => ?_)
    · skip
      rw [if_pos c12] at j5_0
      refine J_iconst (v := 0) X dX11_plan_19 rfl ?_
      exact K5_20 _ j5_0.symm
    · skip
      rw [if_neg c12] at j5_0
      refine J_iconst (v := 1) X dX11_plan_15 rfl ?_
      refine J_goto (tgt := 20) X dX11_plan_16 (by decide) ?_
      exact K5_20 _ j5_0.symm
def M_trend_j5 (σ : St) (p1 : Int32) : Int64 := (if (M_isMeter σ p1) = (0 : Int32) then (0 : Int64) else (σ 31 (ix p1)).toInt64)
def M_trend_L35 (σ : St) (p1 : Int32) (K35 : Int64 → Int64 → Int64 → Int64 → Int64) : Nat → Nat → Int64 → Int64 → Int64 → Int64 → Int64
  | 0, _, a35_4, a35_6, a35_8, a35_10 => K35 a35_4 a35_6 a35_8 a35_10
  | n35 + 1, k35, a35_4, a35_6, a35_8, a35_10 => (M_trend_L35 σ p1 K35 n35 (k35 + 1) (a35_4 + (σ 32 (ix (((10 : Int32) * p1) + (nI k35)))).toInt64) (a35_6 + (M_corrected σ p1 (nI k35)).toInt64) (a35_8 + ((σ 32 (ix (((10 : Int32) * p1) + (nI k35)))).toInt64 * (M_corrected σ p1 (nI k35)).toInt64)) (a35_10 + ((σ 32 (ix (((10 : Int32) * p1) + (nI k35)))).toInt64 * (σ 32 (ix (((10 : Int32) * p1) + (nI k35)))).toInt64)))
def M_trend_L35_s (σ : St) (p1 : Int32) (K35s : Int64 → Int64 → Int64 → Int64 → St) : Nat → Nat → Int64 → Int64 → Int64 → Int64 → St
  | 0, _, a35_4, a35_6, a35_8, a35_10 => K35s a35_4 a35_6 a35_8 a35_10
  | n35 + 1, k35, a35_4, a35_6, a35_8, a35_10 => (M_trend_L35_s σ p1 K35s n35 (k35 + 1) (a35_4 + (σ 32 (ix (((10 : Int32) * p1) + (nI k35)))).toInt64) (a35_6 + (M_corrected σ p1 (nI k35)).toInt64) (a35_8 + ((σ 32 (ix (((10 : Int32) * p1) + (nI k35)))).toInt64 * (M_corrected σ p1 (nI k35)).toInt64)) (a35_10 + ((σ 32 (ix (((10 : Int32) * p1) + (nI k35)))).toInt64 * (σ 32 (ix (((10 : Int32) * p1) + (nI k35)))).toInt64)))
def M_trend_j128 (σ : St) (p1 : Int32) (a35_4 : Int64) (a35_6 : Int64) (a35_8 : Int64) (a35_10 : Int64) : Int32 := (if (M_isMeter σ p1) = (0 : Int32) then (1 : Int32) else (if (lg_cmp (((M_trend_j5 σ p1) * a35_10) - (a35_4 * a35_4)) (0 : Int64)) = (0 : Int32) then (2 : Int32) else (0 : Int32)))
def M_trend_j150 (σ : St) (p1 : Int32) (a35_4 : Int64) (a35_6 : Int64) (a35_8 : Int64) (a35_10 : Int64) : Int64 := (if (M_fails σ (M_trend_j128 σ p1 a35_4 a35_6 a35_8 a35_10)) = (0 : Int32) then (((1000 : Int64) * (((M_trend_j5 σ p1) * a35_8) - (a35_4 * a35_6))) / (((M_trend_j5 σ p1) * a35_10) - (a35_4 * a35_4))) else (0 : Int64))
def M_trend (σ : St) (p1 : Int32) : Int64 := (M_trend_L35 σ p1 (fun a35_4 a35_6 a35_8 a35_10 => (M_trend_j150 σ p1 a35_4 a35_6 a35_8 a35_10)) ((M_trend_j5 σ p1).toInt.toNat) 0 (0 : Int64) (0 : Int64) (0 : Int64) (0 : Int64))
def M_trend_s (σ : St) (p1 : Int32) : St := (M_trend_L35_s σ p1 (fun a35_4 a35_6 a35_8 a35_10 => (M_fails_s σ (M_trend_j128 σ p1 a35_4 a35_6 a35_8 a35_10))) ((M_trend_j5 σ p1).toInt.toNat) 0 (0 : Int64) (0 : Int64) (0 : Int64) (0 : Int64))
theorem trN {σ : St} {p1 : Int32} (hI : Inv σ) : 0 ≤ (M_trend_j5 σ p1).toInt ∧ (M_trend_j5 σ p1).toInt ≤ 10 ∧ (0 < (M_trend_j5 σ p1).toInt.toNat → vp_in p1 8) := by
  unfold M_trend_j5
  by_cases h : M_isMeter σ p1 = 0
  · rw [if_pos h]
    refine ⟨by decide, by decide, fun z => absurd z (by decide)⟩
  · rw [if_neg h]
    obtain ⟨e, hle⟩ := cnt (N := 10) (hI 31 (ix p1)) (by decide)
    rw [e, nI_l (by omega), lN_toInt (by omega)]
    exact ⟨by omega, by omega, fun _ => isMeter_in hI h⟩
theorem trend_exit {σ : St} {p1 : Int32} (hI : Inv σ) {k : Nat} (hk : k + 0 = (M_trend_j5 σ p1).toInt.toNat) : 0 ≤ lg_cmp (nI k).toInt64 (M_trend_j5 σ p1) := by
  obtain ⟨h1, h2, -⟩ := trN (p1 := p1) hI
  rw [lg_cmp_ge, Int64.le_iff_toInt_le, nI_l (by omega), lN_toInt (by omega)]
  omega
theorem trend_stay {σ : St} {p1 : Int32} (hI : Inv σ) {k n : Nat} (hk : k + (n + 1) = (M_trend_j5 σ p1).toInt.toNat) : ¬ 0 ≤ lg_cmp (nI k).toInt64 (M_trend_j5 σ p1) := by
  obtain ⟨h1, h2, -⟩ := trN (p1 := p1) hI
  rw [lg_cmp_ge, Int64.le_iff_toInt_le, nI_l (by omega), lN_toInt (by omega)]
  omega
theorem lg_z {x : Int64} (h : x = 0) : lg_cmp x 0 = 0 := by rw [h]; decide
theorem cw_X11_trend : Cond.instanceMethod yX11_trend ∈ GW ∧ Cond.selects RX11 yX11_trend yX11_trend ∈ GW ∧ Cond.initialized RX11 ∈ GW ∧ Cond.code yX11_trend cX11_trend 15 (some .long) ∈ GW ∧ yX11_trend.cls = RX11 ∧ (yX11_trend.cls ≠ "java/lang/invoke/MethodHandle" ∧ yX11_trend.cls ≠ "java/lang/invoke/VarHandle") ∧ (parseMethodDescriptor yX11_trend.desc).map (fun d => d.parameters.length) = some 1 := ⟨gw_6_91, gw_6_92, gw_1_14, gw_6_93, rfl, ⟨by decide, by decide⟩, by decide +kernel⟩
set_option maxRecDepth 100000 in
set_option maxHeartbeats 4000000 in
theorem c_M_trend {l : Launch} {D : va_G} {ca : Nat → Nat} {h : fH} {m : Nat} {ρ : Nat → Nat} {σ : St} (hR : RM ca h m ρ σ) (hI : Inv σ) (p1 : Int32) : FM l D ca yX11_trend (.code yX11_trend cX11_trend 15 (some .long)) { frames := 4, cells := 0, slots := 0, locals := 85 } [.ref m, .int p1] h (pL (M_trend σ p1) (fun h2 => RM ca h2 m ρ (M_trend_s σ p1))) noX := by
  refine FM.of [some (.ref m), some (.int p1), none, none, none, none, none, none, none, none, none, none, none, none, none] (by decide) (Nat.le_of_ble_eq_true rfl) rfl ?_
  rintro K X rfl rfl rfl
  have q_v : (M_trend σ p1) = (M_trend_L35 σ p1 (fun a35_4 a35_6 a35_8 a35_10 => (M_trend_j150 σ p1 a35_4 a35_6 a35_8 a35_10)) ((M_trend_j5 σ p1).toInt.toNat) 0 (0 : Int64) (0 : Int64) (0 : Int64) (0 : Int64)) := rfl
  have q_s : (M_trend_s σ p1) = (M_trend_L35_s σ p1 (fun a35_4 a35_6 a35_8 a35_10 => (M_fails_s σ (M_trend_j128 σ p1 a35_4 a35_6 a35_8 a35_10))) ((M_trend_j5 σ p1).toInt.toNat) 0 (0 : Int64) (0 : Int64) (0 : Int64) (0 : Int64)) := rfl
  refine J_aload_0 X dX11_trend_0 ?_
  refine J_iload_1 X dX11_trend_1 ?_
  refine J_callV X (c_M_isMeter hR p1) (And.intro gw_5_239 cw_X11_isMeter) hR.1 rfl rfl rfl (Nat.le_of_ble_eq_true rfl) dX11_trend_2 rfl (J.pi ?_) JE.no
  have K5_19 : ∀ (v5_0 : Int64), v5_0 = (M_trend_j5 σ p1) → J K h [some (.ref m), some (.int p1), none, none, none, none, none, none, none, none, none, none, none, none, none] [.long v5_0] 19 0 0 := by
    intro v5_0 ev5_0
    try rw [ev5_0]
    clear ev5_0
    refine J_lstore_2 X dX11_trend_19 rfl (by decide) ?_
    refine J_lconst (v := 0) X dX11_trend_20 rfl ?_
    refine J_lstore_4 X dX11_trend_21 rfl (by decide) ?_
    refine J_lconst (v := 0) X dX11_trend_23 rfl ?_
    refine J_lstore_6 X dX11_trend_24 rfl (by decide) ?_
    refine J_lconst (v := 0) X dX11_trend_26 rfl ?_
    refine J_lstore_8 X dX11_trend_27 rfl (by decide) ?_
    refine J_lconst (v := 0) X dX11_trend_29 rfl ?_
    refine J_lstore_10 X dX11_trend_30 rfl (by decide) ?_
    refine J_iconst (v := 0) X dX11_trend_32 rfl ?_
    refine J_istore_12 X dX11_trend_33 rfl (by decide) ?_
    obtain ⟨K35, hK35⟩ : ∃ f : Int64 → Int64 → Int64 → Int64 → Int64, f = (fun a35_4 a35_6 a35_8 a35_10 => (M_trend_j150 σ p1 a35_4 a35_6 a35_8 a35_10)) := ⟨_, rfl⟩
    obtain ⟨K35s, hK35s⟩ : ∃ f : Int64 → Int64 → Int64 → Int64 → St, f = (fun a35_4 a35_6 a35_8 a35_10 => (M_fails_s σ (M_trend_j128 σ p1 a35_4 a35_6 a35_8 a35_10))) := ⟨_, rfl⟩
    have X35 : ∀ (a35_4 : Int64) (a35_6 : Int64) (a35_8 : Int64) (a35_10 : Int64) (_ : True), (M_trend σ p1) = (M_trend_j150 σ p1 a35_4 a35_6 a35_8 a35_10) → (M_trend_s σ p1) = (M_fails_s σ (M_trend_j128 σ p1 a35_4 a35_6 a35_8 a35_10)) → J K h [some (.ref m), some (.int p1), some (.long (M_trend_j5 σ p1)), none, some (.long a35_4), none, some (.long a35_6), none, some (.long a35_8), none, some (.long a35_10), none, none, none, none] [] 110 0 0 := by
      intro a35_4 a35_6 a35_8 a35_10  _  q_v q_s
      refine J_lload_2 X dX11_trend_110 ?_
      refine J_lload_10 X dX11_trend_111 ?_
      refine J_lmul X dX11_trend_113 ?_
      refine J_lload_4 X dX11_trend_114 ?_
      refine J_lload_4 X dX11_trend_116 ?_
      refine J_lmul X dX11_trend_118 ?_
      refine J_lsub X dX11_trend_119 ?_
      refine J_lstore_12 X dX11_trend_120 rfl (by decide) ?_
      refine J_aload_0 X dX11_trend_122 ?_
      refine J_aload_0 X dX11_trend_123 ?_
      refine J_iload_1 X dX11_trend_124 ?_
      refine J_callV X (c_M_isMeter hR p1) (And.intro gw_5_239 cw_X11_isMeter) hR.1 rfl rfl rfl (Nat.le_of_ble_eq_true rfl) dX11_trend_125 rfl (J.pi ?_) JE.no
      have K128_147 : ∀ (v128_0 : Int32), v128_0 = (M_trend_j128 σ p1 a35_4 a35_6 a35_8 a35_10) → J K h [some (.ref m), some (.int p1), some (.long (M_trend_j5 σ p1)), none, some (.long a35_4), none, some (.long a35_6), none, some (.long a35_8), none, some (.long a35_10), none, some (.long (((M_trend_j5 σ p1) * a35_10) - (a35_4 * a35_4))), none, none] [.int v128_0, .ref m] 147 0 0 := by
        intro v128_0 ev128_0
        try rw [ev128_0]
        clear ev128_0
        refine J_callV X (c_M_fails hR (M_trend_j128 σ p1 a35_4 a35_6 a35_8 a35_10)) (And.intro gw_5_151 cw_X11_fails) hR.1 rfl rfl rfl (Nat.le_of_ble_eq_true rfl) dX11_trend_147 rfl (J.pim (fun h1 hR1 => ?_)) JE.no
        have hI1 : Inv (M_fails_s σ (M_trend_j128 σ p1 a35_4 a35_6 a35_8 a35_10)) := (Inv_fails hI)
        have K150_174 : ∀ (v150_0 : Int64), v150_0 = (M_trend_j150 σ p1 a35_4 a35_6 a35_8 a35_10) → J K h1 [some (.ref m), some (.int p1), some (.long (M_trend_j5 σ p1)), none, some (.long a35_4), none, some (.long a35_6), none, some (.long a35_8), none, some (.long a35_10), none, some (.long (((M_trend_j5 σ p1) * a35_10) - (a35_4 * a35_4))), none, none] [.long v150_0] 174 0 0 := by
          intro v150_0 ev150_0
          try rw [ev150_0]
          clear ev150_0
          exact J_lret X rfl rfl ⟨by rw [q_v], by rw [q_s]; exact hR1⟩ dX11_trend_174
        have j150_0 : M_trend_j150 σ p1 a35_4 a35_6 a35_8 a35_10 = (if (M_fails σ (M_trend_j128 σ p1 a35_4 a35_6 a35_8 a35_10)) = (0 : Int32) then (((1000 : Int64) * (((M_trend_j5 σ p1) * a35_8) - (a35_4 * a35_6))) / (((M_trend_j5 σ p1) * a35_10) - (a35_4 * a35_4))) else (0 : Int64)) := rfl
        refine J_if_eq (tgt := 157) X dX11_trend_150 (by decide) (fun c150 => ?_) (fun c150 => ?_)
        · skip
          rw [if_pos c150] at j150_0
          refine J_ldc2 (v := 1000) X dX11_trend_157 gw_6_94 ?_
          refine J_lload_2 X dX11_trend_160 ?_
          refine J_lload_8 X dX11_trend_161 ?_
          refine J_lmul X dX11_trend_163 ?_
          refine J_lload_4 X dX11_trend_164 ?_
          refine J_lload_6 X dX11_trend_166 ?_
          refine J_lmul X dX11_trend_168 ?_
          refine J_lsub X dX11_trend_169 ?_
          refine J_lmul X dX11_trend_170 ?_
          refine J_lload_12 X dX11_trend_171 ?_
          refine J_ldiv X dX11_trend_173 (fun z => fz c150 (by unfold M_trend_j128; simp [lg_z z]; by_cases q : M_isMeter σ p1 = 0 <;> simp [q])) ?_
          exact K150_174 _ j150_0.symm
        · skip
          rw [if_neg c150] at j150_0
          refine J_lconst (v := 0) X dX11_trend_153 rfl ?_
          refine J_goto (tgt := 174) X dX11_trend_154 (by decide) ?_
          exact K150_174 _ j150_0.symm
      have j128_0 : M_trend_j128 σ p1 a35_4 a35_6 a35_8 a35_10 = (if (M_isMeter σ p1) = (0 : Int32) then (1 : Int32) else (if (lg_cmp (((M_trend_j5 σ p1) * a35_10) - (a35_4 * a35_4)) (0 : Int64)) = (0 : Int32) then (2 : Int32) else (0 : Int32))) := rfl
      refine J_if_ne (tgt := 135) X dX11_trend_128 (by decide) (fun c128 => ?_) (fun c128 => ?_)
      · skip
        rw [if_neg c128] at j128_0
        refine J_lload_12 X dX11_trend_135 ?_
        refine J_lconst (v := 0) X dX11_trend_137 rfl ?_
        refine J_lcmp X dX11_trend_138 ?_
        refine J_if_ne (tgt := 146) X dX11_trend_139 (by decide) (fun c139 => ?_) (fun c139 => ?_)
        · skip
          rw [if_neg c139] at j128_0
          refine J_iconst (v := 0) X dX11_trend_146 rfl ?_
          exact K128_147 _ j128_0.symm
        · skip
          rw [if_pos c139] at j128_0
          refine J_iconst (v := 2) X dX11_trend_142 rfl ?_
          refine J_goto (tgt := 147) X dX11_trend_143 (by decide) ?_
          exact K128_147 _ j128_0.symm
      · skip
        rw [if_pos c128] at j128_0
        refine J_iconst (v := 1) X dX11_trend_131 rfl ?_
        refine J_goto (tgt := 147) X dX11_trend_132 (by decide) ?_
        exact K128_147 _ j128_0.symm
    have L35 : ∀ (n35 k35 : Nat) (a35_4 : Int64) (a35_6 : Int64) (a35_8 : Int64) (a35_10 : Int64), k35 + n35 = ((M_trend_j5 σ p1).toInt.toNat) → (M_trend σ p1) = (M_trend_L35 σ p1 K35 n35 k35 a35_4 a35_6 a35_8 a35_10) → (M_trend_s σ p1) = (M_trend_L35_s σ p1 K35s n35 k35 a35_4 a35_6 a35_8 a35_10) → J K h [some (.ref m), some (.int p1), some (.long (M_trend_j5 σ p1)), none, some (.long a35_4), none, some (.long a35_6), none, some (.long a35_8), none, some (.long a35_10), none, some (.int (nI k35)), none, none] [] 35 0 0 := by
      intro n35
      induction n35 with
      | zero =>
        intro k35 a35_4 a35_6 a35_8 a35_10  hk35  q_v q_s
        rw [M_trend_L35] at q_v
        rw [M_trend_L35_s] at q_s
        refine J_iload_12 X dX11_trend_35 ?_
        refine J_i2l X dX11_trend_37 ?_
        refine J_lload_2 X dX11_trend_38 ?_
        refine J_lcmp X dX11_trend_39 ?_
        refine J_if_ge (tgt := 110) X dX11_trend_40 (by decide) (fun _ => ?_) (fun c => absurd (trend_exit hI hk35) c)
        rw [hK35] at q_v
        rw [hK35s] at q_s
        refine J.subL (lv' := [some (.ref m), some (.int p1), some (.long (M_trend_j5 σ p1)), none, some (.long a35_4), none, some (.long a35_6), none, some (.long a35_8), none, some (.long a35_10), none, none, none, none]) (And.intro rfl (And.intro rfl (And.intro rfl (And.intro rfl (And.intro rfl (And.intro rfl (And.intro rfl trivial))))))) ?_
        exact X35 a35_4 a35_6 a35_8 a35_10  trivial  q_v q_s
      | succ n35 ih35 =>
        intro k35 a35_4 a35_6 a35_8 a35_10  hk35  q_v q_s
        rw [M_trend_L35] at q_v
        rw [M_trend_L35_s] at q_s
        have hlt35 : k35 < ((M_trend_j5 σ p1).toInt.toNat) := by omega
        refine J_iload_12 X dX11_trend_35 ?_
        refine J_i2l X dX11_trend_37 ?_
        refine J_lload_2 X dX11_trend_38 ?_
        refine J_lcmp X dX11_trend_39 ?_
        refine J_if_ge (tgt := 110) X dX11_trend_40 (by decide) (fun c => absurd c (trend_stay hI hk35)) (fun _ => ?_)
        refine J_aload_0 X dX11_trend_43 ?_
        have hq := (trN (p1 := p1) hI).2.2 (by omega)
        have h10 := (trN (p1 := p1) hI).2.1
        refine JM_get X hR 32 (by decide) rfl rfl gw_5_42 dX11_trend_44 ?_
        refine J_bipush (v := (10 : Int32)) X dX11_trend_47 (by decide) ?_
        refine J_iload_1 X dX11_trend_49 ?_
        refine J_imul X dX11_trend_50 ?_
        refine J_iload_12 X dX11_trend_51 ?_
        refine J_iadd X dX11_trend_53 ?_
        refine JM_ald X hR 32 rfl rfl (rowix hq (vp_in_nI (by omega) (by decide))) dX11_trend_54 ?_
        refine J_i2l X dX11_trend_55 ?_
        refine J_lstore_13 X dX11_trend_56 rfl (by decide) ?_
        refine J_lload_4 X dX11_trend_58 ?_
        refine J_lload_13 X dX11_trend_60 ?_
        refine J_ladd X dX11_trend_62 ?_
        refine J_lstore_4 X dX11_trend_63 rfl (by decide) ?_
        refine J_lload_6 X dX11_trend_65 ?_
        refine J_aload_0 X dX11_trend_67 ?_
        refine J_iload_1 X dX11_trend_68 ?_
        refine J_iload_12 X dX11_trend_69 ?_
        refine J_callV X (c_M_corrected hR p1 (nI k35) hq (vp_in_nI (N := 10) (by omega) (by decide))) (And.intro gw_6_38 cw_X11_corrected) hR.1 rfl rfl rfl (Nat.le_of_ble_eq_true rfl) dX11_trend_71 rfl (J.pi ?_) JE.no
        refine J_i2l X dX11_trend_74 ?_
        refine J_ladd X dX11_trend_75 ?_
        refine J_lstore_6 X dX11_trend_76 rfl (by decide) ?_
        refine J_lload_8 X dX11_trend_78 ?_
        refine J_lload_13 X dX11_trend_80 ?_
        refine J_aload_0 X dX11_trend_82 ?_
        refine J_iload_1 X dX11_trend_83 ?_
        refine J_iload_12 X dX11_trend_84 ?_
        refine J_callV X (c_M_corrected hR p1 (nI k35) hq (vp_in_nI (N := 10) (by omega) (by decide))) (And.intro gw_6_38 cw_X11_corrected) hR.1 rfl rfl rfl (Nat.le_of_ble_eq_true rfl) dX11_trend_86 rfl (J.pi ?_) JE.no
        refine J_i2l X dX11_trend_89 ?_
        refine J_lmul X dX11_trend_90 ?_
        refine J_ladd X dX11_trend_91 ?_
        refine J_lstore_8 X dX11_trend_92 rfl (by decide) ?_
        refine J_lload_10 X dX11_trend_94 ?_
        refine J_lload_13 X dX11_trend_96 ?_
        refine J_lload_13 X dX11_trend_98 ?_
        refine J_lmul X dX11_trend_100 ?_
        refine J_ladd X dX11_trend_101 ?_
        refine J_lstore_10 X dX11_trend_102 rfl (by decide) ?_
        refine J_iinc_12 (v := (nI (k35 + 1))) X dX11_trend_104 (nI_1 _) rfl (by decide) ?_
        refine J_goto (tgt := 35) X dX11_trend_107 (by decide) ?_
        refine J.subL (lv' := [some (.ref m), some (.int p1), some (.long (M_trend_j5 σ p1)), none, some (.long (a35_4 + (σ 32 (ix (((10 : Int32) * p1) + (nI k35)))).toInt64)), none, some (.long (a35_6 + (M_corrected σ p1 (nI k35)).toInt64)), none, some (.long (a35_8 + ((σ 32 (ix (((10 : Int32) * p1) + (nI k35)))).toInt64 * (M_corrected σ p1 (nI k35)).toInt64))), none, some (.long (a35_10 + ((σ 32 (ix (((10 : Int32) * p1) + (nI k35)))).toInt64 * (σ 32 (ix (((10 : Int32) * p1) + (nI k35)))).toInt64))), none, some (.int (nI (k35 + 1))), none, none]) (And.intro rfl (And.intro rfl (And.intro rfl (And.intro rfl (And.intro rfl (And.intro rfl (And.intro rfl (And.intro rfl trivial)))))))) ?_
        exact ih35 (k35 + 1) (a35_4 + (σ 32 (ix (((10 : Int32) * p1) + (nI k35)))).toInt64) (a35_6 + (M_corrected σ p1 (nI k35)).toInt64) (a35_8 + ((σ 32 (ix (((10 : Int32) * p1) + (nI k35)))).toInt64 * (M_corrected σ p1 (nI k35)).toInt64)) (a35_10 + ((σ 32 (ix (((10 : Int32) * p1) + (nI k35)))).toInt64 * (σ 32 (ix (((10 : Int32) * p1) + (nI k35)))).toInt64))  (by omega)  q_v q_s
    have q_v : (M_trend σ p1) = (M_trend_L35 σ p1 K35 ((M_trend_j5 σ p1).toInt.toNat) 0 (0 : Int64) (0 : Int64) (0 : Int64) (0 : Int64)) := by rw [hK35]; exact q_v
    have q_s : (M_trend_s σ p1) = (M_trend_L35_s σ p1 K35s ((M_trend_j5 σ p1).toInt.toNat) 0 (0 : Int64) (0 : Int64) (0 : Int64) (0 : Int64)) := by rw [hK35s]; exact q_s
    exact L35 ((M_trend_j5 σ p1).toInt.toNat) 0 (0 : Int64) (0 : Int64) (0 : Int64) (0 : Int64)  (Nat.zero_add _)  q_v q_s
  have j5_0 : M_trend_j5 σ p1 = (if (M_isMeter σ p1) = (0 : Int32) then (0 : Int64) else (σ 31 (ix p1)).toInt64) := rfl
  refine J_if_eq (tgt := 18) X dX11_trend_5 (by decide) (fun c5 => ?_) (fun c5 => ?_)
  · skip
    rw [if_pos c5] at j5_0
    refine J_lconst (v := 0) X dX11_trend_18 rfl ?_
    exact K5_19 _ j5_0.symm
  · skip
    rw [if_neg c5] at j5_0
    refine J_aload_0 X dX11_trend_8 ?_
    refine JM_get X hR 31 (by decide) rfl rfl gw_5_41 dX11_trend_9 ?_
    refine J_iload_1 X dX11_trend_12 ?_
    refine JM_ald X hR 31 rfl rfl (isMeter_in hI c5) dX11_trend_13 ?_
    refine J_i2l X dX11_trend_14 ?_
    refine J_goto (tgt := 19) X dX11_trend_15 (by decide) ?_
    exact K5_19 _ j5_0.symm
end
