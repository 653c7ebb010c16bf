noncomputable section
def M_given_j53 (σ : St) (p1 : Int32) (p2 : Int32) : Int32 := (if (M_isShaded σ p1 p2) = (0 : Int32) then (((((M_light σ p1) * ((10 : Int32) - (σ 18 (ix p1)))) / (10 : Int32)) * ((1 : Int32) <<< ((σ 17 (ix p1)) &&& 31))) / (M_distance σ p1 p2)) else ((((((M_light σ p1) * ((10 : Int32) - (σ 18 (ix p1)))) / (10 : Int32)) * ((1 : Int32) <<< ((σ 17 (ix p1)) &&& 31))) / (M_distance σ p1 p2)) / (2 : Int32)))
def M_given_j70 (σ : St) (p1 : Int32) (p2 : Int32) : Int32 := (if (σ 1 0) = (2 : Int32) then (5 : Int32) else ((1 : Int32) + (σ 1 0)))
def M_given (σ : St) (p1 : Int32) (p2 : Int32) : Int32 := (if (M_burns σ p1) = (0 : Int32) then (0 : Int32) else ((M_given_j53 σ p1 p2) * (M_given_j70 σ p1 p2)))
def M_direction_j51 (σ : St) (p1 : Int32) (p2 : Int32) : Int32 := (if (M_size (((σ 15 (ix p1)) - (σ 15 (ix p1)) / (8 : Int32) * (8 : Int32)) - (p2 - p2 / (8 : Int32) * (8 : Int32)))) < (M_size (((σ 15 (ix p1)) / (8 : Int32)) - (p2 / (8 : Int32)))) then (if (((σ 15 (ix p1)) / (8 : Int32)) - (p2 / (8 : Int32))) ≤ (0 : Int32) then (3 : Int32) else (2 : Int32)) else (if (((σ 15 (ix p1)) - (σ 15 (ix p1)) / (8 : Int32) * (8 : Int32)) - (p2 - p2 / (8 : Int32) * (8 : Int32))) ≤ (0 : Int32) then (1 : Int32) else (0 : Int32)))
def M_direction (σ : St) (p1 : Int32) (p2 : Int32) : Int32 := (if (((σ 15 (ix p1)) - (σ 15 (ix p1)) / (8 : Int32) * (8 : Int32)) - (p2 - p2 / (8 : Int32) * (8 : Int32))) = (0 : Int32) then (if (((σ 15 (ix p1)) / (8 : Int32)) - (p2 / (8 : Int32))) = (0 : Int32) then (4 : Int32) else (M_direction_j51 σ p1 p2)) else (M_direction_j51 σ p1 p2))
def M_glowOf_L4 (σ : St) (p1 : Int32) (K4 : Int32 → Int32) : Nat → Nat → Int32 → Int32
  | 0, _, a4_2 => K4 a4_2
  | n4 + 1, k4, a4_2 => (M_glowOf_L4 σ p1 K4 n4 (k4 + 1) (a4_2 + (M_given σ (nI k4) p1)))
def M_glowOf (σ : St) (p1 : Int32) : Int32 := (M_glowOf_L4 σ p1 (fun a4_2 => a4_2) (ix (σ 13 0)) 0 (0 : Int32))
def M_groundOf_j18 (σ : St) (p1 : Int32) (k4 : Nat) (a4_2 : Int32) : Int32 := (if (M_burns σ (nI k4)) = (0 : Int32) then (0 : Int32) else ((M_light σ (nI k4)) / (M_distance σ (nI k4) p1)))
def M_groundOf_L4 (σ : St) (p1 : Int32) (K4 : Int32 → Int32) : Nat → Nat → Int32 → Int32
  | 0, _, a4_2 => K4 a4_2
  | n4 + 1, k4, a4_2 => (M_groundOf_L4 σ p1 K4 n4 (k4 + 1) (a4_2 + (M_groundOf_j18 σ p1 k4 a4_2)))
def M_groundOf (σ : St) (p1 : Int32) : Int32 := (M_groundOf_L4 σ p1 (fun a4_2 => a4_2) (ix (σ 13 0)) 0 (0 : Int32))
def M_moon_j13 (p1 : Int32) : Int32 := (if (M_isIn (p1 - p1 / (24 : Int32) * (24 : Int32)) (6 : Int32) (17 : Int32)) = (0 : Int32) then ((4 : Int32) * ((15 : Int32) - (M_size ((15 : Int32) - ((p1 / (24 : Int32)) - (p1 / (24 : Int32)) / (30 : Int32) * (30 : Int32)))))) else (0 : Int32))
def M_moon (p1 : Int32) : Int32 := (M_moon_j13 p1)
theorem rowix {m k : Int32} (hm : vp_in m 8) (hk : vp_in k 10) : vp_in (10 * m + k) 80 := by
  rw [vp_nI' hm (by decide), vp_nI' hk (by decide)]
  have h1 := vp_lt hm
  have h2 := vp_lt hk
  rw [show (10 : Int32) = nI 10 from rfl, pk_mul, nI_add]
  exact vp_in_nI (by omega) (by decide)
def M_corrected (σ : St) (p1 : Int32) (p2 : Int32) : Int32 := ((((σ 33 (ix (((10 : Int32) * p1) + p2))) - (M_moon (σ 32 (ix (((10 : Int32) * p1) + p2))))) - (20 : Int32)) - (σ 30 (ix p1)))
end
