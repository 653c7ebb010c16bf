noncomputable section
/-- the law's numbers τ tell the valley ξ -/
def LQ (ξ τ : St) : Prop :=
  (τ 7 0 = ξ 0 0 ∧ τ 7 1 = ξ 1 0 ∧ τ 7 2 = ξ 8 0 ∧ τ 7 3 = ξ 13 0 ∧ τ 7 4 = ξ 26 0 ∧ τ 7 5 = ξ 35 0 ∧ τ 7 6 = ξ 36 0 ∧ τ 7 7 = ξ 34 0) ∧
  (∀ i, i < 64 → τ 0 i = ξ 3 i + 4 * ξ 2 i) ∧
  (∀ z, z < 4 → τ 1 z = ξ 4 z + 32 * ξ 5 z + 128 * ξ 6 z) ∧
  (∀ z, z < 4 → ∀ d, d < 1000 → ξ 7 (1000 * z + d) = if d < 30 then (τ 1 (4 + z) >>> (nI d &&& 31)) &&& 1 else 0) ∧
  (∀ k, k < 2 → τ 2 (4 * k) = ξ 9 k ∧ τ 2 (4 * k + 1) = ξ 10 k ∧ τ 2 (4 * k + 2) = ξ 11 k ∧ τ 2 (4 * k + 3) = ξ 12 k) ∧
  (∀ n, n < 10 → τ 3 (6 * n) = ξ 15 n + 64 * ξ 14 n + 128 * ξ 22 n ∧ τ 3 (6 * n + 1) = ξ 16 n ∧ τ 3 (6 * n + 2) = ξ 17 n + 4 * ξ 18 n + 64 * ξ 19 n ∧ τ 3 (6 * n + 3) = ξ 20 n + 32 * ξ 21 n ∧ τ 3 (6 * n + 4) = ξ 23 n ∧ τ 3 (6 * n + 5) = ξ 24 n ∧ (τ 4 n = ξ 25 n ∨ (τ 4 n = -720 ∧ ξ 25 n = -100000))) ∧
  (∀ k, k < 2 → τ 5 (3 * k + 1) = ξ 30 k ∧ τ 5 (3 * k + 2) = ξ 31 k) ∧
  (∀ k, k < ix (ξ 26 0) → τ 5 (3 * k) = ξ 27 k + 64 * (ξ 28 k + 50) + 8192 * (ξ 29 k + 3) ∧ vp_in (ξ 28 k + 50) 101 ∧ vp_in (ξ 29 k + 3) 7) ∧
  (∀ k, k < 2 → ¬ k < ix (ξ 26 0) → τ 5 (3 * k) = 0) ∧
  (∀ j, j < 20 → τ 6 j = ξ 32 j ∧ τ 6 (20 + j) = ξ 33 j ∧ vp_in (ξ 32 j) 20001) ∧
  (ix (ξ 8 0) ≤ 2 ∧ ix (ξ 13 0) ≤ 10 ∧ ix (ξ 26 0) ≤ 2)
section LQS
variable {ξ τ : St}
theorem LQ.g (h : LQ ξ τ) : τ 7 0 = ξ 0 0 ∧ τ 7 1 = ξ 1 0 ∧ τ 7 2 = ξ 8 0 ∧ τ 7 3 = ξ 13 0 ∧ τ 7 4 = ξ 26 0 ∧ τ 7 5 = ξ 35 0 ∧ τ 7 6 = ξ 36 0 ∧ τ 7 7 = ξ 34 0 := h.1
theorem LQ.p (h : LQ ξ τ) {i : Nat} (hi : i < 64) : τ 0 i = ξ 3 i + 4 * ξ 2 i := h.2.1 i hi
theorem LQ.z (h : LQ ξ τ) {z : Nat} (hz : z < 4) : τ 1 z = ξ 4 z + 32 * ξ 5 z + 128 * ξ 6 z := h.2.2.1 z hz
theorem LQ.fe (h : LQ ξ τ) {z d : Nat} (hz : z < 4) (hd : d < 1000) : ξ 7 (1000 * z + d) = if d < 30 then (τ 1 (4 + z) >>> (nI d &&& 31)) &&& 1 else 0 := h.2.2.2.1 z hz d hd
theorem LQ.v (h : LQ ξ τ) {k : Nat} (hk : k < 2) : τ 2 (4 * k) = ξ 9 k ∧ τ 2 (4 * k + 1) = ξ 10 k ∧ τ 2 (4 * k + 2) = ξ 11 k ∧ τ 2 (4 * k + 3) = ξ 12 k := h.2.2.2.2.1 k hk
theorem LQ.l (h : LQ ξ τ) {n : Nat} (hn : n < 10) : τ 3 (6 * n) = ξ 15 n + 64 * ξ 14 n + 128 * ξ 22 n ∧ τ 3 (6 * n + 1) = ξ 16 n ∧ τ 3 (6 * n + 2) = ξ 17 n + 4 * ξ 18 n + 64 * ξ 19 n ∧ τ 3 (6 * n + 3) = ξ 20 n + 32 * ξ 21 n ∧ τ 3 (6 * n + 4) = ξ 23 n ∧ τ 3 (6 * n + 5) = ξ 24 n ∧ (τ 4 n = ξ 25 n ∨ (τ 4 n = -720 ∧ ξ 25 n = -100000)) := h.2.2.2.2.2.1 n hn
theorem LQ.m (h : LQ ξ τ) {k : Nat} (hk : k < 2) : τ 5 (3 * k + 1) = ξ 30 k ∧ τ 5 (3 * k + 2) = ξ 31 k := h.2.2.2.2.2.2.1 k hk
theorem LQ.m1 (h : LQ ξ τ) {k : Nat} (hk : k < ix (ξ 26 0)) : τ 5 (3 * k) = ξ 27 k + 64 * (ξ 28 k + 50) + 8192 * (ξ 29 k + 3) ∧ vp_in (ξ 28 k + 50) 101 ∧ vp_in (ξ 29 k + 3) 7 := h.2.2.2.2.2.2.2.1 k hk
theorem LQ.m0 (h : LQ ξ τ) {k : Nat} (hk : k < 2) (hn : ¬ k < ix (ξ 26 0)) : τ 5 (3 * k) = 0 := h.2.2.2.2.2.2.2.2.1 k hk hn
theorem LQ.q (h : LQ ξ τ) {j : Nat} (hj : j < 20) : τ 6 j = ξ 32 j ∧ τ 6 (20 + j) = ξ 33 j ∧ vp_in (ξ 32 j) 20001 := h.2.2.2.2.2.2.2.2.2.1 j hj
theorem LQ.lim (h : LQ ξ τ) : ix (ξ 8 0) ≤ 2 ∧ ix (ξ 13 0) ≤ 10 ∧ ix (ξ 26 0) ≤ 2 := h.2.2.2.2.2.2.2.2.2.2
theorem b01 {v : Int32} (h : v = 0 ∨ v = 1) : ∃ c : Nat, c < 2 ∧ v = nI c := by
  rcases h with h | h
  · exact ⟨0, by decide, h⟩
  · exact ⟨1, by decide, h⟩
theorem vn {v : Int32} {N : Nat} (h : vp_in v N) (hN : N < 2 ^ 31) : ∃ a : Nat, a < N ∧ v = nI a := ⟨ix v, vp_lt h, vp_nI' h hN⟩
end LQS
section LDEC
variable {ξ τ : St} {p : Int32}
theorem LQ.lam (hQ : LQ ξ τ) (h : vp_in p (ix (ξ 13 0))) : vp_in p 10 := vp_up h hQ.lim.2.1
theorem li6 (h : vp_in p 10) : ix ((6 : Int32) * p) = 6 * ix p := ixm (f := 6) h (by decide) (by decide)
theorem li6_1 (h : vp_in p 10) : ix (((6 : Int32) * p) + (1 : Int32)) = 6 * ix p + 1 := ixc (f := 6) (c := 1) h (by decide) (by decide)
theorem li6_2 (h : vp_in p 10) : ix (((6 : Int32) * p) + (2 : Int32)) = 6 * ix p + 2 := ixc (f := 6) (c := 2) h (by decide) (by decide)
theorem li6_3 (h : vp_in p 10) : ix (((6 : Int32) * p) + (3 : Int32)) = 6 * ix p + 3 := ixc (f := 6) (c := 3) h (by decide) (by decide)
theorem li6_4 (h : vp_in p 10) : ix (((6 : Int32) * p) + (4 : Int32)) = 6 * ix p + 4 := ixc (f := 6) (c := 4) h (by decide) (by decide)
theorem li6_5 (h : vp_in p 10) : ix (((6 : Int32) * p) + (5 : Int32)) = 6 * ix p + 5 := ixc (f := 6) (c := 5) h (by decide) (by decide)

theorem dl0 (hQ : LQ ξ τ) (hI : InvX ξ) (h : vp_in p (ix (ξ 13 0))) : ∃ a b c : Nat, a < 64 ∧ b < 2 ∧ c < 2 ∧ ξ 15 (ix p) = nI a ∧ ξ 14 (ix p) = nI b ∧ ξ 22 (ix p) = nI c ∧ (τ 3 (ix ((6 : Int32) * p))) = nI (a + 64 * b + 128 * c) := by
  have h10 := hQ.lam h
  obtain ⟨a, ha, ea⟩ := vn (hI.1 15 (ix p) : vp_in (ξ 15 (ix p)) 64) (by decide)
  obtain ⟨c, hc, ec⟩ := b01 (hI.1 22 (ix p) : ξ 22 (ix p) = 0 ∨ ξ 22 (ix p) = 1)
  have h14 := vp_nI' (hI.1 14 (ix p) : vp_in (ξ 14 (ix p)) 5) (by decide)
  have ho := IX_own hI (vp_lt h)
  have hv := hQ.lim.1
  refine ⟨a, ix (ξ 14 (ix p)), c, ha, by omega, hc, ea, h14, ec, ?_⟩
  rw [li6 h10, (hQ.l (vp_lt h10)).1, ea, ec, show (64 : Int32) = nI 64 from rfl, show (128 : Int32) = nI 128 from rfl]
  generalize ix (ξ 14 (ix p)) = b at *
  rw [h14, pk_mul, pk_mul, nI_add, nI_add]
theorem dl_place (hQ : LQ ξ τ) (hI : InvX ξ) (h : vp_in p (ix (ξ 13 0))) : (τ 3 (ix ((6 : Int32) * p))) - (τ 3 (ix ((6 : Int32) * p))) / (64 : Int32) * (64 : Int32) = ξ 15 (ix p) := by
  obtain ⟨a, b, c, ha, hb, hc, e1, e2, e3, e⟩ := dl0 hQ hI h
  rw [e, e1, show (64 : Int32) = nI 64 from rfl, pk_rem (by omega) (by decide) (by decide)]
  congr 1
  omega
theorem dl_own (hQ : LQ ξ τ) (hI : InvX ξ) (h : vp_in p (ix (ξ 13 0))) : (τ 3 (ix ((6 : Int32) * p))) / (64 : Int32) - (τ 3 (ix ((6 : Int32) * p))) / (64 : Int32) / (2 : Int32) * (2 : Int32) = ξ 14 (ix p) := by
  obtain ⟨a, b, c, ha, hb, hc, e1, e2, e3, e⟩ := dl0 hQ hI h
  rw [e, e2, show (64 : Int32) = nI 64 from rfl, show (2 : Int32) = nI 2 from rfl, pk_div (by omega) (by decide) (by decide), pk_rem (by omega) (by decide) (by decide)]
  congr 1
  omega
theorem dl_ex (hQ : LQ ξ τ) (hI : InvX ξ) (h : vp_in p (ix (ξ 13 0))) : (128 : Int32) ≤ (τ 3 (ix ((6 : Int32) * p))) ↔ ¬ ξ 22 (ix p) = 0 := by
  obtain ⟨a, b, c, ha, hb, hc, e1, e2, e3, e⟩ := dl0 hQ hI h
  rw [e, e3, show (128 : Int32) = nI 128 from rfl, nI_leI (by omega) (by omega), show (0 : Int32) = nI 0 from rfl, nI_eq (by omega) (by omega)]
  omega
theorem dl2 (hQ : LQ ξ τ) (hI : InvX ξ) (h : vp_in p 10) : ∃ a b c : Nat, a < 3 ∧ b < 11 ∧ c < 11 ∧ ξ 17 (ix p) = nI a ∧ ξ 18 (ix p) = nI b ∧ ξ 19 (ix p) = nI c ∧ (τ 3 (ix (((6 : Int32) * p) + (2 : Int32)))) = nI (a + 4 * b + 64 * c) := by
  obtain ⟨a, ha, ea⟩ := vn (hI.1 17 (ix p) : vp_in (ξ 17 (ix p)) 3) (by decide)
  obtain ⟨b, hb, eb⟩ := vn (hI.1 18 (ix p) : vp_in (ξ 18 (ix p)) 11) (by decide)
  obtain ⟨c, hc, ec⟩ := vn (hI.1 19 (ix p) : vp_in (ξ 19 (ix p)) 11) (by decide)
  refine ⟨a, b, c, ha, hb, hc, ea, eb, ec, ?_⟩
  rw [li6_2 h, (hQ.l (vp_lt h)).2.2.1, ea, eb, ec, show (64 : Int32) = nI 64 from rfl, show (4 : Int32) = nI 4 from rfl, pk_mul, pk_mul, nI_add, nI_add]
theorem dl_col (hQ : LQ ξ τ) (hI : InvX ξ) (h : vp_in p 10) : (τ 3 (ix (((6 : Int32) * p) + (2 : Int32)))) - (τ 3 (ix (((6 : Int32) * p) + (2 : Int32)))) / (4 : Int32) * (4 : Int32) = ξ 17 (ix p) := by
  obtain ⟨a, b, c, ha, hb, hc, e1, e2, e3, e⟩ := dl2 hQ hI h
  rw [e, e1, show (4 : Int32) = nI 4 from rfl, pk_rem (by omega) (by decide) (by decide)]
  congr 1
  omega
theorem dl_shd (hQ : LQ ξ τ) (hI : InvX ξ) (h : vp_in p 10) : (τ 3 (ix (((6 : Int32) * p) + (2 : Int32)))) / (4 : Int32) - (τ 3 (ix (((6 : Int32) * p) + (2 : Int32)))) / (4 : Int32) / (16 : Int32) * (16 : Int32) = ξ 18 (ix p) := by
  obtain ⟨a, b, c, ha, hb, hc, e1, e2, e3, e⟩ := dl2 hQ hI h
  rw [e, e2, show (4 : Int32) = nI 4 from rfl, show (16 : Int32) = nI 16 from rfl, pk_div (by omega) (by decide) (by decide), pk_rem (by omega) (by decide) (by decide)]
  congr 1
  omega
theorem dl_dim (hQ : LQ ξ τ) (hI : InvX ξ) (h : vp_in p 10) : (τ 3 (ix (((6 : Int32) * p) + (2 : Int32)))) / (64 : Int32) = ξ 19 (ix p) := by
  obtain ⟨a, b, c, ha, hb, hc, e1, e2, e3, e⟩ := dl2 hQ hI h
  rw [e, e3, show (64 : Int32) = nI 64 from rfl, pk_div (by omega) (by decide) (by decide)]
  congr 1
  omega
theorem dl3 (hQ : LQ ξ τ) (hI : InvX ξ) (h : vp_in p 10) : ∃ a b : Nat, a < 24 ∧ b < 24 ∧ ξ 20 (ix p) = nI a ∧ ξ 21 (ix p) = nI b ∧ (τ 3 (ix (((6 : Int32) * p) + (3 : Int32)))) = nI (a + 32 * b) := by
  obtain ⟨a, ha, ea⟩ := vn (hI.1 20 (ix p) : vp_in (ξ 20 (ix p)) 24) (by decide)
  obtain ⟨b, hb, eb⟩ := vn (hI.1 21 (ix p) : vp_in (ξ 21 (ix p)) 24) (by decide)
  refine ⟨a, b, ha, hb, ea, eb, ?_⟩
  rw [li6_3 h, (hQ.l (vp_lt h)).2.2.2.1, ea, eb, show (32 : Int32) = nI 32 from rfl, pk_mul, nI_add]
theorem dl_from (hQ : LQ ξ τ) (hI : InvX ξ) (h : vp_in p 10) : (τ 3 (ix (((6 : Int32) * p) + (3 : Int32)))) - (τ 3 (ix (((6 : Int32) * p) + (3 : Int32)))) / (32 : Int32) * (32 : Int32) = ξ 20 (ix p) := by
  obtain ⟨a, b, ha, hb, e1, e2, e⟩ := dl3 hQ hI h
  rw [e, e1, show (32 : Int32) = nI 32 from rfl, pk_rem (by omega) (by decide) (by decide)]
  congr 1
  omega
theorem dl_to (hQ : LQ ξ τ) (hI : InvX ξ) (h : vp_in p 10) : (τ 3 (ix (((6 : Int32) * p) + (3 : Int32)))) / (32 : Int32) = ξ 21 (ix p) := by
  obtain ⟨a, b, ha, hb, e1, e2, e⟩ := dl3 hQ hI h
  rw [e, e2, show (32 : Int32) = nI 32 from rfl, pk_div (by omega) (by decide) (by decide)]
  congr 1
  omega
theorem dl_1 (hQ : LQ ξ τ) (h : vp_in p 10) : (τ 3 (ix (((6 : Int32) * p) + (1 : Int32)))) = ξ 16 (ix p) := by rw [li6_1 h, (hQ.l (vp_lt h)).2.1]
theorem dl_4 (hQ : LQ ξ τ) (h : vp_in p 10) : (τ 3 (ix (((6 : Int32) * p) + (4 : Int32)))) = ξ 23 (ix p) := by rw [li6_4 h, (hQ.l (vp_lt h)).2.2.2.2.1]
theorem dl_5 (hQ : LQ ξ τ) (h : vp_in p 10) : (τ 3 (ix (((6 : Int32) * p) + (5 : Int32)))) = ξ 24 (ix p) := by rw [li6_5 h, (hQ.l (vp_lt h)).2.2.2.2.2.1]
/-- a place -/
theorem dp {i : Nat} (hQ : LQ ξ τ) (hI : InvX ξ) (hi : i < 64) : ∃ a c : Nat, a < 4 ∧ c < 2 ∧ ξ 3 i = nI a ∧ ξ 2 i = nI c ∧ τ 0 i = nI (a + 4 * c) := by
  obtain ⟨a, ha, ea⟩ := vn (hI.1 3 i : vp_in (ξ 3 i) 4) (by decide)
  obtain ⟨c, hc, ec⟩ := b01 (hI.1 2 i : ξ 2 i = 0 ∨ ξ 2 i = 1)
  refine ⟨a, c, ha, hc, ea, ec, ?_⟩
  rw [hQ.p hi, ea, ec, show (4 : Int32) = nI 4 from rfl, pk_mul, nI_add]
theorem dp_zone {i : Nat} (hQ : LQ ξ τ) (hI : InvX ξ) (hi : i < 64) : τ 0 i - τ 0 i / (4 : Int32) * (4 : Int32) = ξ 3 i := by
  obtain ⟨a, c, ha, hc, e1, e2, e⟩ := dp hQ hI hi
  rw [e, e1, show (4 : Int32) = nI 4 from rfl, pk_rem (by omega) (by decide) (by decide)]
  congr 1
  omega
theorem dp_ridge {i : Nat} (hQ : LQ ξ τ) (hI : InvX ξ) (hi : i < 64) : τ 0 i ≤ (3 : Int32) ↔ ξ 2 i = 0 := by
  obtain ⟨a, c, ha, hc, e1, e2, e⟩ := dp hQ hI hi
  rw [e, e2, show (3 : Int32) = nI 3 from rfl, nI_leI (by omega) (by omega), show (0 : Int32) = nI 0 from rfl, nI_eq (by omega) (by omega)]
  omega
theorem dz {z : Nat} (hQ : LQ ξ τ) (hI : InvX ξ) (hz : z < 4) : ∃ a b c : Nat, a < 25 ∧ b < 3 ∧ c < 11 ∧ ξ 4 z = nI a ∧ ξ 5 z = nI b ∧ ξ 6 z = nI c ∧ τ 1 z = nI (a + 32 * b + 128 * c) := by
  obtain ⟨a, ha, ea⟩ := vn (hI.1 4 z : vp_in (ξ 4 z) 25) (by decide)
  obtain ⟨b, hb, eb⟩ := vn (hI.1 5 z : vp_in (ξ 5 z) 3) (by decide)
  obtain ⟨c, hc, ec⟩ := vn (hI.1 6 z : vp_in (ξ 6 z) 11) (by decide)
  refine ⟨a, b, c, ha, hb, hc, ea, eb, ec, ?_⟩
  rw [hQ.z hz, ea, eb, ec, show (32 : Int32) = nI 32 from rfl, show (128 : Int32) = nI 128 from rfl, pk_mul, pk_mul, nI_add, nI_add]
theorem dz_cur {z : Nat} (hQ : LQ ξ τ) (hI : InvX ξ) (hz : z < 4) : τ 1 z - τ 1 z / (32 : Int32) * (32 : Int32) = ξ 4 z := by
  obtain ⟨a, b, c, ha, hb, hc, e1, e2, e3, e⟩ := dz hQ hI hz
  rw [e, e1, show (32 : Int32) = nI 32 from rfl, pk_rem (by omega) (by decide) (by decide)]
  congr 1
  omega
theorem dz_most {z : Nat} (hQ : LQ ξ τ) (hI : InvX ξ) (hz : z < 4) : τ 1 z / (32 : Int32) - τ 1 z / (32 : Int32) / (4 : Int32) * (4 : Int32) = ξ 5 z := by
  obtain ⟨a, b, c, ha, hb, hc, e1, e2, e3, e⟩ := dz hQ hI hz
  rw [e, e2, show (32 : Int32) = nI 32 from rfl, show (4 : Int32) = nI 4 from rfl, pk_div (by omega) (by decide) (by decide), pk_rem (by omega) (by decide) (by decide)]
  congr 1
  omega
theorem dz_least {z : Nat} (hQ : LQ ξ τ) (hI : InvX ξ) (hz : z < 4) : τ 1 z / (128 : Int32) = ξ 6 z := by
  obtain ⟨a, b, c, ha, hb, hc, e1, e2, e3, e⟩ := dz hQ hI hz
  rw [e, e3, show (128 : Int32) = nI 128 from rfl, pk_div (by omega) (by decide) (by decide)]
  congr 1
  omega
/-- a meter -/
theorem dm {k : Nat} (hQ : LQ ξ τ) (hI : InvX ξ) (hk : k < ix (ξ 26 0)) : ∃ a b c : Nat, a < 64 ∧ b < 101 ∧ c < 7 ∧ ξ 27 k = nI a ∧ ξ 28 k + 50 = nI b ∧ ξ 29 k + 3 = nI c ∧ τ 5 (3 * k) = nI (a + 64 * b + 8192 * c) := by
  obtain ⟨e, hb, hc⟩ := hQ.m1 hk
  obtain ⟨a, ha, ea⟩ := vn (hI.1 27 k : vp_in (ξ 27 k) 64) (by decide)
  obtain ⟨b, hb, eb⟩ := vn hb (by decide)
  obtain ⟨c, hc, ec⟩ := vn hc (by decide)
  refine ⟨a, b, c, ha, hb, hc, ea, eb, ec, ?_⟩
  rw [e, ea, eb, ec, show (64 : Int32) = nI 64 from rfl, show (8192 : Int32) = nI 8192 from rfl, pk_mul, pk_mul, nI_add, nI_add]
/-- what the law's numbers are, out of what they tell -/
theorem IL_of (hQ : LQ ξ τ) (hI : InvX ξ) : IL τ := by
  obtain ⟨g0, g1, g2, g3, g4, -⟩ := hQ.g
  obtain ⟨l1, l2, l3⟩ := hQ.lim
  intro k i hi
  match k, hi with
  | 0, hi =>
    obtain ⟨a, c, ha, hc, _, _, e⟩ := dp hQ hI hi
    show vp_in (τ 0 i) 8
    rw [e]
    exact vp_in_nI (by omega) (by decide)
  | 1, _ =>
    intro hz
    obtain ⟨a, b, c, ha, hb, hc, _, _, _, e⟩ := dz hQ hI hz
    rw [e]
    exact vp_in_nI (by omega) (by decide)
  | 3, hi =>
    have hi : i < 60 := hi
    refine ⟨fun w => ?_, fun w => ?_, fun w => ?_⟩
    · have hj : i / 6 < 10 := by omega
      obtain ⟨a, ha, ea⟩ := vn (hI.1 15 (i / 6) : vp_in (ξ 15 (i / 6)) 64) (by decide)
      obtain ⟨b, hb, eb⟩ := vn (hI.1 14 (i / 6) : vp_in (ξ 14 (i / 6)) 5) (by decide)
      obtain ⟨c, hc, ec⟩ := b01 (hI.1 22 (i / 6) : ξ 22 (i / 6) = 0 ∨ ξ 22 (i / 6) = 1)
      rw [show i = 6 * (i / 6) by omega, (hQ.l hj).1, ea, eb, ec, show (64 : Int32) = nI 64 from rfl, show (128 : Int32) = nI 128 from rfl, pk_mul, pk_mul, nI_add, nI_add]
      exact vp_in_nI (by omega) (by decide)
    · have hj : i / 6 < 10 := by omega
      obtain ⟨a, ha, ea⟩ := vn (hI.1 17 (i / 6) : vp_in (ξ 17 (i / 6)) 3) (by decide)
      obtain ⟨b, hb, eb⟩ := vn (hI.1 18 (i / 6) : vp_in (ξ 18 (i / 6)) 11) (by decide)
      obtain ⟨c, hc, ec⟩ := vn (hI.1 19 (i / 6) : vp_in (ξ 19 (i / 6)) 11) (by decide)
      rw [show i = 6 * (i / 6) + 2 by omega, (hQ.l hj).2.2.1, ea, eb, ec, show (64 : Int32) = nI 64 from rfl, show (4 : Int32) = nI 4 from rfl, pk_mul, pk_mul, nI_add, nI_add]
      exact vp_in_nI (by omega) (by decide)
    · have hj : i / 6 < 10 := by omega
      obtain ⟨a, ha, ea⟩ := vn (hI.1 20 (i / 6) : vp_in (ξ 20 (i / 6)) 24) (by decide)
      obtain ⟨b, hb, eb⟩ := vn (hI.1 21 (i / 6) : vp_in (ξ 21 (i / 6)) 24) (by decide)
      rw [show i = 6 * (i / 6) + 3 by omega, (hQ.l hj).2.2.2.1, ea, eb, show (32 : Int32) = nI 32 from rfl, pk_mul, nI_add]
      exact vp_in_nI (by omega) (by decide)
  | 5, hi =>
    have hi : i < 6 := hi
    refine ⟨fun w => ?_, fun w => ?_⟩
    · have hj : i / 3 < 2 := by omega
      rw [show i = 3 * (i / 3) by omega]
      by_cases m : i / 3 < ix (ξ 26 0)
      · obtain ⟨a, b, c, ha, hb, hc, _, _, _, e⟩ := dm hQ hI m
        rw [e]
        exact vp_in_nI (by omega) (by decide)
      · rw [hQ.m0 hj m]
        exact vp_in_nI (n := 0) (by decide) (by decide)
    · have hj : i / 3 < 2 := by omega
      rw [show i = 3 * (i / 3) + 2 by omega, (hQ.m hj).2]
      exact (hI.1 31 (i / 3) : vp_in (ξ 31 (i / 3)) 11)
  | 7, _ =>
    refine ⟨fun w => ?_, fun w => ?_, fun w => ?_, fun w => ?_, fun w => ?_⟩
    · rw [w, g0]
      exact (hI.1 0 0 : vp_in (ξ 0 0) 20001)
    · rw [w, g1]
      exact (hI.1 1 0 : vp_in (ξ 1 0) 3)
    · rw [w, g2, vp_nI' (hI.1 8 0 : vp_in (ξ 8 0) 6) (by decide)]
      exact vp_in_nI (by omega) (by decide)
    · rw [w, g3, vp_nI' (hI.1 13 0 : vp_in (ξ 13 0) 41) (by decide)]
      exact vp_in_nI (by omega) (by decide)
    · rw [w, g4, vp_nI' (hI.1 26 0 : vp_in (ξ 26 0) 9) (by decide)]
      exact vp_in_nI (by omega) (by decide)
  | 2, _ => trivial
  | 4, _ => trivial
  | 6, _ => trivial
  | k + 8, _ => trivial
end LDEC
end
