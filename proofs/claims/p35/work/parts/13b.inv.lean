/-- what the numbers of a column are, in every state that calls come to -/
def cOK (k : Nat) (v : Int32) : Prop := match k with
  | 0 => vp_in v 20001
  | 1 => vp_in v 3
  | 3 => vp_in v 4
  | 4 => vp_in v 25
  | 5 => vp_in v 3
  | 6 => vp_in v 11
  | 8 => vp_in v 6
  | 9 => vp_in v 501
  | 12 => vp_in v 20501
  | 13 => vp_in v 41
  | 14 => vp_in v 5
  | 15 => vp_in v 64
  | 16 => vp_in v 10001
  | 17 => vp_in v 3
  | 18 => vp_in v 11
  | 19 => vp_in v 11
  | 20 => vp_in v 24
  | 21 => vp_in v 24
  | 24 => vp_in v 28761
  | 26 => vp_in v 9
  | 27 => vp_in v 64
  | 31 => vp_in v 11
  | 37 => vp_in v 11
  | 2 => v = 0 ∨ v = 1
  | 7 => v = 0 ∨ v = 1
  | 22 => v = 0 ∨ v = 1
  | 34 => v = 0 ∨ v = 1
  | 25 => v = (-100000) ∨ vp_in v 20001
  | _ => True
def Inv (σ : St) : Prop := ∀ k i, cOK k (σ k i)
theorem Inv_sS {σ : St} {k i : Nat} {v : Int32} (hI : Inv σ) (hc : cOK k v) : Inv (sS σ k i v) := by
  intro j a
  unfold sS
  by_cases e : j = k
  · subst e
    rw [sU_same]
    unfold upd
    split
    · exact hc
    · exact hI j a
  · rw [sU_ne e]
    exact hI j a
theorem Inv_sC {σ : St} {k : Nat} {v : Int32} (hI : Inv σ) (hc : cOK k v) : Inv (sC σ k v) := by
  intro j a
  unfold sC
  by_cases e : j = k
  · subst e
    rw [sU_same]
    exact hc
  · rw [sU_ne e]
    exact hI j a
theorem Inv_place {σ : St} (hI : Inv σ) {i : Nat} (_ : i < 40) : vp_in (σ 15 i) 64 := hI 15 i
theorem Inv_owner {σ : St} (hI : Inv σ) {i : Nat} (_ : i < 40) : vp_in (σ 14 i) 5 := hI 14 i
theorem Inv_zone {σ : St} (hI : Inv σ) {i : Nat} (_ : i < 64) : vp_in (σ 3 i) 4 := hI 3 i
theorem Inv_at {σ : St} (hI : Inv σ) {i : Nat} (_ : i < 8) : vp_in (σ 27 i) 64 := hI 27 i
theorem cnt {v : Int32} {N : Nat} (h : vp_in v (N + 1)) (hN : N < 1000000) : v = nI (ix v) ∧ ix v ≤ N := ⟨vp_nI' h (by omega), Nat.le_of_lt_succ (vp_lt h)⟩
theorem vp_up {v : Int32} {N M : Nat} (h : vp_in v N) (hm : N ≤ M) : vp_in v M := fun q => h (q.elim Or.inl (fun z => Or.inr (Nat.le_trans hm z)))
theorem nar01 {v : Int32} (h : v = 0 ∨ v = 1) : narrow .boolean (.int v) = .int v := by rcases h with rfl | rfl <;> rfl
theorem fit01 {v : Int32} (h : v = 0 ∨ v = 1) : fits .boolean (.int v) = true := by rcases h with rfl | rfl <;> rfl
/-- numbers that no one unfolds -/
noncomputable def n64 : Nat := Classical.choose (⟨64, rfl⟩ : ∃ n, n = 64)
theorem n64_eq : n64 = 64 := Classical.choose_spec (⟨64, rfl⟩ : ∃ n, n = 64)
noncomputable def n1000 : Nat := Classical.choose (⟨1000, rfl⟩ : ∃ n, n = 1000)
theorem n1000_eq : n1000 = 1000 := Classical.choose_spec (⟨1000, rfl⟩ : ∃ n, n = 1000)
noncomputable def n9 : Nat := Classical.choose (⟨9, rfl⟩ : ∃ n, n = 9)
theorem n9_eq : n9 = 9 := Classical.choose_spec (⟨9, rfl⟩ : ∃ n, n = 9)
noncomputable def n4 : Nat := Classical.choose (⟨4, rfl⟩ : ∃ n, n = 4)
theorem n4_eq : n4 = 4 := Classical.choose_spec (⟨4, rfl⟩ : ∃ n, n = 4)
