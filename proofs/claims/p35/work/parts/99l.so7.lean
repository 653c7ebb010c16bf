noncomputable section
section SOQ
variable {ξ τ : St} {pl : Int32} {k : Nat}
theorem nI_bit {s d : Nat} (hs : s < 100000) (hd : d < 30) : bit (nI s) d ↔ (s / 2 ^ d) % 2 = 1 := by
  unfold bit
  rw [bit_eq _ hd]
  have e : (nI s).toBitVec.getLsbD d = decide (s / 2 ^ d % 2 = 1) := by
    rw [show (nI s).toBitVec = BitVec.ofNat 32 s from rfl, BitVec.getLsbD_ofNat, Nat.testBit_eq_decide_div_mod_eq, decide_eq_true (show d < 32 by omega), Bool.true_and]
  rw [e]
  by_cases c : s / 2 ^ d % 2 = 1
  · rw [decide_eq_true c]
    exact ⟨fun _ => c, fun _ => rfl⟩
  · rw [decide_eq_false c]
    exact ⟨fun z => absurd z (by decide), fun z => absurd z c⟩
/-- the sums of a set -/
def sA (ξ : St) (pl : Int32) (k s j : Nat) : Nat := sN (gN ξ pl) (fun i => ¬ inS ξ k s i) j
def sD (ξ : St) (k s j : Nat) : Nat := sN (dN ξ) (inS ξ k s) j
def sC' (ξ : St) (k s j : Nat) : Nat := sN (cN ξ) (inS ξ k s) j
def sR (ξ : St) (pl : Int32) (k s j : Nat) : Nat := sN (gN ξ pl) (inS ξ k s) j
def MS (ξ : St) (k : Nat) : Nat := 2 ^ oN (ξ 14) (nI k) (ix (ξ 13 0))
theorem oN_n (f : Nat → Int32) (v : Int32) : ∀ n, oN f v n ≤ n := by
  intro n
  induction n with
  | zero => exact Nat.le_refl _
  | succ n ih =>
    show oN f v n + _ ≤ _
    split <;> omega
theorem oN_10 (hQ : LQ ξ τ) {j : Nat} (hj : j ≤ ix (ξ 13 0)) : oN (ξ 14) (nI k) j ≤ 10 := Nat.le_trans (oN_n _ _ _) (Nat.le_trans hj hQ.lim.2.1)
theorem MS_le (hQ : LQ ξ τ) : MS ξ k ≤ 1024 := Nat.pow_le_pow_right (by decide) (oN_10 hQ (Nat.le_refl _))
theorem MS_pos : 0 < MS ξ k := Nat.pow_pos (by decide)
theorem sA_lt (hQ : LQ ξ τ) (hI : InvX ξ) (hA : AG τ) (hpl : vp_in pl 64) {s j : Nat} (hj : j ≤ ix (ξ 13 0)) : sA ξ pl k s j < 100000000 := by
  have hl := hQ.lim.2.1
  have a := sN_le (f := gN ξ pl) (P := fun i => ¬ inS ξ k s i) (B := 200001) j (fun i hi => Nat.le_of_lt (gN_M hQ hI hA hpl (by omega)).2)
  unfold sA
  have b : j * 200001 ≤ 10 * 200001 := Nat.mul_le_mul_right _ (by omega)
  omega
theorem sR_lt (hQ : LQ ξ τ) (hI : InvX ξ) (hA : AG τ) (hpl : vp_in pl 64) {s j : Nat} (hj : j ≤ ix (ξ 13 0)) : sR ξ pl k s j < 100000000 := by
  have hl := hQ.lim.2.1
  have a := sN_le (f := gN ξ pl) (P := inS ξ k s) (B := 200001) j (fun i hi => Nat.le_of_lt (gN_M hQ hI hA hpl (by omega)).2)
  unfold sR
  have b : j * 200001 ≤ 10 * 200001 := Nat.mul_le_mul_right _ (by omega)
  omega
theorem sD_lt (hQ : LQ ξ τ) {s j : Nat} (hj : j ≤ ix (ξ 13 0)) : sD ξ k s j < 100000000 := by
  have hl := hQ.lim.2.1
  have a := sN_le (f := dN ξ) (P := inS ξ k s) (B := 100000) j (fun i hi => by unfold dN; split <;> omega)
  unfold sD
  have b : j * 100000 ≤ 10 * 100000 := Nat.mul_le_mul_right _ (by omega)
  omega
theorem sCt_lt (hQ : LQ ξ τ) {s j : Nat} (hj : j ≤ ix (ξ 13 0)) : sC' ξ k s j < 100000000 := by
  have hl := hQ.lim.2.1
  have a := sN_le (f := cN ξ) (P := inS ξ k s) (B := 20000) j (fun i hi => by unfold cN; split <;> omega)
  unfold sC'
  have b : j * 20000 ≤ 10 * 20000 := Nat.mul_le_mul_right _ (by omega)
  omega
theorem sN_none {f : Nat → Nat} {P : Nat → Prop} : ∀ n, (∀ j, j < n → ¬ P j) → sN f P n = 0 := by
  intro n
  induction n with
  | zero => intro _; rfl
  | succ n ih =>
    intro h
    rw [sN, ih (fun j hj => h j (by omega)), if_neg (h n (by omega))]
theorem inS_0 (hQ : LQ ξ τ) {j : Nat} (hj : j < ix (ξ 13 0)) : ¬ inS ξ k 0 j := fun z => bit0 (by have := oN_10 (k := k) hQ (Nat.le_of_lt hj); omega) z.2
theorem sD_0 (hQ : LQ ξ τ) : sD ξ k 0 (ix (ξ 13 0)) = 0 := sN_none _ fun _ hj => inS_0 hQ hj
theorem sC_0 (hQ : LQ ξ τ) : sC' ξ k 0 (ix (ξ 13 0)) = 0 := sN_none _ fun _ hj => inS_0 hQ hj
theorem sR_0 (hQ : LQ ξ τ) : sR ξ pl k 0 (ix (ξ 13 0)) = 0 := sN_none _ fun _ hj => inS_0 hQ hj
theorem plan_j (hI : InvX ξ) (hk : vp_in (nI k) (ix (ξ 8 0))) (hpl : vp_in pl 64) {ci : Nat} (hc : ci < 60) : M_plan_j25 ξ (nI k) pl (nI ci) = 0 := by
  have j5 : M_plan_j5 ξ (nI k) pl (nI ci) = 1 := by
    unfold M_plan_j5
    rw [if_neg (fun z => (village_iff hI).mp z hk), if_neg (fun z => place_iff.mp z hpl)]
  unfold M_plan_j25
  rw [j5, if_neg i10, if_neg (fun z => (isIn_n (a := 0) (b := 10000) (A := 0) (B := 10000) (vp_in_nI (n := ci) (N := 60) hc (by decide)) (by decide) rfl rfl (by decide) (by decide)).mp z ⟨Nat.zero_le _, by rw [ixn (by omega)]; omega⟩)]
theorem plan_s (hI : InvX ξ) (hk : vp_in (nI k) (ix (ξ 8 0))) (hpl : vp_in pl 64) {ci : Nat} (hc : ci < 60) : M_plan_s ξ (nI k) pl (nI ci) 41 0 = 0 := by
  unfold M_plan_s
  rw [plan_j hI hk hpl hc, if_pos (fails_0 ξ), plan_s_k2, f41]
theorem shl_n {c : Nat} (h : c ≤ 10) : (1 : Int32) <<< (nI c &&& 31) = nI (2 ^ c) := by
  have t : ∀ c : Fin 11, (1 : Int32) <<< (nI c.val &&& 31) = nI (2 ^ c.val) := by decide +kernel
  exact t ⟨c, by omega⟩
theorem AR (pl : Int32) (k s : Nat) : sR ξ pl k s (ix (ξ 13 0)) + sA ξ pl k s (ix (ξ 13 0)) = sN (gN ξ pl) (fun _ => True) (ix (ξ 13 0)) := sN_add _ _ _
theorem CD (s : Nat) : sC' ξ k s (ix (ξ 13 0)) = sD ξ k s (ix (ξ 13 0)) ∨ (20000 ≤ sC' ξ k s (ix (ξ 13 0)) ∧ 20000 ≤ sD ξ k s (ix (ξ 13 0))) := cd_s _ _
theorem pS_M0 (hQ : LQ ξ τ) (hI : InvX ξ) (hA : AG τ) (hk : vp_in (nI k) (ix (ξ 8 0))) (hpl : vp_in pl 64) {ci : Nat} (hc : ci < 60) {w : Nat} {x y z : Int32} {K : Int32 → Int32 → Int32 → Int32} :
    M_plan_L92 ξ (nI k) pl (nI ci) w x y z K (ix (ξ 13 0)) 0 0 0 0 = K (nI (oN (ξ 14) (nI k) (ix (ξ 13 0)))) (nI (sR ξ pl k w (ix (ξ 13 0)))) (nI (sC' ξ k w (ix (ξ 13 0)))) := by
  have hl10 := hQ.lim.2.1
  have eg := sN_pS (ξ := ξ) (V := nI k) (w := nI w) (F := fun j => X_givenBy ξ j (ix pl)) (f := gN ξ pl) (ix (ξ 13 0)) 0 (fun j hj => by
    have q := given_eq hI (p1 := nI j) hpl
    rw [ixn (by omega)] at q
    exact q.trans (gN_M hQ hI hA hpl (by omega)).1)
  have ec := sN_pS (ξ := ξ) (V := nI k) (w := nI w) (F := cM ξ) (f := cN ξ) (ix (ξ 13 0)) 0 (fun j hj => cN_M hI (by omega))
  rw [Nat.zero_add] at eg ec
  have em := pS_M hI hpl (plan_j hI hk hpl hc) w x y z K (ix (ξ 13 0)) 0 0 0 (by omega)
  rw [Nat.zero_add] at em
  exact em.trans (congr (congrArg _ eg) ec)
/-- the plan is the best set -/
theorem plan_best (hQ : LQ ξ τ) (hI : InvX ξ) (hA : AG τ) (hk : vp_in (nI k) (ix (ξ 8 0))) (hpl : vp_in pl 64) {ci : Nat} (hc : ci < 60) :
    ∃ b, b < MS ξ k ∧ M_plan ξ (nI k) pl (nI ci) = nI b ∧ sD ξ k b (ix (ξ 13 0)) ≤ ci ∧ ∀ s, s < MS ξ k → sD ξ k s (ix (ξ 13 0)) ≤ ci → BL (fun s => sA ξ pl k s (ix (ξ 13 0))) (fun s => sD ξ k s (ix (ξ 13 0))) b s := by
  have hj := plan_j hI hk hpl hc
  have hl10 := hQ.lim.2.1
  have hM := MS_le (k := k) hQ
  have key : ∀ n i b' : Nat, i + n = MS ξ k → b' ≤ i → b' < MS ξ k → sD ξ k b' (ix (ξ 13 0)) ≤ ci → (∀ s, s < i → sD ξ k s (ix (ξ 13 0)) ≤ ci → BL (fun s => sA ξ pl k s (ix (ξ 13 0))) (fun s => sD ξ k s (ix (ξ 13 0))) b' s) →
      ∃ b, b < MS ξ k ∧ M_plan_L68 ξ (nI k) pl (nI ci) (fun a _ _ => a) n i (nI b') (nI (sR ξ pl k b' (ix (ξ 13 0)))) (nI (sC' ξ k b' (ix (ξ 13 0)))) = nI b ∧ sD ξ k b (ix (ξ 13 0)) ≤ ci ∧ ∀ s, s < MS ξ k → sD ξ k s (ix (ξ 13 0)) ≤ ci → BL (fun s => sA ξ pl k s (ix (ξ 13 0))) (fun s => sD ξ k s (ix (ξ 13 0))) b s := by
    intro n
    induction n with
    | zero =>
      intro i b' hi hbi hb hd hs
      rw [M_plan_L68]
      exact ⟨b', hb, rfl, hd, fun s hs' => hs s (by omega)⟩
    | succ n ih =>
      intro i b' hi hbi hb hd hs
      rw [M_plan_L68, pS_M0 hQ hI hA hk hpl hc]
      have cb : sC' ξ k b' (ix (ξ 13 0)) = sD ξ k b' (ix (ξ 13 0)) := by have := CD (ξ := ξ) (k := k) b'; omega
      have ab := AR (ξ := ξ) pl k b'
      have ai := AR (ξ := ξ) pl k i
      have ci' := CD (ξ := ξ) (k := k) i
      have l1 := sR_lt (k := k) (s := b') hQ hI hA hpl (Nat.le_refl _)
      have l2 := sR_lt (k := k) (s := i) hQ hI hA hpl (Nat.le_refl _)
      have l3 := sCt_lt (k := k) (s := b') hQ (Nat.le_refl _)
      have l4 := sCt_lt (k := k) (s := i) hQ (Nat.le_refl _)
      have keep : M_plan_j204 ξ (nI k) pl (nI ci) i (nI b') (nI (sR ξ pl k b' (ix (ξ 13 0)))) (nI (sC' ξ k b' (ix (ξ 13 0)))) (nI (oN (ξ 14) (nI k) (ix (ξ 13 0)))) (nI (sR ξ pl k i (ix (ξ 13 0)))) (nI (sC' ξ k i (ix (ξ 13 0)))) = 0 → (sD ξ k i (ix (ξ 13 0)) ≤ ci → BL (fun s => sA ξ pl k s (ix (ξ 13 0))) (fun s => sD ξ k s (ix (ξ 13 0))) b' i) → ∃ b, b < MS ξ k ∧ M_plan_L68 ξ (nI k) pl (nI ci) (fun a _ _ => a) n (i + 1) (M_plan_j237 ξ (nI k) pl (nI ci) i (nI b') (nI (sR ξ pl k b' (ix (ξ 13 0)))) (nI (sC' ξ k b' (ix (ξ 13 0)))) (nI (oN (ξ 14) (nI k) (ix (ξ 13 0)))) (nI (sR ξ pl k i (ix (ξ 13 0)))) (nI (sC' ξ k i (ix (ξ 13 0))))) (M_plan_j265 ξ (nI k) pl (nI ci) i (nI b') (nI (sR ξ pl k b' (ix (ξ 13 0)))) (nI (sC' ξ k b' (ix (ξ 13 0)))) (nI (oN (ξ 14) (nI k) (ix (ξ 13 0)))) (nI (sR ξ pl k i (ix (ξ 13 0)))) (nI (sC' ξ k i (ix (ξ 13 0))))) (M_plan_j251 ξ (nI k) pl (nI ci) i (nI b') (nI (sR ξ pl k b' (ix (ξ 13 0)))) (nI (sC' ξ k b' (ix (ξ 13 0)))) (nI (oN (ξ 14) (nI k) (ix (ξ 13 0)))) (nI (sR ξ pl k i (ix (ξ 13 0)))) (nI (sC' ξ k i (ix (ξ 13 0))))) = nI b ∧ sD ξ k b (ix (ξ 13 0)) ≤ ci ∧ ∀ s, s < MS ξ k → sD ξ k s (ix (ξ 13 0)) ≤ ci → BL (fun s => sA ξ pl k s (ix (ξ 13 0))) (fun s => sD ξ k s (ix (ξ 13 0))) b s := fun e h => by
        unfold M_plan_j237 M_plan_j265 M_plan_j251
        rw [e]
        repeat rw [if_pos (show (0 : Int32) = 0 from rfl)]
        refine ih (i + 1) b' (by omega) (by omega) hb hd fun s hs' ha => ?_
        rcases Nat.lt_or_ge s i with z | z
        · exact hs s z ha
        · rw [show s = i by omega] at ha ⊢
          exact h ha
      have take : M_plan_j204 ξ (nI k) pl (nI ci) i (nI b') (nI (sR ξ pl k b' (ix (ξ 13 0)))) (nI (sC' ξ k b' (ix (ξ 13 0)))) (nI (oN (ξ 14) (nI k) (ix (ξ 13 0)))) (nI (sR ξ pl k i (ix (ξ 13 0)))) (nI (sC' ξ k i (ix (ξ 13 0)))) = 1 → sD ξ k i (ix (ξ 13 0)) ≤ ci → (sA ξ pl k i (ix (ξ 13 0)) < sA ξ pl k b' (ix (ξ 13 0)) ∨ (sA ξ pl k i (ix (ξ 13 0)) = sA ξ pl k b' (ix (ξ 13 0)) ∧ sD ξ k i (ix (ξ 13 0)) < sD ξ k b' (ix (ξ 13 0)))) → ∃ b, b < MS ξ k ∧ M_plan_L68 ξ (nI k) pl (nI ci) (fun a _ _ => a) n (i + 1) (M_plan_j237 ξ (nI k) pl (nI ci) i (nI b') (nI (sR ξ pl k b' (ix (ξ 13 0)))) (nI (sC' ξ k b' (ix (ξ 13 0)))) (nI (oN (ξ 14) (nI k) (ix (ξ 13 0)))) (nI (sR ξ pl k i (ix (ξ 13 0)))) (nI (sC' ξ k i (ix (ξ 13 0))))) (M_plan_j265 ξ (nI k) pl (nI ci) i (nI b') (nI (sR ξ pl k b' (ix (ξ 13 0)))) (nI (sC' ξ k b' (ix (ξ 13 0)))) (nI (oN (ξ 14) (nI k) (ix (ξ 13 0)))) (nI (sR ξ pl k i (ix (ξ 13 0)))) (nI (sC' ξ k i (ix (ξ 13 0))))) (M_plan_j251 ξ (nI k) pl (nI ci) i (nI b') (nI (sR ξ pl k b' (ix (ξ 13 0)))) (nI (sC' ξ k b' (ix (ξ 13 0)))) (nI (oN (ξ 14) (nI k) (ix (ξ 13 0)))) (nI (sR ξ pl k i (ix (ξ 13 0)))) (nI (sC' ξ k i (ix (ξ 13 0))))) = nI b ∧ sD ξ k b (ix (ξ 13 0)) ≤ ci ∧ ∀ s, s < MS ξ k → sD ξ k s (ix (ξ 13 0)) ≤ ci → BL (fun s => sA ξ pl k s (ix (ξ 13 0))) (fun s => sD ξ k s (ix (ξ 13 0))) b s := fun e ha h => by
        unfold M_plan_j237 M_plan_j265 M_plan_j251
        rw [e]
        repeat rw [if_neg (show ¬ (1 : Int32) = 0 by decide)]
        refine ih (i + 1) i (by omega) (by omega) (by omega) ha fun s hs' hs2 => ?_
        rcases Nat.lt_or_ge s i with z | z
        · have t := hs s z hs2
          unfold BL at t ⊢
          dsimp only at t ⊢
          omega
        · rw [show s = i by omega]
          exact Or.inr ⟨rfl, Or.inr ⟨rfl, Nat.le_refl _⟩⟩
      unfold M_plan_j204 at keep take
      by_cases q : ci < sC' ξ k i (ix (ξ 13 0))
      · rw [if_pos ((nI_ltI (by omega) (by omega)).mpr q)] at keep
        exact keep rfl fun z => by omega
      rw [if_neg (fun z => q ((nI_ltI (by omega) (by omega)).mp z))] at keep take
      have cii : sC' ξ k i (ix (ξ 13 0)) = sD ξ k i (ix (ξ 13 0)) := by omega
      by_cases a1 : sR ξ pl k b' (ix (ξ 13 0)) < sR ξ pl k i (ix (ξ 13 0))
      · rw [if_pos ((nI_ltI (by omega) (by omega)).mpr a1)] at take
        exact take rfl (by omega) (Or.inl (by omega))
      rw [if_neg (fun z => a1 ((nI_ltI (by omega) (by omega)).mp z))] at keep take
      by_cases a2 : sR ξ pl k i (ix (ξ 13 0)) = sR ξ pl k b' (ix (ξ 13 0))
      · rw [if_pos (show nI (sR ξ pl k i (ix (ξ 13 0))) = nI (sR ξ pl k b' (ix (ξ 13 0))) by rw [a2])] at keep take
        by_cases a3 : sC' ξ k b' (ix (ξ 13 0)) ≤ sC' ξ k i (ix (ξ 13 0))
        · rw [if_pos ((nI_leI (by omega) (by omega)).mpr a3)] at keep
          exact keep rfl fun z => by
            unfold BL
            dsimp only
            omega
        · rw [if_neg (fun z => a3 ((nI_leI (by omega) (by omega)).mp z))] at take
          exact take rfl (by omega) (Or.inr (by omega))
      · rw [if_neg (fun z => a2 ((nI_eq (by omega) (by omega)).mp z))] at keep
        exact keep rfl fun z => by
          unfold BL
          dsimp only
          omega
  have hN : ix ((1 : Int32) <<< ((M_lampsOf (M_fails_s ξ 0) (nI k)) &&& 31)) = MS ξ k := by
    rw [lampsOf41, lampsOf_eq hI, cntO_nI, shl_n (oN_10 hQ (Nat.le_refl _)), ixn (by have := hM; unfold MS at this; omega)]
    rfl
  have z := key (MS ξ k) 0 0 (Nat.zero_add _) (Nat.le_refl _) MS_pos (by rw [sD_0 hQ]; exact Nat.zero_le _) (fun s hs => absurd hs (Nat.not_lt_zero _))
  rw [sR_0 hQ, sC_0 hQ] at z
  unfold M_plan
  rw [hj, if_pos (fails_0 ξ), hN]
  exact z
end SOQ
end
