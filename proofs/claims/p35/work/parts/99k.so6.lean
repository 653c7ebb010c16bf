noncomputable section
section SOP
variable {ξ τ : St} {p q : Int32}
/-- no lamp is older than the valley -/
def AG (τ : St) : Prop := ∀ n, n < 10 → vp_in (τ 3 (6 * n + 4)) (ix (τ 7 0) + 1)
theorem ag_in (hQ : LQ ξ τ) (hI : InvX ξ) (hA : AG τ) (h : vp_in p 10) : vp_in (ξ 23 (ix p)) 20001 := by
  have a := hA (ix p) (vp_lt h)
  rw [(hQ.l (vp_lt h)).2.2.2.2.1, hQ.g.1] at a
  exact vp_up a (vp_lt (hI.1 0 0 : vp_in (ξ 0 0) 20001))
theorem vr_sub {x : Int32} {c : Nat} (h : vp_in x (c + 1)) (hc : c < 1000000) : vp_in (nI c - x) (c + 1) := by
  obtain ⟨j, hj, e⟩ := vn h (by omega)
  subst e
  rw [pk_sub (by omega)]
  exact vp_in_nI (by omega) (by omega)
theorem vr_divg {x y : Int32} {M N : Nat} (h : vp_in x M) (hM : M < 2147483648) (hy : vp_in y N) (hN : N < 2147483648) : vp_in (x / y) M := by
  obtain ⟨a, ha, e⟩ := vn h (by omega)
  obtain ⟨b, hb, f⟩ := vn hy (by omega)
  subst e
  subst f
  rcases Nat.eq_zero_or_pos b with z | z
  · subst z
    rw [show nI a / nI 0 = 0 from Int32.div_zero]
    exact vp_in_nI (n := 0) (by omega) (by omega)
  · rw [pk_div (by omega) z (by omega)]
    exact vp_in_nI (Nat.lt_of_le_of_lt (Nat.div_le_self _ _) ha) (by omega)
theorem dist_in : ∀ a, a < 64 → ∀ b, b < 64 → ¬ (((1 : Int32) + (((nI a - nI a / 8 * 8) - (nI b - nI b / 8 * 8)) * ((nI a - nI a / 8 * 8) - (nI b - nI b / 8 * 8))) + ((nI a / 8 - nI b / 8) * (nI a / 8 - nI b / 8))) < 0 ∨ 200 ≤ ix ((1 : Int32) + (((nI a - nI a / 8 * 8) - (nI b - nI b / 8 * 8)) * ((nI a - nI a / 8 * 8) - (nI b - nI b / 8 * 8))) + ((nI a / 8 - nI b / 8) * (nI a / 8 - nI b / 8)))) := by decide +kernel
theorem light_in (hQ : LQ ξ τ) (hI : InvX ξ) (hA : AG τ) (h : vp_in p 10) : vp_in (M_light ξ p) 10001 := by
  have hd : vp_in (M_light_j21 ξ p) 101 := by
    unfold M_light_j21
    split
    · rename_i c
      obtain ⟨a, ha, e⟩ := vn (ag_in hQ hI hA h) (by decide)
      rw [e, show (100 : Int32) = nI 100 from rfl, pk_div (by omega) (by decide) (by decide), show (50 : Int32) = nI 50 from rfl, nI_leI (by omega) (by decide)] at c
      rw [e, show (100 : Int32) = nI 100 from rfl, pk_div (by omega) (by decide) (by decide)]
      exact vp_in_nI (by omega) (by decide)
    · exact vp_in_nI (n := 50) (by decide) (by decide)
  have h1 : vp_in (ξ 16 (ix p) * ((100 : Int32) - M_light_j21 ξ p) / (100 : Int32)) 10001 := vp_up (vr_div (c := 100) (vr_mul (hI.1 16 (ix p) : vp_in (ξ 16 (ix p)) 10001) (vr_sub (c := 100) hd (by decide)) (by decide)) (by decide) (by decide) (by decide)) (by decide)
  unfold M_light
  exact vp_up (vr_div (c := 10) (vr_mul h1 (vr_sub (c := 10) (hI.1 19 (ix p) : vp_in (ξ 19 (ix p)) 11) (by decide)) (by decide)) (by decide) (by decide) (by decide)) (by decide)
theorem given_in (hQ : LQ ξ τ) (hI : InvX ξ) (hA : AG τ) (h : vp_in p 10) (h2 : vp_in q 64) : vp_in (M_given ξ p q) 200001 := by
  have hdist : vp_in (M_distance ξ p q) 200 := by
    unfold M_distance
    obtain ⟨a, ha, e⟩ := vn h2 (by decide)
    obtain ⟨b, hb, f⟩ := vn (hI.1 15 (ix p) : vp_in (ξ 15 (ix p)) 64) (by decide)
    rw [e, f]
    exact dist_in a ha b hb
  have hsh : vp_in ((1 : Int32) <<< (ξ 17 (ix p) &&& 31)) 5 := by
    obtain ⟨a, ha, e⟩ := vn (hI.1 17 (ix p) : vp_in (ξ 17 (ix p)) 3) (by decide)
    rw [e]
    have t : ∀ a : Fin 3, ¬ ((1 : Int32) <<< (nI a.val &&& 31) < 0 ∨ 5 ≤ ix ((1 : Int32) <<< (nI a.val &&& 31))) := by decide +kernel
    exact t ⟨a, ha⟩
  have h1 : vp_in (((M_light ξ p * ((10 : Int32) - ξ 18 (ix p))) / (10 : Int32)) * ((1 : Int32) <<< (ξ 17 (ix p) &&& 31))) 40001 := vp_up (vr_mul (vr_div (c := 10) (vr_mul (light_in hQ hI hA h) (vr_sub (c := 10) (hI.1 18 (ix p) : vp_in (ξ 18 (ix p)) 11) (by decide)) (by decide)) (by decide) (by decide) (by decide)) hsh (by decide)) (by decide)
  have h2 := vr_divg h1 (by decide) hdist (by decide)
  have h3 : vp_in (M_given_j53 ξ p q) 40001 := by
    unfold M_given_j53
    split
    · exact h2
    · exact vp_up (vr_div (c := 2) h2 (by decide) (by decide) (by decide)) (by decide)
  have h4 : vp_in (M_given_j70 ξ p q) 6 := by
    unfold M_given_j70
    split
    · exact vp_in_nI (n := 5) (by decide) (by decide)
    · exact vp_up (vr_add (vp_in_nI (n := 1) (N := 2) (by decide) (by decide)) (hI.1 1 0 : vp_in (ξ 1 0) 3) (by decide)) (by decide)
  unfold M_given
  split
  · exact vp_in_nI (n := 0) (by decide) (by decide)
  · exact vp_up (vr_mul h3 h4 (by decide)) (by decide)
theorem nIltb {a : Nat} (h : a < 2147483648) : ¬ nI a < 0 := by
  rw [Int32.lt_iff_toInt_lt, nI_toInt h, Int32.toInt_zero]
  omega
/-- the sum of f over those below n that P holds of -/
def sN (f : Nat → Nat) (P : Nat → Prop) : Nat → Nat
  | 0 => 0
  | n + 1 => sN f P n + @ite _ (P n) (Classical.propDecidable _) (f n) 0
theorem sN_le {f : Nat → Nat} {P : Nat → Prop} {B : Nat} : ∀ n, (∀ j, j < n → f j ≤ B) → sN f P n ≤ n * B := by
  intro n
  induction n with
  | zero => intro _; exact Nat.zero_le _
  | succ n ih =>
    intro h
    have a := ih fun j hj => h j (by omega)
    have b := h n (by omega)
    rw [sN, Nat.succ_mul]
    split <;> omega
theorem sN_add (f : Nat → Nat) (P : Nat → Prop) : ∀ n, sN f P n + sN f (fun j => ¬ P j) n = sN f (fun _ => True) n := by
  intro n
  induction n with
  | zero => rfl
  | succ n ih =>
    rw [sN, sN, sN, if_pos trivial]
    by_cases c : P n
    · rw [if_pos c, if_neg (fun z => z c)]
      omega
    · rw [if_neg c, if_pos c]
      omega
theorem sN_pS {V w : Int32} {F : Nat → Int32} {f : Nat → Nat} : ∀ n k, (∀ j, j < k + n → F j = nI (f j)) → pS ξ V w F n k (nI (sN f (fun j => ξ 14 j = V ∧ bit w (oN (ξ 14) V j)) k)) = nI (sN f (fun j => ξ 14 j = V ∧ bit w (oN (ξ 14) V j)) (k + n)) := by
  intro n
  induction n with
  | zero => intro k _; rw [pS]; rfl
  | succ n ih =>
    intro k h
    have e : k + (n + 1) = k + 1 + n := by omega
    rw [pS, e, ← ih (k + 1) (fun j hj => h j (by omega))]
    congr 1
    rw [sN]
    split
    · rw [h k (by omega), nI_add]
    · rw [Nat.add_zero]
def inS (ξ : St) (k s j : Nat) : Prop := ξ 14 j = nI k ∧ bit (nI s) (oN (ξ 14) (nI k) j)
def gN (ξ : St) (pl : Int32) (j : Nat) : Nat := ix (M_given ξ (nI j) pl)
def cN (ξ : St) (j : Nat) : Nat := if M_isBound ξ (nI j) = 0 then 2 * (10 - ix (ξ 18 j)) else 20000
def dN (ξ : St) (j : Nat) : Nat := if M_isBound ξ (nI j) = 0 then 2 * (10 - ix (ξ 18 j)) else 100000
theorem cd_s (P : Nat → Prop) : ∀ n, sN (cN ξ) P n = sN (dN ξ) P n ∨ (20000 ≤ sN (cN ξ) P n ∧ 20000 ≤ sN (dN ξ) P n) := by
  intro n
  induction n with
  | zero => exact Or.inl rfl
  | succ n ih =>
    rw [sN, sN]
    unfold cN dN at *
    split
    · split <;> omega
    · omega
theorem cN_M (hI : InvX ξ) {j : Nat} (hj : j < 40) : cM ξ j = nI (cN ξ j) := by
  obtain ⟨s, hs, e⟩ := vn (hI.1 18 j : vp_in (ξ 18 j) 11) (by decide)
  unfold cM cN
  split
  · rw [e, ixn (by omega), show (2 : Int32) = nI 2 from rfl, show (10 : Int32) = nI 10 from rfl, pk_sub (by omega), pk_mul]
  · rfl
theorem gN_M (hQ : LQ ξ τ) (hI : InvX ξ) (hA : AG τ) {pl : Int32} (hpl : vp_in pl 64) {j : Nat} (hj : j < 10) : M_given ξ (nI j) pl = nI (gN ξ pl j) ∧ gN ξ pl j < 200001 :=
  ⟨vp_nI' (given_in hQ hI hA (vp_in_nI hj (by decide)) hpl) (by decide), vp_lt (given_in hQ hI hA (vp_in_nI hj (by decide)) hpl)⟩
/-- the better of two sets -/
def BL (A C : Nat → Nat) (b s : Nat) : Prop := A b < A s ∨ (A b = A s ∧ (C b < C s ∨ (C b = C s ∧ b ≤ s)))
theorem BL.anti {A C : Nat → Nat} {b s : Nat} (h : BL A C b s) (h' : BL A C s b) : b = s := by
  unfold BL at h h'
  omega
/-- what a search down to n has found -/
def IL2 (A C : Nat → Nat) (M coins n : Nat) (b l p : Int32) : Prop :=
  (b = -1 ∧ l = 0 ∧ p = 0 ∧ ∀ s, n ≤ s → s < M → coins < C s) ∨
  ∃ b' : Nat, n ≤ b' ∧ b' < M ∧ b = nI b' ∧ l = nI (A b') ∧ p = nI (C b') ∧ C b' ≤ coins ∧ ∀ s, n ≤ s → s < M → C s ≤ coins → BL A C b' s
/-- is the set better: the law's test -/
def soT (co gl ba le pa ci : Int32) : Int32 := if ci < co then 0 else (if ba < 0 then 1 else (if gl < le then 1 else (if gl = le then (if pa < co then 0 else 1) else 0)))
theorem IL2_step {A C : Nat → Nat} {M coins n : Nat} {b l p : Int32} (h : IL2 A C M coins (n + 1) b l p) (hn : n < M) (hA : ∀ s, s < M → A s < 100000000) (hC : ∀ s, s < M → C s < 100000000) (hc : coins < 100) (hM : M < 100000) :
    IL2 A C M coins n (if soT (nI (C n)) (nI (A n)) b l p (nI coins) = 0 then b else nI n) (if soT (nI (C n)) (nI (A n)) b l p (nI coins) = 0 then l else nI (A n)) (if soT (nI (C n)) (nI (A n)) b l p (nI coins) = 0 then p else nI (C n)) := by
  have cn := hC n hn
  have an := hA n hn
  unfold soT
  by_cases q : coins < C n
  · rw [if_pos ((nI_ltI (by omega) (by omega)).mpr q)]
    repeat rw [if_pos (show (0 : Int32) = 0 from rfl)]
    rcases h with ⟨h1, h2, h3, h4⟩ | ⟨b', h1, h2, h3, h4, h5, h6, h7⟩
    · refine Or.inl ⟨h1, h2, h3, fun s hs hm => ?_⟩
      rcases Nat.lt_or_ge n s with z | z
      · exact h4 s z hm
      · rw [show s = n by omega]; exact q
    · refine Or.inr ⟨b', by omega, h2, h3, h4, h5, h6, fun s hs hm ha => ?_⟩
      rcases Nat.lt_or_ge n s with z | z
      · exact h7 s z hm ha
      · rw [show s = n by omega] at ha
        omega
  rw [if_neg (fun z => q ((nI_ltI (by omega) (by omega)).mp z))]
  rcases h with ⟨h1, h2, h3, h4⟩ | ⟨b', h1, h2, h3, h4, h5, h6, h7⟩
  · rw [h1, if_pos (show (-1 : Int32) < 0 by decide)]
    repeat rw [if_neg (show ¬ (1 : Int32) = 0 by decide)]
    refine Or.inr ⟨n, Nat.le_refl _, hn, rfl, rfl, rfl, by omega, fun s hs hm ha => ?_⟩
    rcases Nat.lt_or_ge n s with z | z
    · have := h4 s z hm
      omega
    · rw [show s = n by omega]
      exact Or.inr ⟨rfl, Or.inr ⟨rfl, Nat.le_refl _⟩⟩
  · have ab := hA b' h2
    have cb := hC b' h2
    rw [h3, h4, h5, if_neg (nIltb (by omega))]
    have fin1 : (A n < A b' ∨ (A n = A b' ∧ C n ≤ C b')) → IL2 A C M coins n (nI n) (nI (A n)) (nI (C n)) := fun w => by
      refine Or.inr ⟨n, Nat.le_refl _, hn, rfl, rfl, rfl, by omega, fun s hs hm ha => ?_⟩
      rcases Nat.lt_or_ge n s with z | z
      · have t := h7 s z hm ha
        unfold BL at t ⊢
        omega
      · rw [show s = n by omega]
        exact Or.inr ⟨rfl, Or.inr ⟨rfl, Nat.le_refl _⟩⟩
    have fin0 : ¬ (A n < A b' ∨ (A n = A b' ∧ C n ≤ C b')) → IL2 A C M coins n (nI b') (nI (A b')) (nI (C b')) := fun w => by
      refine Or.inr ⟨b', by omega, h2, rfl, rfl, rfl, h6, fun s hs hm ha => ?_⟩
      rcases Nat.lt_or_ge n s with z | z
      · exact h7 s z hm ha
      · rw [show s = n by omega]
        unfold BL
        omega
    by_cases a1 : A n < A b'
    · rw [if_pos ((nI_ltI (by omega) (by omega)).mpr a1)]
      repeat rw [if_neg (show ¬ (1 : Int32) = 0 by decide)]
      exact fin1 (Or.inl a1)
    rw [if_neg (fun z => a1 ((nI_ltI (by omega) (by omega)).mp z))]
    by_cases a2 : A n = A b'
    · rw [if_pos (show nI (A n) = nI (A b') by rw [a2])]
      by_cases a3 : C b' < C n
      · rw [if_pos ((nI_ltI (by omega) (by omega)).mpr a3)]
        repeat rw [if_pos (show (0 : Int32) = 0 from rfl)]
        exact fin0 (by omega)
      · rw [if_neg (fun z => a3 ((nI_ltI (by omega) (by omega)).mp z))]
        repeat rw [if_neg (show ¬ (1 : Int32) = 0 by decide)]
        exact fin1 (Or.inr ⟨a2, by omega⟩)
    · rw [if_neg (fun z => a2 ((nI_eq (by omega) (by omega)).mp z))]
      repeat rw [if_pos (show (0 : Int32) = 0 from rfl)]
      exact fin0 (by omega)
end SOP
end
