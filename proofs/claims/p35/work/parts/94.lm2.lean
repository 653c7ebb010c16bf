noncomputable section
theorem pr8 : ∀ a b c d : Fin 8, -49 ≤ ((nI a.1 - nI b.1) * (nI c.1 - nI d.1)).toInt ∧ ((nI a.1 - nI b.1) * (nI c.1 - nI d.1)).toInt ≤ 49 := by decide +kernel
theorem near_iff {v F : Int32} (h1 : -98 ≤ v.toInt) (h2 : v.toInt ≤ 98) (hF : 0 ≤ F.toInt) : F < 2 * iAbs v ↔ (F < 2 * v ∨ F < (-2) * v) := by
  have e2 : (2 * v).toInt = 2 * v.toInt := by
    rw [Int32.toInt_mul, show (2 : Int32).toInt = 2 from rfl]
    exact Int.bmod_eq_of_le (by omega) (by omega)
  have e3 : ((-2) * v).toInt = (-2) * v.toInt := by
    rw [Int32.toInt_mul, show (-2 : Int32).toInt = -2 from rfl]
    exact Int.bmod_eq_of_le (by omega) (by omega)
  have e4 : (2 * (0 - v)).toInt = (-2) * v.toInt := by
    rw [Int32.zero_sub, Int32.toInt_mul, Int32.toInt_neg, show (2 : Int32).toInt = 2 from rfl, show (-v.toInt).bmod (2 ^ 32) = -v.toInt from Int.bmod_eq_of_le (by omega) (by omega)]
    exact (Int.bmod_eq_of_le (by omega) (by omega)).trans (by omega)
  unfold iAbs
  rw [Int32.lt_iff_toInt_lt, Int32.lt_iff_toInt_lt, Int32.lt_iff_toInt_lt, e2, e3]
  by_cases c : (0 : Int32) ≤ v
  · rw [if_pos c, e2]
    rw [Int32.le_iff_toInt_le, show (0 : Int32).toInt = 0 from rfl] at c
    omega
  · rw [if_neg c, e4]
    rw [Int32.le_iff_toInt_le, show (0 : Int32).toInt = 0 from rfl] at c
    omega
theorem L_size_abs (v : Int32) : L_size v = iAbs v := by
  unfold L_size L_size_j1 iAbs
  by_cases c : v ≤ 0
  · rw [if_pos c]
    by_cases d : (0 : Int32) ≤ v
    · rw [if_pos d]
      have e : v = 0 := Int32.le_antisymm c d
      rw [e]
      rfl
    · rw [if_neg d, Int32.zero_sub]
  · rw [if_neg c, if_pos (by rw [Int32.le_iff_toInt_le] at c ⊢; omega)]
theorem iMax_le2 (x y : Int32) : (if x ≤ y then y else x) = iMax x y := iMax_le x y
theorem far_nn {a b c d : Nat} (ha : a < 8) (hb : b < 8) (hc : c < 8) (hd : d < 8) : 0 ≤ (iMax (iAbs (nI a - nI b)) (iAbs (nI c - nI d))).toInt := by
  rw [← L_size_abs, ← L_size_abs, size_d (by omega) (by omega), size_d (by omega) (by omega), iMax_nI (by split <;> omega) (by split <;> omega), nI_toInt (by (repeat' split) <;> omega)]
  exact Int.natCast_nonneg _
section LMS
variable {ξ τ : St}
/-- one step of the law's search: from the lamp's place l towards the place q by x and y -/
theorem step_at (hQ : LQ ξ τ) (hI : InvX ξ) {l q k x y : Nat} {p1 p2 : Int32} (e1 : p1 = nI l) (e2 : p2 = nI q) (hl : l < 64) (hq : q < 64) (hk : k < 64) (K : Unit → Int32) (n : Nat)
    (hx : L_isShaded_j73 τ p1 p2 x y = nI (k % 8) - nI (l % 8)) (hy : L_isShaded_j88 τ p1 p2 x y = nI (k / 8) - nI (l / 8)) :
    L_isShaded_L62 τ p1 p2 x K (n + 1) y () = if X_shades ξ k l q = 0 then L_isShaded_L62 τ p1 p2 x K n (y + 1) () else 1 := by
  subst e1
  subst e2
  rw [L_isShaded_L62, hx, hy]
  have ek : nI l + (nI (k % 8) - nI (l % 8)) + (8 : Int32) * (nI (k / 8) - nI (l / 8)) = nI k := by
    have e8 : (8 : Int32) * (nI (k / 8) - nI (l / 8)) = nI (8 * (k / 8)) - nI (8 * (l / 8)) := by
      rw [show (8 : Int32) = nI 8 from rfl, Int32.mul_sub, pk_mul, pk_mul]
    have el : nI l = nI (l % 8) + nI (8 * (l / 8)) := by rw [nI_add]; congr 1; omega
    have ek : nI k = nI (k % 8) + nI (8 * (k / 8)) := by rw [nI_add]; congr 1; omega
    rw [e8, el, ek]
    generalize nI (l % 8) = a
    generalize nI (8 * (l / 8)) = b
    generalize nI (k % 8) = c
    generalize nI (8 * (k / 8)) = d
    rw [Int32.sub_eq_add_neg, Int32.sub_eq_add_neg, Int32.add_assoc a b, Int32.add_comm b, ← Int32.add_assoc, ← Int32.add_assoc, Int32.add_comm c (-a), ← Int32.add_assoc a, Int32.add_right_neg, Int32.zero_add, Int32.add_assoc c b d, Int32.add_comm b d, ← Int32.add_assoc c d b, Int32.add_assoc (c + d), Int32.add_right_neg, Int32.add_zero]
  have inj : ∀ a b : Nat, a < 64 → b < 64 → (nI a = nI b ↔ a = b) := fun a b ha hb => nI_eq (by omega) (by omega)
  have s1 := sh_loc (p := nI l) (vp_in_nI (by omega) (by decide))
  have s2 := sh_loc (p := nI q) (vp_in_nI (by omega) (by decide))
  rw [ixn (by omega)] at s1 s2
  rw [ek, ixn (by omega)]
  unfold L_isShaded_j30 X_shades X_shades_j4 X_isNearLine X_isNearLine_j66
  rw [s1.1, s1.2, s2.1, s2.2, iMax_le2, L_size_abs, L_size_abs]
  have hr := dp_ridge hQ hI hk
  by_cases c3 : k = l
  · rw [if_pos ((inj k l hk hl).mpr c3)]
    by_cases c1 : ξ 2 k = 0
    · rw [if_pos c1, if_pos rfl]
    · rw [if_neg c1, if_pos c3, if_pos rfl]
  rw [if_neg (fun z => c3 ((inj k l hk hl).mp z)), if_neg c3]
  by_cases c2 : k = q
  · rw [if_pos ((inj k q hk hq).mpr c2), if_pos c2, ite_self, if_pos rfl]
  rw [if_neg (fun z => c2 ((inj k q hk hq).mp z)), if_neg c2]
  by_cases c1 : ξ 2 k = 0
  · rw [if_pos (hr.mpr c1), if_pos c1, if_pos rfl]
  rw [if_neg (fun z => c1 (hr.mp z)), if_neg c1]
  have b1 := pr8 ⟨q % 8, by omega⟩ ⟨l % 8, by omega⟩ ⟨k / 8, by omega⟩ ⟨l / 8, by omega⟩
  have b2 := pr8 ⟨q / 8, by omega⟩ ⟨l / 8, by omega⟩ ⟨k % 8, by omega⟩ ⟨l % 8, by omega⟩
  dsimp only at b1 b2
  have hs : ((nI (q % 8) - nI (l % 8)) * (nI (k / 8) - nI (l / 8)) - (nI (q / 8) - nI (l / 8)) * (nI (k % 8) - nI (l % 8))).toInt = ((nI (q % 8) - nI (l % 8)) * (nI (k / 8) - nI (l / 8))).toInt - ((nI (q / 8) - nI (l / 8)) * (nI (k % 8) - nI (l % 8))).toInt := by
    rw [Int32.toInt_sub]
    exact Int.bmod_eq_of_le (by omega) (by omega)
  have hn := near_iff (v := (nI (q % 8) - nI (l % 8)) * (nI (k / 8) - nI (l / 8)) - (nI (q / 8) - nI (l / 8)) * (nI (k % 8) - nI (l % 8))) (F := iMax (iAbs (nI (q % 8) - nI (l % 8))) (iAbs (nI (q / 8) - nI (l / 8)))) (by omega) (by omega) (far_nn (by omega) (by omega) (by omega) (by omega))
  generalize (nI (q % 8) - nI (l % 8)) * (nI (k / 8) - nI (l / 8)) - (nI (q / 8) - nI (l / 8)) * (nI (k % 8) - nI (l % 8)) = v at *
  generalize iMax (iAbs (nI (q % 8) - nI (l % 8))) (iAbs (nI (q / 8) - nI (l / 8))) = F at *
  by_cases d1 : F < 2 * v
  · rw [if_pos d1, if_pos (hn.mpr (Or.inl d1)), if_pos rfl, if_pos rfl]
  rw [if_neg d1]
  by_cases d2 : F < (-2) * v
  · rw [if_pos d2, if_pos (hn.mpr (Or.inr d2)), if_pos rfl, if_pos rfl]
  · rw [if_neg d2, if_neg (fun z => (hn.mp z).elim d1 d2), if_neg i10, if_neg i10]
theorem j73_eq {p1 p2 : Int32} {a b x y : Nat} (e1 : p1 - p1 / (8 : Int32) * (8 : Int32) = nI a) (e2 : p2 - p2 / (8 : Int32) * (8 : Int32) = nI b) (ha : a < 8) (hb : b < 8) {c : Nat} (hc : c = if a ≤ b then a + x else a - x) (hx : x ≤ if a ≤ b then b - a else a - b) : L_isShaded_j73 τ p1 p2 x y = nI c - nI a := by
  unfold L_isShaded_j73
  rw [e1, e2]
  have c1 := sh_pos (a := a) (b := b) (by omega) (by omega)
  by_cases d : a ≤ b
  · rw [if_pos (c1.mpr d), hc, if_pos d, pk_sub (by omega)]
    congr 1
    omega
  · rw [if_neg (fun z => d (c1.mp z)), hc, if_neg d]
    rw [if_neg d] at hx
    rw [← Int32.neg_sub, pk_sub (by omega)]
    congr 2
    omega
theorem j88_eq {p1 p2 : Int32} {a b x y : Nat} (e1 : p1 / (8 : Int32) = nI a) (e2 : p2 / (8 : Int32) = nI b) (ha : a < 8) (hb : b < 8) {c : Nat} (hc : c = if a ≤ b then a + y else a - y) (hy : y ≤ if a ≤ b then b - a else a - b) : L_isShaded_j88 τ p1 p2 x y = nI c - nI a := by
  unfold L_isShaded_j88
  rw [e1, e2]
  have c1 := sh_pos (a := a) (b := b) (by omega) (by omega)
  by_cases d : a ≤ b
  · rw [if_pos (c1.mpr d), hc, if_pos d, pk_sub (by omega)]
    congr 1
    omega
  · rw [if_neg (fun z => d (c1.mp z)), hc, if_neg d]
    rw [if_neg d] at hy
    rw [← Int32.neg_sub, pk_sub (by omega)]
    congr 2
    omega
/-- the place that the law looks at -/
def lk (l q x y : Nat) : Nat := 8 * (if l / 8 ≤ q / 8 then l / 8 + y else l / 8 - y) + (if l % 8 ≤ q % 8 then l % 8 + x else l % 8 - x)
def wx (l q : Nat) : Nat := if l % 8 ≤ q % 8 then q % 8 - l % 8 else l % 8 - q % 8
def wy (l q : Nat) : Nat := if l / 8 ≤ q / 8 then q / 8 - l / 8 else l / 8 - q / 8
theorem lk_bd {l q x y : Nat} (hl : l < 64) (hq : q < 64) (hx : x ≤ wx l q) (hy : y ≤ wy l q) : (if l / 8 ≤ q / 8 then l / 8 + y else l / 8 - y) < 8 ∧ (if l % 8 ≤ q % 8 then l % 8 + x else l % 8 - x) < 8 := by
  unfold wx at hx
  unfold wy at hy
  constructor
  · split at hy <;> rename_i c
    · rw [if_pos c]; omega
    · rw [if_neg c]; omega
  · split at hx <;> rename_i c
    · rw [if_pos c]; omega
    · rw [if_neg c]; omega
theorem in_L62 (hQ : LQ ξ τ) (hI : InvX ξ) {l q x : Nat} {p1 p2 : Int32} (e1 : p1 = nI l) (e2 : p2 = nI q) (hl : l < 64) (hq : q < 64) (hx : x ≤ wx l q) (K : Unit → Int32) : ∀ n y, y + n ≤ wy l q + 1 →
    (L_isShaded_L62 τ p1 p2 x K n y () = 0 ↔ (∀ y', y ≤ y' → y' < y + n → X_shades ξ (lk l q x y') l q = 0) ∧ K () = 0) := by
  intro n
  induction n with
  | zero =>
    intro y _
    rw [L_isShaded_L62]
    exact ⟨fun h => ⟨fun y' h1 h2 => by omega, h⟩, fun h => h.2⟩
  | succ n ih =>
    intro y hy
    have hb := lk_bd hl hq hx (show y ≤ wy l q by omega)
    have s1 := sh_loc (p := p1) (by rw [e1]; exact vp_in_nI (by omega) (by decide))
    have s2 := sh_loc (p := p2) (by rw [e2]; exact vp_in_nI (by omega) (by decide))
    rw [e1, ixn (by omega), ← e1] at s1
    rw [e2, ixn (by omega), ← e2] at s2
    have m1 : lk l q x y % 8 = if l % 8 ≤ q % 8 then l % 8 + x else l % 8 - x := by unfold lk; omega
    have m2 : lk l q x y / 8 = if l / 8 ≤ q / 8 then l / 8 + y else l / 8 - y := by unfold lk; omega
    rw [step_at hQ hI (k := lk l q x y) e1 e2 hl hq (by unfold lk; omega) K n (j73_eq s1.1 s2.1 (by omega) (by omega) m1 hx) (j88_eq s1.2 s2.2 (by omega) (by omega) m2 (show y ≤ wy l q by omega))]
    by_cases c : X_shades ξ (lk l q x y) l q = 0
    · rw [if_pos c, ih (y + 1) (by omega)]
      constructor
      · rintro ⟨h1, h2⟩
        refine ⟨fun y' h3 h4 => ?_, h2⟩
        rcases Nat.eq_or_lt_of_le h3 with w | w
        · rw [← w]; exact c
        · exact h1 y' w (by omega)
      · rintro ⟨h1, h2⟩
        exact ⟨fun y' h3 h4 => h1 y' (by omega) (by omega), h2⟩
    · rw [if_neg c]
      exact ⟨fun h => absurd h i10, fun h => absurd (h.1 y (Nat.le_refl _) (by omega)) c⟩
theorem in_L50 (hQ : LQ ξ τ) (hI : InvX ξ) {l q : Nat} {p1 p2 : Int32} (e1 : p1 = nI l) (e2 : p2 = nI q) (hl : l < 64) (hq : q < 64) (hy : ix (L_size ((p2 / (8 : Int32)) - (p1 / (8 : Int32)))) = wy l q) (K : Unit → Int32) : ∀ n x, x + n ≤ wx l q + 1 →
    (L_isShaded_L50 τ p1 p2 K n x () = 0 ↔ (∀ x', x ≤ x' → x' < x + n → ∀ y', y' ≤ wy l q → X_shades ξ (lk l q x' y') l q = 0) ∧ K () = 0) := by
  intro n
  induction n with
  | zero =>
    intro x _
    rw [L_isShaded_L50]
    exact ⟨fun h => ⟨fun x' h1 h2 => by omega, h⟩, fun h => h.2⟩
  | succ n ih =>
    intro x hx
    rw [L_isShaded_L50, hy, in_L62 hQ hI e1 e2 hl hq (show x ≤ wx l q by omega) _ _ _ (by omega), ih (x + 1) (by omega)]
    constructor
    · rintro ⟨h1, h2, h3⟩
      refine ⟨fun x' h4 h5 y' h6 => ?_, h3⟩
      rcases Nat.eq_or_lt_of_le h4 with w | w
      · rw [← w]; exact h1 y' (Nat.zero_le _) (by omega)
      · exact h2 x' w (by omega) y' h6
    · rintro ⟨h1, h2⟩
      exact ⟨fun y' _ h6 => h1 x (Nat.le_refl _) (by omega) y' (by omega), fun x' h4 h5 => h1 x' (by omega) (by omega), h2⟩
theorem LM_shaded (hQ : LQ ξ τ) (hI : InvX ξ) {p p2 : Int32} (h2 : vp_in p2 64) : L_isShaded τ (ξ 15 (ix p)) p2 = 0 ↔ M_isShaded ξ p p2 = 0 := by
  have h1 : vp_in (ξ 15 (ix p)) 64 := hI.1 15 (ix p)
  obtain ⟨l, hl, e1⟩ := vn h1 (by decide)
  obtain ⟨q, hq, e2⟩ := vn h2 (by decide)
  have s1 := sh_loc h1
  have s2 := sh_loc h2
  have i1 : ix (ξ 15 (ix p)) = l := by rw [e1, ixn (by omega)]
  have i2 : ix p2 = q := by rw [e2, ixn (by omega)]
  rw [i1] at s1
  rw [i2] at s2
  have hwx : ix (L_size ((p2 - p2 / (8 : Int32) * (8 : Int32)) - (ξ 15 (ix p) - ξ 15 (ix p) / (8 : Int32) * (8 : Int32)))) = wx l q := by
    rw [s1.1, s2.1, size_d (by omega) (by omega), ixn (by split <;> omega)]
    rfl
  have hwy : ix (L_size ((p2 / (8 : Int32)) - (ξ 15 (ix p) / (8 : Int32)))) = wy l q := by
    rw [s1.2, s2.2, size_d (by omega) (by omega), ixn (by split <;> omega)]
    rfl
  unfold L_isShaded M_isShaded
  rw [hwx, in_L50 hQ hI e1 e2 hl hq hwy _ _ _ (by omega), e2, M_sh_loop _ _ _ (Or.inl rfl), n64_eq]
  constructor
  · rintro ⟨h3, _⟩
    refine ⟨rfl, fun k _ hk => (shade_at hl hq (by omega) e1).mpr ?_⟩
    rintro ⟨⟨⟨b1, b2⟩, b3, b4⟩, b5⟩
    have hx := h3 (if l % 8 ≤ q % 8 then k % 8 - l % 8 else l % 8 - k % 8) (Nat.zero_le _) (by unfold wx; split <;> omega) (if l / 8 ≤ q / 8 then k / 8 - l / 8 else l / 8 - k / 8) (by unfold wy; split <;> omega)
    have ek : lk l q (if l % 8 ≤ q % 8 then k % 8 - l % 8 else l % 8 - k % 8) (if l / 8 ≤ q / 8 then k / 8 - l / 8 else l / 8 - k / 8) = k := by
      unfold lk
      by_cases c1 : l % 8 ≤ q % 8
      · by_cases c2 : l / 8 ≤ q / 8
        · rw [if_pos c1, if_pos c1, if_pos c2, if_pos c2]; omega
        · rw [if_pos c1, if_pos c1, if_neg c2, if_neg c2]; omega
      · by_cases c2 : l / 8 ≤ q / 8
        · rw [if_neg c1, if_neg c1, if_pos c2, if_pos c2]; omega
        · rw [if_neg c1, if_neg c1, if_neg c2, if_neg c2]; omega
    rw [ek] at hx
    exact b5 hx
  · rintro ⟨_, h3⟩
    refine ⟨fun x _ hx y hy => ?_, rfl⟩
    have hb := lk_bd hl hq (show x ≤ wx l q by omega) hy
    have hk : lk l q x y < 64 := by unfold lk; omega
    have m1 : lk l q x y % 8 = if l % 8 ≤ q % 8 then l % 8 + x else l % 8 - x := by unfold lk; omega
    have m2 : lk l q x y / 8 = if l / 8 ≤ q / 8 then l / 8 + y else l / 8 - y := by unfold lk; omega
    refine Classical.byContradiction fun w => (shade_at hl hq hk e1).mp (h3 (lk l q x y) (Nat.zero_le _) (by omega)) ⟨⟨?_, ?_⟩, w⟩
    · rw [m1]
      have hx' : x ≤ wx l q := by omega
      unfold wx at hx'
      split <;> rename_i c
      · rw [if_pos c] at hx'; omega
      · rw [if_neg c] at hx'; omega
    · rw [m2]
      unfold wy at hy
      split <;> rename_i c
      · rw [if_pos c] at hy; omega
      · rw [if_neg c] at hy; omega
end LMS
end
