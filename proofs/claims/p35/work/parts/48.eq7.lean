noncomputable section
def bx (l p k : Nat) : Prop := (min (l % 8) (p % 8) ≤ k % 8 ∧ k % 8 ≤ max (l % 8) (p % 8)) ∧ (min (l / 8) (p / 8) ≤ k / 8 ∧ k / 8 ≤ max (l / 8) (p / 8))
theorem rm8 {a : Nat} (h : a < 1000) : nI a - nI a / 8 * 8 = nI (a % 8) := pk_rem (d := 8) (by omega) (by decide) (by decide)
theorem q8 {a : Nat} (h : a < 1000) : nI a / 8 = nI (a / 8) := pk_div (d := 8) (by omega) (by decide) (by decide)
theorem iMax_le (x y : Int32) : (if x ≤ y then y else x) = iMax x y := by
  unfold iMax
  by_cases c : x < y
  · rw [if_pos c, if_pos (by rw [Int32.le_iff_toInt_le]; rw [Int32.lt_iff_toInt_lt] at c; omega)]
  · rw [if_neg c]
    by_cases d : x ≤ y
    · rw [if_pos d]
      apply Int32.toInt_inj.mp
      rw [Int32.le_iff_toInt_le] at d
      rw [Int32.lt_iff_toInt_lt] at c
      omega
    · rw [if_neg d]
theorem bt8 {a b c : Nat} (ha : a < 8) (hb : b < 8) (hc : c < 8) : (0 < (nI c - nI a) * ((nI c - nI a) - (nI b - nI a))) ↔ ¬ (min a b ≤ c ∧ c ≤ max a b) := btw8 ⟨a, ha⟩ ⟨b, hb⟩ ⟨c, hc⟩
theorem shade_at {σ : St} {p1 : Int32} {l p k : Nat} (hl : l < 64) (hp : p < 64) (hk : k < 64) (e : σ 15 (ix p1) = nI l) : M_isShaded_j129 σ p1 (nI p) k 0 = 0 ↔ ¬ (bx l p k ∧ ¬ X_shades σ k l p = 0) := by
  unfold M_isShaded_j129 M_isShaded_j106 M_isShaded_j48 X_shades X_shades_j4 X_isNearLine X_isNearLine_j66 bx
  rw [e, iMax_le, size_abs, size_abs, size_abs, rm8 (a := l) (by omega), q8 (a := l) (by omega), rm8 (a := p) (by omega), q8 (a := p) (by omega), rm8 (a := k) (by omega), q8 (a := k) (by omega), if_pos rfl, ixn (a := k) (by omega)]
  by_cases c1 : σ 2 k = 0
  · rw [if_pos c1, if_pos c1]
    exact ⟨fun _ z => z.2 rfl, fun _ => rfl⟩
  rw [if_neg c1, if_neg c1]
  have inj : ∀ a b : Nat, a < 64 → b < 64 → (nI a = nI b ↔ a = b) := fun a b ha hb => ⟨fun z => by rw [← ixn (a := a) (by omega), z, ixn (by omega)], fun z => by rw [z]⟩
  by_cases c2 : k = p
  · rw [if_pos ((inj k p hk hp).mpr c2)]
    refine ⟨fun _ z => z.2 ?_, fun _ => rfl⟩
    by_cases c3 : k = l
    · rw [if_pos c3]
    · rw [if_neg c3, if_pos c2]
  rw [if_neg (fun z => c2 ((inj k p hk hp).mp z))]
  by_cases c3 : k = l
  · rw [if_pos ((inj k l hk hl).mpr c3), if_pos c3]
    exact ⟨fun _ z => z.2 rfl, fun _ => rfl⟩
  rw [if_neg (fun z => c3 ((inj k l hk hl).mp z)), if_neg c3, if_neg c2]
  by_cases b1 : 0 < (nI (k % 8) - nI (l % 8)) * ((nI (k % 8) - nI (l % 8)) - (nI (p % 8) - nI (l % 8)))
  · rw [if_pos b1, if_pos rfl]
    exact ⟨fun _ z => (bt8 (by omega) (by omega) (by omega)).mp b1 z.1.1, fun _ => rfl⟩
  rw [if_neg b1]
  by_cases b2 : 0 < (nI (k / 8) - nI (l / 8)) * ((nI (k / 8) - nI (l / 8)) - (nI (p / 8) - nI (l / 8)))
  · rw [if_pos b2, if_pos rfl]
    exact ⟨fun _ z => (bt8 (by omega) (by omega) (by omega)).mp b2 z.1.2, fun _ => rfl⟩
  rw [if_neg b2, if_neg i10]
  have h1 := Classical.byContradiction (fun z => b1 ((bt8 (a := l % 8) (b := p % 8) (c := k % 8) (by omega) (by omega) (by omega)).mpr z))
  have h2 := Classical.byContradiction (fun z => b2 ((bt8 (a := l / 8) (b := p / 8) (c := k / 8) (by omega) (by omega) (by omega)).mpr z))
  split
  · rw [if_pos rfl]
    exact ⟨fun _ z => z.2 rfl, fun _ => rfl⟩
  · rw [if_neg i10]
    exact ⟨fun z => absurd z i10, fun z => absurd ⟨⟨h1, h2⟩, i10⟩ z⟩
end
