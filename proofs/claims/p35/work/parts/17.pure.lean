noncomputable section
def M_ofReading_j5 (σ : St) (p1 : Int32) (p2 : Int32) (p3 : Int32) : Int32 := (if (M_isMeter σ p1) = (0 : Int32) then (0 : Int32) else (if (M_isIn p2 (0 : Int32) ((σ 31 (ix p1)) - (1 : Int32))) = (0 : Int32) then (0 : Int32) else (1 : Int32)))
theorem M_ofReading_j5_b (σ : St) (p1 : Int32) (p2 : Int32) (p3 : Int32) : M_ofReading_j5 σ p1 p2 p3 = 0 ∨ M_ofReading_j5 σ p1 p2 p3 = 1 := by
  unfold M_ofReading_j5
  (repeat' split) <;> first | exact Or.inl rfl | exact Or.inr rfl
def M_ofReading_j34 (σ : St) (p1 : Int32) (p2 : Int32) (p3 : Int32) : Int32 := (if (M_ofReading_j5 σ p1 p2 p3) = (0 : Int32) then (1 : Int32) else (if (M_isIn p3 (0 : Int32) (2 : Int32)) = (0 : Int32) then (2 : Int32) else (0 : Int32)))
def M_ofReading_j64 (σ : St) (p1 : Int32) (p2 : Int32) (p3 : Int32) : Int32 := (if p3 = (0 : Int32) then ((M_fails_s σ (M_ofReading_j34 σ p1 p2 p3)) 32 (ix (((10 : Int32) * p1) + p2))) else (if p3 = (1 : Int32) then ((M_fails_s σ (M_ofReading_j34 σ p1 p2 p3)) 33 (ix (((10 : Int32) * p1) + p2))) else (M_corrected (M_fails_s σ (M_ofReading_j34 σ p1 p2 p3)) p1 p2)))
def M_ofReading (σ : St) (p1 : Int32) (p2 : Int32) (p3 : Int32) : Int32 := (if (M_fails σ (M_ofReading_j34 σ p1 p2 p3)) = (0 : Int32) then (M_ofReading_j64 σ p1 p2 p3) else (0 : Int32))
def M_ofReading_s (σ : St) (p1 : Int32) (p2 : Int32) (p3 : Int32) : St := (if (M_fails σ (M_ofReading_j34 σ p1 p2 p3)) = (0 : Int32) then (M_fails_s σ (M_ofReading_j34 σ p1 p2 p3)) else (M_fails_s σ (M_ofReading_j34 σ p1 p2 p3)))
theorem ok_ofReading0 {σ : St} {p1 p2 p3 : Int32} (hI : Inv σ) (c : M_fails σ (M_ofReading_j34 σ p1 p2 p3) = 0) : vp_in p1 8 ∧ vp_in p2 10 := by
  refine Classical.byContradiction (fun q => ?_)
  refine fz c (Or.inl ?_)
  unfold M_ofReading_j34
  rw [if_pos ?_]
  unfold M_ofReading_j5
  by_cases z : M_isMeter σ p1 = 0
  · rw [if_pos z]
  · rw [if_neg z]
    by_cases z2 : M_isIn p2 0 (σ 31 (ix p1) - 1) = 0
    · rw [if_pos z2]
    · exact absurd ⟨isMeter_in hI z, (isIn_cnt (N := 10) (hI 31 (ix p1)) (by decide) z2).1⟩ q
def M_audit_j8 (σ : St) (p1 : Int32) : Int32 := (if (M_isIn p1 (0 : Int32) (100000 : Int32)) = (0 : Int32) then (1 : Int32) else (0 : Int32))
theorem M_audit_j8_b (σ : St) (p1 : Int32) : M_audit_j8 σ p1 = 0 ∨ M_audit_j8 σ p1 = 1 := by
  unfold M_audit_j8
  (repeat' split) <;> first | exact Or.inl rfl | exact Or.inr rfl
def M_audit_j37 (σ : St) (p1 : Int32) (k28 : Nat) (a28_2 : Int32) : Int32 := (if a28_2 = (0 : Int32) then (0 : Int32) else (if ((M_fails_s σ (M_audit_j8 σ p1)) 31 (ix (nI k28))) = (0 : Int32) then (1 : Int32) else (if p1 < (M_corrected (M_fails_s σ (M_audit_j8 σ p1)) (nI k28) (((M_fails_s σ (M_audit_j8 σ p1)) 31 (ix (nI k28))) - (1 : Int32))) then (0 : Int32) else (1 : Int32))))
theorem M_audit_j37_b (σ : St) (p1 : Int32) (k28 : Nat) (a28_2 : Int32) : M_audit_j37 σ p1 k28 a28_2 = 0 ∨ M_audit_j37 σ p1 k28 a28_2 = 1 := by
  unfold M_audit_j37
  (repeat' split) <;> first | exact Or.inl rfl | exact Or.inr rfl
def M_audit_L28 (σ : St) (p1 : Int32) (K28 : Int32 → Int32) : Nat → Nat → Int32 → Int32
  | 0, _, a28_2 => K28 a28_2
  | n28 + 1, k28, a28_2 => (M_audit_L28 σ p1 K28 n28 (k28 + 1) (M_audit_j37 σ p1 k28 a28_2))
def M_audit_L28_s (σ : St) (p1 : Int32) (K28s : Int32 → St) : Nat → Nat → Int32 → St
  | 0, _, a28_2 => K28s a28_2
  | n28 + 1, k28, a28_2 => (M_audit_L28_s σ p1 K28s n28 (k28 + 1) (M_audit_j37 σ p1 k28 a28_2))
def M_audit_j80 (σ : St) (p1 : Int32) (a28_2 : Int32) : Int32 := (if a28_2 = (0 : Int32) then (((M_fails_s σ (M_audit_j8 σ p1)) 35 0) + (1 : Int32)) else (0 : Int32))
def M_audit_j98 (σ : St) (p1 : Int32) (a28_2 : Int32) : Int32 := (if a28_2 = (0 : Int32) then (0 : Int32) else (((sC (M_fails_s σ (M_audit_j8 σ p1)) 35 (M_audit_j80 σ p1 a28_2)) 36 0) + (1 : Int32)))
def M_audit_j120 (σ : St) (p1 : Int32) (a28_2 : Int32) : Int32 := (if (2 : Int32) ≤ ((sC (sC (M_fails_s σ (M_audit_j8 σ p1)) 35 (M_audit_j80 σ p1 a28_2)) 36 (M_audit_j98 σ p1 a28_2)) 35 0) then (1 : Int32) else (if ((sC (sC (M_fails_s σ (M_audit_j8 σ p1)) 35 (M_audit_j80 σ p1 a28_2)) 36 (M_audit_j98 σ p1 a28_2)) 34 0) = (0 : Int32) then (0 : Int32) else (if (3 : Int32) ≤ ((sC (sC (M_fails_s σ (M_audit_j8 σ p1)) 35 (M_audit_j80 σ p1 a28_2)) 36 (M_audit_j98 σ p1 a28_2)) 36 0) then (0 : Int32) else (1 : Int32))))
theorem M_audit_j120_b (σ : St) (p1 : Int32) (a28_2 : Int32) : M_audit_j120 σ p1 a28_2 = 0 ∨ M_audit_j120 σ p1 a28_2 = 1 := by
  unfold M_audit_j120
  (repeat' split) <;> first | exact Or.inl rfl | exact Or.inr rfl
def M_audit (σ : St) (p1 : Int32) : Int32 := (if (M_fails σ (M_audit_j8 σ p1)) = (0 : Int32) then (M_audit_L28 σ p1 (fun a28_2 => a28_2) (ix (σ 26 0)) 0 (1 : Int32)) else (0 : Int32))
def M_audit_s (σ : St) (p1 : Int32) : St := (if (M_fails σ (M_audit_j8 σ p1)) = (0 : Int32) then (M_audit_L28_s σ p1 (fun a28_2 => (sC (sC (sC (M_fails_s σ (M_audit_j8 σ p1)) 35 (M_audit_j80 σ p1 a28_2)) 36 (M_audit_j98 σ p1 a28_2)) 34 (M_audit_j120 σ p1 a28_2))) (ix (σ 26 0)) 0 (1 : Int32)) else (M_fails_s σ (M_audit_j8 σ p1)))
def M_feast_j5 (σ : St) (p1 : Int32) (p2 : Int32) : Int32 := (if (M_isZone p1) = (0 : Int32) then (1 : Int32) else (if (M_isIn p2 (0 : Int32) (999 : Int32)) = (0 : Int32) then (2 : Int32) else (0 : Int32)))
def M_feast_j80 (σ : St) (p1 : Int32) (p2 : Int32) (k58 : Nat) (a58_3 : Int32) : Int32 := (if ((sS (M_fails_s σ (M_feast_j5 σ p1 p2)) 7 (ix (((1000 : Int32) * p1) + p2)) (1 : Int32)) 7 (ix (nI k58))) = (0 : Int32) then (0 : Int32) else (1 : Int32))
theorem M_feast_j80_b (σ : St) (p1 : Int32) (p2 : Int32) (k58 : Nat) (a58_3 : Int32) : M_feast_j80 σ p1 p2 k58 a58_3 = 0 ∨ M_feast_j80 σ p1 p2 k58 a58_3 = 1 := by
  unfold M_feast_j80
  (repeat' split) <;> first | exact Or.inl rfl | exact Or.inr rfl
def M_feast_L58 (σ : St) (p1 : Int32) (p2 : Int32) (K58 : Int32 → Int32) : Nat → Nat → Int32 → Int32
  | 0, _, a58_3 => K58 a58_3
  | n58 + 1, k58, a58_3 => (M_feast_L58 σ p1 p2 K58 n58 (k58 + 1) (a58_3 + (M_feast_j80 σ p1 p2 k58 a58_3)))
def M_feast_L58_s (σ : St) (p1 : Int32) (p2 : Int32) (K58s : Int32 → St) : Nat → Nat → Int32 → St
  | 0, _, a58_3 => K58s a58_3
  | n58 + 1, k58, a58_3 => (M_feast_L58_s σ p1 p2 K58s n58 (k58 + 1) (a58_3 + (M_feast_j80 σ p1 p2 k58 a58_3)))
def M_feast (σ : St) (p1 : Int32) (p2 : Int32) : Int32 := (if (M_fails σ (M_feast_j5 σ p1 p2)) = (0 : Int32) then (M_feast_L58 σ p1 p2 (fun a58_3 => a58_3) n1000 (1000 * ix p1) (0 : Int32)) else (0 : Int32))
def M_feast_s (σ : St) (p1 : Int32) (p2 : Int32) : St := (if (M_fails σ (M_feast_j5 σ p1 p2)) = (0 : Int32) then (M_feast_L58_s σ p1 p2 (fun a58_3 => (sS (M_fails_s σ (M_feast_j5 σ p1 p2)) 7 (ix (((1000 : Int32) * p1) + p2)) (1 : Int32))) n1000 (1000 * ix p1) (0 : Int32)) else (M_fails_s σ (M_feast_j5 σ p1 p2)))
theorem ok_feast0 {σ : St} {p1 p2 : Int32} (hI : Inv σ) (c : M_fails σ (M_feast_j5 σ p1 p2) = 0) : vp_in p1 4 := by
  refine isZone_in (fun q => ?_)
  exact fz c (by unfold M_feast_j5; simp [q])
theorem ok_feast1 {σ : St} {p1 p2 : Int32} (hI : Inv σ) (c : M_fails σ (M_feast_j5 σ p1 p2) = 0) : vp_in p2 1000 := by
  refine isIn_in (N := 999) (b := 999) (by decide) (fun q => ?_)
  exact fz c (by unfold M_feast_j5; simp [q]; by_cases z : M_isZone p1 = 0 <;> simp [z])
def M_inspect_j5 (σ : St) (p1 : Int32) : Int32 := (if (M_isZone p1) = (0 : Int32) then (1 : Int32) else (0 : Int32))
theorem M_inspect_j5_b (σ : St) (p1 : Int32) : M_inspect_j5 σ p1 = 0 ∨ M_inspect_j5 σ p1 = 1 := by
  unfold M_inspect_j5
  (repeat' split) <;> first | exact Or.inl rfl | exact Or.inr rfl
def M_inspect_j45l2 (σ : St) (p1 : Int32) (k25 : Nat) (a25_2 : Int32) (s25 : St) : Int32 := (if (s25 3 (ix (s25 15 (ix (nI k25))))) = p1 then (if (M_isUnlawful s25 (nI k25)) = (0 : Int32) then a25_2 else (if ((s25 0 0) - (s25 25 (ix (nI k25)))) < (720 : Int32) then a25_2 else (a25_2 + 1))) else a25_2)
def M_inspect_j45_s (σ : St) (p1 : Int32) (k25 : Nat) (a25_2 : Int32) (s25 : St) : St := (if (s25 3 (ix (s25 15 (ix (nI k25))))) = p1 then (if (M_isUnlawful s25 (nI k25)) = (0 : Int32) then s25 else (if ((s25 0 0) - (s25 25 (ix (nI k25)))) < (720 : Int32) then s25 else (sS (sS (sS s25 10 (ix (s25 14 (ix (nI k25)))) ((s25 10 (ix (s25 14 (ix (nI k25))))) - (10 : Int32))) 11 (ix ((sS s25 10 (ix (s25 14 (ix (nI k25)))) ((s25 10 (ix (s25 14 (ix (nI k25))))) - (10 : Int32))) 14 (ix (nI k25)))) (((sS s25 10 (ix (s25 14 (ix (nI k25)))) ((s25 10 (ix (s25 14 (ix (nI k25))))) - (10 : Int32))) 11 (ix ((sS s25 10 (ix (s25 14 (ix (nI k25)))) ((s25 10 (ix (s25 14 (ix (nI k25))))) - (10 : Int32))) 14 (ix (nI k25))))) + (10 : Int32))) 25 (ix (nI k25)) ((sS (sS s25 10 (ix (s25 14 (ix (nI k25)))) ((s25 10 (ix (s25 14 (ix (nI k25))))) - (10 : Int32))) 11 (ix ((sS s25 10 (ix (s25 14 (ix (nI k25)))) ((s25 10 (ix (s25 14 (ix (nI k25))))) - (10 : Int32))) 14 (ix (nI k25)))) (((sS s25 10 (ix (s25 14 (ix (nI k25)))) ((s25 10 (ix (s25 14 (ix (nI k25))))) - (10 : Int32))) 11 (ix ((sS s25 10 (ix (s25 14 (ix (nI k25)))) ((s25 10 (ix (s25 14 (ix (nI k25))))) - (10 : Int32))) 14 (ix (nI k25))))) + (10 : Int32))) 0 0)))) else s25)
def M_inspect_L25 (σ : St) (p1 : Int32) (K25 : Int32 → St → Int32) : Nat → Nat → Int32 → St → Int32
  | 0, _, a25_2, s25 => K25 a25_2 s25
  | n25 + 1, k25, a25_2, s25 => (M_inspect_L25 σ p1 K25 n25 (k25 + 1) (M_inspect_j45l2 σ p1 k25 a25_2 s25) (M_inspect_j45_s σ p1 k25 a25_2 s25))
def M_inspect_L25_s (σ : St) (p1 : Int32) (K25s : Int32 → St → St) : Nat → Nat → Int32 → St → St
  | 0, _, a25_2, s25 => K25s a25_2 s25
  | n25 + 1, k25, a25_2, s25 => (M_inspect_L25_s σ p1 K25s n25 (k25 + 1) (M_inspect_j45l2 σ p1 k25 a25_2 s25) (M_inspect_j45_s σ p1 k25 a25_2 s25))
def M_inspect (σ : St) (p1 : Int32) : Int32 := (if (M_fails σ (M_inspect_j5 σ p1)) = (0 : Int32) then (M_inspect_L25 σ p1 (fun a25_2 s25 => a25_2) (ix (σ 13 0)) 0 (0 : Int32) (M_fails_s σ (M_inspect_j5 σ p1))) else (0 : Int32))
def M_inspect_s (σ : St) (p1 : Int32) : St := (if (M_fails σ (M_inspect_j5 σ p1)) = (0 : Int32) then (M_inspect_L25_s σ p1 (fun a25_2 s25 => s25) (ix (σ 13 0)) 0 (0 : Int32) (M_fails_s σ (M_inspect_j5 σ p1))) else (M_fails_s σ (M_inspect_j5 σ p1)))
theorem ok_inspect0 {σ : St} {p1 : Int32} (hI : Inv σ) (c : M_fails σ (M_inspect_j5 σ p1) = 0) : vp_in p1 4 := by
  refine isZone_in (fun q => ?_)
  exact fz c (by unfold M_inspect_j5; simp [q])
def M_pass_j9 (σ : St) (p1 : Int32) : Int32 := (if (M_isIn p1 (1 : Int32) (500 : Int32)) = (0 : Int32) then (1 : Int32) else (if ((σ 0 0) + p1) ≤ (20000 : Int32) then (0 : Int32) else (2 : Int32)))
def M_pass_j70 (σ : St) (p1 : Int32) (k43 : Nat) (s43 : St) (k50 : Nat) (s50 : St) : Int32 := (if (M_burns s50 (nI k50)) = (0 : Int32) then (0 : Int32) else (1 : Int32))
theorem M_pass_j70_b (σ : St) (p1 : Int32) (k43 : Nat) (s43 : St) (k50 : Nat) (s50 : St) : M_pass_j70 σ p1 k43 s43 k50 s50 = 0 ∨ M_pass_j70 σ p1 k43 s43 k50 s50 = 1 := by
  unfold M_pass_j70
  (repeat' split) <;> first | exact Or.inl rfl | exact Or.inr rfl
def M_pass_L50 (σ : St) (p1 : Int32) (k43 : Nat) (s43 : St) (K50 : St → Int32) : Nat → Nat → St → Int32
  | 0, _, s50 => K50 s50
  | n50 + 1, k50, s50 => (M_pass_L50 σ p1 k43 s43 K50 n50 (k50 + 1) (sS s50 23 (ix (nI k50)) ((s50 23 (ix (nI k50))) + (M_pass_j70 σ p1 k43 s43 k50 s50))))
def M_pass_L50_s (σ : St) (p1 : Int32) (k43 : Nat) (s43 : St) (K50s : St → St) : Nat → Nat → St → St
  | 0, _, s50 => K50s s50
  | n50 + 1, k50, s50 => (M_pass_L50_s σ p1 k43 s43 K50s n50 (k50 + 1) (sS s50 23 (ix (nI k50)) ((s50 23 (ix (nI k50))) + (M_pass_j70 σ p1 k43 s43 k50 s50))))
def M_pass_L43 (σ : St) (p1 : Int32) (K43 : St → Int32) : Nat → Nat → St → Int32
  | 0, _, s43 => K43 s43
  | n43 + 1, k43, s43 => (M_pass_L50 σ p1 k43 s43 (fun s50 => (M_pass_L43 σ p1 K43 n43 (k43 + 1) (sC s50 0 ((s50 0 0) + (1 : Int32))))) (ix (σ 13 0)) 0 s43)
def M_pass_L43_s (σ : St) (p1 : Int32) (K43s : St → St) : Nat → Nat → St → St
  | 0, _, s43 => K43s s43
  | n43 + 1, k43, s43 => (M_pass_L50_s σ p1 k43 s43 (fun s50 => (M_pass_L43_s σ p1 K43s n43 (k43 + 1) (sC s50 0 ((s50 0 0) + (1 : Int32))))) (ix (σ 13 0)) 0 s43)
def M_pass (σ : St) (p1 : Int32) : Int32 := (if (M_fails σ (M_pass_j9 σ p1)) = (0 : Int32) then (M_pass_L43 σ p1 (fun s43 => (s43 0 0)) (ix p1) 0 (M_fails_s σ (M_pass_j9 σ p1))) else (0 : Int32))
def M_pass_s (σ : St) (p1 : Int32) : St := (if (M_fails σ (M_pass_j9 σ p1)) = (0 : Int32) then (M_pass_L43_s σ p1 (fun s43 => s43) (ix p1) 0 (M_fails_s σ (M_pass_j9 σ p1))) else (M_fails_s σ (M_pass_j9 σ p1)))
theorem ok_pass0 {σ : St} {p1 : Int32} (hI : Inv σ) (c : M_fails σ (M_pass_j9 σ p1) = 0) : vp_in p1 501 ∧ ix (σ 0 0) + ix p1 ≤ 20000 := by
  have h1 : ¬ M_isIn p1 1 500 = 0 := fun q => fz c (by unfold M_pass_j9; simp [q])
  have h2 := isIn_iff.mp h1
  rw [show (1 : Int32).toInt = 1 from rfl, show (500 : Int32).toInt = 500 from rfl] at h2
  have h3 : vp_in p1 501 := vp_in_iff.mpr ⟨by omega, by omega⟩
  refine ⟨h3, ?_⟩
  have h4 : σ 0 0 + p1 ≤ 20000 := Classical.byContradiction fun q => fz c (by unfold M_pass_j9; simp [h1, q])
  obtain ⟨e1, l1⟩ := cnt (N := 20000) (hI 0 0) (by decide)
  obtain ⟨e2, l2⟩ := cnt (N := 500) h3 (by decide)
  rw [e1, e2, nI_add, show (20000 : Int32) = nI 20000 from rfl] at h4
  exact (nI_leI (by omega) (by decide)).mp h4
end
