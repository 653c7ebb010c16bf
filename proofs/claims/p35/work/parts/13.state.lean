/-! the state of the valley: columns of numbers, as the reference's fields stand: column k, row i; a number alone is row 0 -/
abbrev St : Type := Nat → Nat → Int32
def sU (σ : St) (k : Nat) (f : Nat → Int32) : St := fun j => cond (Nat.beq j k) f (σ j)
def sS (σ : St) (k i : Nat) (v : Int32) : St := sU σ k (upd (σ k) i v)
def sC (σ : St) (k : Nat) (v : Int32) : St := sU σ k (fun _ => v)
theorem sU_same (σ : St) (k : Nat) (f : Nat → Int32) : sU σ k f k = f := by unfold sU; rw [Nat.beq_refl]; rfl
theorem sU_ne {σ : St} {k j : Nat} {f : Nat → Int32} (h : j ≠ k) : sU σ k f j = σ j := by
  unfold sU
  cases e : Nat.beq j k with
  | true => exact absurd (Nat.eq_of_beq_eq_true e) h
  | false => rfl
abbrev ix (i : Int32) : Nat := i.toNatClampNeg
theorem in_Jx4a65c : ∀ w ∈ u_ws RJx4a65c TJx4a65c 3, w ∈ GW := by
  show ∀ w ∈ [u_lay RJx4a65c TJx4a65c 0, u_lay RJx4a65c TJx4a65c 1, u_lay RJx4a65c TJx4a65c 2], w ∈ GW
  exact List.forall_mem_cons.mpr ⟨gw_1_57, List.forall_mem_cons.mpr ⟨gw_1_53, List.forall_mem_cons.mpr ⟨gw_1_55, List.forall_mem_nil _⟩⟩⟩
theorem in_X0 : ∀ w ∈ u_ws RX0 TX0 3, w ∈ GW := by
  show ∀ w ∈ [u_lay RX0 TX0 0, u_lay RX0 TX0 1, u_lay RX0 TX0 2], w ∈ GW
  exact List.forall_mem_cons.mpr ⟨gw_1_106, List.forall_mem_cons.mpr ⟨gw_1_108, List.forall_mem_cons.mpr ⟨gw_1_110, List.forall_mem_nil _⟩⟩⟩
theorem in_X1 : ∀ w ∈ u_ws RX1 TX1 3, w ∈ GW := by
  show ∀ w ∈ [u_lay RX1 TX1 0, u_lay RX1 TX1 1, u_lay RX1 TX1 2], w ∈ GW
  exact List.forall_mem_cons.mpr ⟨gw_1_70, List.forall_mem_cons.mpr ⟨gw_1_72, List.forall_mem_cons.mpr ⟨gw_1_74, List.forall_mem_nil _⟩⟩⟩
theorem in_X10 : ∀ w ∈ u_ws RX10 TX10 11, w ∈ GW := by
  show ∀ w ∈ [u_lay RX10 TX10 0, u_lay RX10 TX10 1, u_lay RX10 TX10 2, u_lay RX10 TX10 3, u_lay RX10 TX10 4, u_lay RX10 TX10 5, u_lay RX10 TX10 6, u_lay RX10 TX10 7, u_lay RX10 TX10 8, u_lay RX10 TX10 9, u_lay RX10 TX10 10], w ∈ GW
  exact List.forall_mem_cons.mpr ⟨gw_2_3, List.forall_mem_cons.mpr ⟨gw_2_5, List.forall_mem_cons.mpr ⟨gw_2_7, List.forall_mem_cons.mpr ⟨gw_2_9, List.forall_mem_cons.mpr ⟨gw_2_11, List.forall_mem_cons.mpr ⟨gw_2_13, List.forall_mem_cons.mpr ⟨gw_2_15, List.forall_mem_cons.mpr ⟨gw_2_17, List.forall_mem_cons.mpr ⟨gw_2_19, List.forall_mem_cons.mpr ⟨gw_2_21, List.forall_mem_cons.mpr ⟨gw_2_23, List.forall_mem_nil _⟩⟩⟩⟩⟩⟩⟩⟩⟩⟩⟩
theorem in_X2 : ∀ w ∈ u_ws RX2 TX2 12, w ∈ GW := by
  show ∀ w ∈ [u_lay RX2 TX2 0, u_lay RX2 TX2 1, u_lay RX2 TX2 2, u_lay RX2 TX2 3, u_lay RX2 TX2 4, u_lay RX2 TX2 5, u_lay RX2 TX2 6, u_lay RX2 TX2 7, u_lay RX2 TX2 8, u_lay RX2 TX2 9, u_lay RX2 TX2 10, u_lay RX2 TX2 11], w ∈ GW
  exact List.forall_mem_cons.mpr ⟨gw_3_76, List.forall_mem_cons.mpr ⟨gw_3_78, List.forall_mem_cons.mpr ⟨gw_3_80, List.forall_mem_cons.mpr ⟨gw_3_82, List.forall_mem_cons.mpr ⟨gw_3_84, List.forall_mem_cons.mpr ⟨gw_3_86, List.forall_mem_cons.mpr ⟨gw_3_88, List.forall_mem_cons.mpr ⟨gw_3_90, List.forall_mem_cons.mpr ⟨gw_3_92, List.forall_mem_cons.mpr ⟨gw_3_94, List.forall_mem_cons.mpr ⟨gw_3_96, List.forall_mem_cons.mpr ⟨gw_3_98, List.forall_mem_nil _⟩⟩⟩⟩⟩⟩⟩⟩⟩⟩⟩⟩
theorem in_X3 : ∀ w ∈ u_ws RX3 TX3 5, w ∈ GW := by
  show ∀ w ∈ [u_lay RX3 TX3 0, u_lay RX3 TX3 1, u_lay RX3 TX3 2, u_lay RX3 TX3 3, u_lay RX3 TX3 4], w ∈ GW
  exact List.forall_mem_cons.mpr ⟨gw_3_171, List.forall_mem_cons.mpr ⟨gw_3_173, List.forall_mem_cons.mpr ⟨gw_3_175, List.forall_mem_cons.mpr ⟨gw_3_177, List.forall_mem_cons.mpr ⟨gw_3_179, List.forall_mem_nil _⟩⟩⟩⟩⟩
theorem in_X4 : ∀ w ∈ u_ws RX4 TX4 4, w ∈ GW := by
  show ∀ w ∈ [u_lay RX4 TX4 0, u_lay RX4 TX4 1, u_lay RX4 TX4 2, u_lay RX4 TX4 3], w ∈ GW
  exact List.forall_mem_cons.mpr ⟨gw_1_223, List.forall_mem_cons.mpr ⟨gw_1_225, List.forall_mem_cons.mpr ⟨gw_1_227, List.forall_mem_cons.mpr ⟨gw_1_229, List.forall_mem_nil _⟩⟩⟩⟩
theorem in_X5 : ∀ w ∈ u_ws RX5 TX5 2, w ∈ GW := by
  show ∀ w ∈ [u_lay RX5 TX5 0, u_lay RX5 TX5 1], w ∈ GW
  exact List.forall_mem_cons.mpr ⟨gw_3_213, List.forall_mem_cons.mpr ⟨gw_3_215, List.forall_mem_nil _⟩⟩
theorem in_X7 : ∀ w ∈ u_ws RX7 TX7 5, w ∈ GW := by
  show ∀ w ∈ [u_lay RX7 TX7 0, u_lay RX7 TX7 1, u_lay RX7 TX7 2, u_lay RX7 TX7 3, u_lay RX7 TX7 4], w ∈ GW
  exact List.forall_mem_cons.mpr ⟨gw_3_32, List.forall_mem_cons.mpr ⟨gw_3_34, List.forall_mem_cons.mpr ⟨gw_3_36, List.forall_mem_cons.mpr ⟨gw_3_38, List.forall_mem_cons.mpr ⟨gw_3_40, List.forall_mem_nil _⟩⟩⟩⟩⟩
theorem in_X8 : ∀ w ∈ u_ws RX8 TX8 4, w ∈ GW := by
  show ∀ w ∈ [u_lay RX8 TX8 0, u_lay RX8 TX8 1, u_lay RX8 TX8 2, u_lay RX8 TX8 3], w ∈ GW
  exact List.forall_mem_cons.mpr ⟨gw_1_87, List.forall_mem_cons.mpr ⟨gw_1_89, List.forall_mem_cons.mpr ⟨gw_1_91, List.forall_mem_cons.mpr ⟨gw_1_93, List.forall_mem_nil _⟩⟩⟩⟩
theorem in_X9 : ∀ w ∈ u_ws RX9 TX9 6, w ∈ GW := by
  show ∀ w ∈ [u_lay RX9 TX9 0, u_lay RX9 TX9 1, u_lay RX9 TX9 2, u_lay RX9 TX9 3, u_lay RX9 TX9 4, u_lay RX9 TX9 5], w ∈ GW
  exact List.forall_mem_cons.mpr ⟨gw_1_131, List.forall_mem_cons.mpr ⟨gw_1_133, List.forall_mem_cons.mpr ⟨gw_1_135, List.forall_mem_cons.mpr ⟨gw_1_137, List.forall_mem_cons.mpr ⟨gw_1_139, List.forall_mem_cons.mpr ⟨gw_1_141, List.forall_mem_nil _⟩⟩⟩⟩⟩⟩
/-! what a call hands back -/
abbrev pI (F : Int32) (h : fH) : Option Value → fH → Prop := fun v h' => v = some (.int F) ∧ h' = h
abbrev pL (F : Int64) (R : fH → Prop) : Option Value → fH → Prop := fun v h' => v = some (.long F) ∧ R h'
abbrev pIM (F : Int32) (R : fH → Prop) : Option Value → fH → Prop := fun v h' => v = some (.int F) ∧ R h'
abbrev pVM (R : fH → Prop) : Option Value → fH → Prop := fun v h' => v = none ∧ R h'
abbrev pA (q : Nat) (h : fH) : Option Value → fH → Prop := fun v h' => v = some (.ref q) ∧ h' = h
section JPOST
variable {K : KT} {h : fH} {lv : LV} {rest : List Value} {pc cells slots : Nat}
theorem J.pi {F : Int32} (k : J K h lv (.int F :: rest) pc cells slots) : ∀ (v : Option Value) (h' : fH), pI F h v h' → J K h' lv (v.toList ++ rest) pc cells slots := by
  rintro _ _ ⟨rfl, rfl⟩
  exact k
theorem J.pa {q : Nat} (k : J K h lv (.ref q :: rest) pc cells slots) : ∀ (v : Option Value) (h' : fH), pA q h v h' → J K h' lv (v.toList ++ rest) pc cells slots := by
  rintro _ _ ⟨rfl, rfl⟩
  exact k
theorem J.pl {F : Int64} {R : fH → Prop} (k : ∀ h', R h' → J K h' lv (.long F :: rest) pc cells slots) : ∀ (v : Option Value) (h' : fH), pL F R v h' → J K h' lv (v.toList ++ rest) pc cells slots := by
  rintro _ _ ⟨rfl, hr⟩
  exact k _ hr
theorem J.pim {F : Int32} {R : fH → Prop} (k : ∀ h', R h' → J K h' lv (.int F :: rest) pc cells slots) : ∀ (v : Option Value) (h' : fH), pIM F R v h' → J K h' lv (v.toList ++ rest) pc cells slots := by
  rintro _ _ ⟨rfl, hr⟩
  exact k _ hr
theorem J.pvm {R : fH → Prop} (k : ∀ h', R h' → J K h' lv rest pc cells slots) : ∀ (v : Option Value) (h' : fH), pVM R v h' → J K h' lv (v.toList ++ rest) pc cells slots := by
  rintro _ _ ⟨rfl, hr⟩
  exact k _ hr
theorem JE.no : ∀ (E : String) (h' : fH), noX E h' → JE K h' lv rest pc cells slots E := fun _ _ q => q.elim
end JPOST
theorem vp_lt {i : Int32} {N : Nat} (h : vp_in i N) : ix i < N := Nat.not_le.mp fun q => h (Or.inr q)
theorem vp_nI' {i : Int32} {N : Nat} (h : vp_in i N) (hN : N < 2 ^ 31) : i = nI (ix i) := by
  obtain ⟨j, hj, e⟩ := vp_in_of h hN
  subst e
  show nI j = nI (nI j).toNatClampNeg
  rw [nI_clamp (by omega)]
theorem lp_exit {B : Int32} {N k : Nat} (hB : B = nI N) (hN : N < 2 ^ 31) (hk : k + 0 = N) : B ≤ nI k := by
  rw [hB, show k = N by omega]
  exact nI_le (Nat.le_refl _) hN
theorem lp_stay {B : Int32} {N k n : Nat} (hB : B = nI N) (hN : N < 2 ^ 31) (hk : k + (n + 1) = N) : ¬ B ≤ nI k := by
  rw [hB]
  exact nI_ge (by omega) hN
