/-! the state of the valley: columns of numbers, as the reference's fields stand: column k, row i; a number alone is row 0 -/
abbrev St : Type := Nat → Nat → Int32
def sU (σ : St) (k : Nat) (f : Nat → Int32) : St := fun j => cond (Nat.beq j k) f (σ j)
def sS (σ : St) (k i : Nat) (v : Int32) : St := sU σ k (upd (σ k) i v)
def sC (σ : St) (k : Nat) (v : Int32) : St := sU σ k (fun _ => v)
theorem sU_same (σ : St) (k : Nat) (f : Nat → Int32) : sU σ k f k = f := by unfold sU; rw [Nat.beq_refl]; rfl
theorem sU_ne {σ : St} {k j : Nat} {f : Nat → Int32} (h : j ≠ k) : sU σ k f j = σ j := by
  unfold sU
  cases e : Nat.beq j k with
  | true => exact absurd (Nat.eq_of_beq_eq_true e) h
  | false => rfl
abbrev ix (i : Int32) : Nat := i.toNatClampNeg
def mF (ρ : Nat → Nat) (σ : St) : List Value := [.int (σ 0 0), .int (σ 1 0), .ref (ρ 2), .ref (ρ 3), .ref (ρ 4), .ref (ρ 5), .ref (ρ 6), .ref (ρ 7), .int (σ 8 0), .ref (ρ 9), .ref (ρ 10), .ref (ρ 11), .ref (ρ 12), .int (σ 13 0), .ref (ρ 14), .ref (ρ 15), .ref (ρ 16), .ref (ρ 17), .ref (ρ 18), .ref (ρ 19), .ref (ρ 20), .ref (ρ 21), .ref (ρ 22), .ref (ρ 23), .ref (ρ 24), .ref (ρ 25), .int (σ 26 0), .ref (ρ 27), .ref (ρ 28), .ref (ρ 29), .ref (ρ 30), .ref (ρ 31), .ref (ρ 32), .ref (ρ 33), .int (σ 34 0), .int (σ 35 0), .int (σ 36 0), .int (σ 37 0), .ref (ρ 38), .ref (ρ 39), .ref (ρ 40), .int (σ 41 0)]
def mArr : Nat → Bool
  | 2 => true
  | 3 => true
  | 4 => true
  | 5 => true
  | 6 => true
  | 7 => true
  | 9 => true
  | 10 => true
  | 11 => true
  | 12 => true
  | 14 => true
  | 15 => true
  | 16 => true
  | 17 => true
  | 18 => true
  | 19 => true
  | 20 => true
  | 21 => true
  | 22 => true
  | 23 => true
  | 24 => true
  | 25 => true
  | 27 => true
  | 28 => true
  | 29 => true
  | 30 => true
  | 31 => true
  | 32 => true
  | 33 => true
  | 38 => true
  | 39 => true
  | 40 => true
  | _ => false
def mLen : Nat → Nat
  | 2 => 64
  | 3 => 64
  | 4 => 4
  | 5 => 4
  | 6 => 4
  | 7 => 4000
  | 9 => 5
  | 10 => 5
  | 11 => 5
  | 12 => 5
  | 14 => 40
  | 15 => 40
  | 16 => 40
  | 17 => 40
  | 18 => 40
  | 19 => 40
  | 20 => 40
  | 21 => 40
  | 22 => 40
  | 23 => 40
  | 24 => 40
  | 25 => 40
  | 27 => 8
  | 28 => 8
  | 29 => 8
  | 30 => 8
  | 31 => 8
  | 32 => 80
  | 33 => 80
  | 38 => 10
  | 39 => 10
  | 40 => 64
  | _ => 0
def mT : Nat → Nat
  | 2 => 1
  | 7 => 1
  | 22 => 1
  | _ => 0
/-- the reference m holds the state σ; its arrays lie at ρ -/
def RM (ca : Nat → Nat) (h : fH) (m : Nat) (ρ : Nat → Nat) (σ : St) : Prop :=
  h m = some (.inr (12, mF ρ σ)) ∧ (∀ k, mArr k = true → h (ρ k) = some (.inl (ca (mT k), mLen k, .inl (σ k)))) ∧ ∀ k j, mArr k = true → mArr j = true → ρ k = ρ j → k = j
theorem mF_set (ρ : Nat → Nat) (σ : St) {k : Nat} (hk : mArr k = true) (f : Nat → Int32) : mF ρ (sU σ k f) = mF ρ σ := by
  have q : ∀ j, mArr j = false → sU σ k f j = σ j := fun j hj => sU_ne (fun e => by rw [e, hk] at hj; cases hj)
  unfold mF
  rw [q 0 rfl, q 1 rfl, q 8 rfl, q 13 rfl, q 26 rfl, q 34 rfl, q 35 rfl, q 36 rfl, q 37 rfl, q 41 rfl]
theorem RM.setA {ca : Nat → Nat} {h : fH} {m : Nat} {ρ : Nat → Nat} {σ : St} (hR : RM ca h m ρ σ) {k : Nat} (hk : mArr k = true) (f : Nat → Int32) : RM ca (fU h (ρ k) (.inl (ca (mT k), mLen k, .inl f))) m ρ (sU σ k f) := by
  have hne : m ≠ ρ k := fun e => by
    have h1 := hR.1
    rw [e, hR.2.1 k hk] at h1
    cases h1
  refine ⟨?_, fun j hj => ?_, hR.2.2⟩
  · rw [fU_ne hne, mF_set ρ σ hk]
    exact hR.1
  · by_cases e : j = k
    · subst e
      rw [fU_same, sU_same]
    · rw [fU_ne (fun z => e (hR.2.2 j k hj hk z)), sU_ne e]
      exact hR.2.1 j hj
theorem RM.setC {ca : Nat → Nat} {h : fH} {m : Nat} {ρ : Nat → Nat} {σ : St} (hR : RM ca h m ρ σ) {k : Nat} {v : Int32} (hk : mArr k = false) (hs : (mF ρ σ).set k (.int v) = mF ρ (sC σ k v)) : RM ca (fU h m (.inr (12, (mF ρ σ).set k (.int v)))) m ρ (sC σ k v) := by
  refine ⟨?_, fun j hj => ?_, hR.2.2⟩
  · rw [fU_same, hs]
  · have hne : ρ j ≠ m := fun e => by
      have h1 := hR.1
      rw [← e, hR.2.1 j hj] at h1
      cases h1
    rw [fU_ne hne]
    unfold sC
    rw [sU_ne (fun e => by rw [e, hk] at hj; cases hj)]
    exact hR.2.1 j hj
theorem in_Jx4a65c : ∀ w ∈ u_ws RJx4a65c TJx4a65c 3, w ∈ GW := by
  show ∀ w ∈ [u_lay RJx4a65c TJx4a65c 0, u_lay RJx4a65c TJx4a65c 1, u_lay RJx4a65c TJx4a65c 2], w ∈ GW
  exact List.forall_mem_cons.mpr ⟨gw_1_59, List.forall_mem_cons.mpr ⟨gw_1_55, List.forall_mem_cons.mpr ⟨gw_1_57, List.forall_mem_nil _⟩⟩⟩
theorem in_X0 : ∀ w ∈ u_ws RX0 TX0 3, w ∈ GW := by
  show ∀ w ∈ [u_lay RX0 TX0 0, u_lay RX0 TX0 1, u_lay RX0 TX0 2], w ∈ GW
  exact List.forall_mem_cons.mpr ⟨gw_1_108, List.forall_mem_cons.mpr ⟨gw_1_110, List.forall_mem_cons.mpr ⟨gw_1_112, List.forall_mem_nil _⟩⟩⟩
theorem in_X1 : ∀ w ∈ u_ws RX1 TX1 3, w ∈ GW := by
  show ∀ w ∈ [u_lay RX1 TX1 0, u_lay RX1 TX1 1, u_lay RX1 TX1 2], w ∈ GW
  exact List.forall_mem_cons.mpr ⟨gw_1_72, List.forall_mem_cons.mpr ⟨gw_1_74, List.forall_mem_cons.mpr ⟨gw_1_76, List.forall_mem_nil _⟩⟩⟩
theorem in_X10 : ∀ w ∈ u_ws RX10 TX10 11, w ∈ GW := by
  show ∀ w ∈ [u_lay RX10 TX10 0, u_lay RX10 TX10 1, u_lay RX10 TX10 2, u_lay RX10 TX10 3, u_lay RX10 TX10 4, u_lay RX10 TX10 5, u_lay RX10 TX10 6, u_lay RX10 TX10 7, u_lay RX10 TX10 8, u_lay RX10 TX10 9, u_lay RX10 TX10 10], w ∈ GW
  exact List.forall_mem_cons.mpr ⟨gw_2_7, List.forall_mem_cons.mpr ⟨gw_2_9, List.forall_mem_cons.mpr ⟨gw_2_11, List.forall_mem_cons.mpr ⟨gw_2_13, List.forall_mem_cons.mpr ⟨gw_2_15, List.forall_mem_cons.mpr ⟨gw_2_17, List.forall_mem_cons.mpr ⟨gw_2_19, List.forall_mem_cons.mpr ⟨gw_2_21, List.forall_mem_cons.mpr ⟨gw_2_23, List.forall_mem_cons.mpr ⟨gw_2_25, List.forall_mem_cons.mpr ⟨gw_2_27, List.forall_mem_nil _⟩⟩⟩⟩⟩⟩⟩⟩⟩⟩⟩
theorem in_X11 : ∀ w ∈ u_ws RX11 TX11 42, w ∈ GW := by
  show ∀ w ∈ [u_lay RX11 TX11 0, u_lay RX11 TX11 1, u_lay RX11 TX11 2, u_lay RX11 TX11 3, u_lay RX11 TX11 4, u_lay RX11 TX11 5, u_lay RX11 TX11 6, u_lay RX11 TX11 7, u_lay RX11 TX11 8, u_lay RX11 TX11 9, u_lay RX11 TX11 10, u_lay RX11 TX11 11, u_lay RX11 TX11 12, u_lay RX11 TX11 13, u_lay RX11 TX11 14, u_lay RX11 TX11 15, u_lay RX11 TX11 16, u_lay RX11 TX11 17, u_lay RX11 TX11 18, u_lay RX11 TX11 19, u_lay RX11 TX11 20, u_lay RX11 TX11 21, u_lay RX11 TX11 22, u_lay RX11 TX11 23, u_lay RX11 TX11 24, u_lay RX11 TX11 25, u_lay RX11 TX11 26, u_lay RX11 TX11 27, u_lay RX11 TX11 28, u_lay RX11 TX11 29, u_lay RX11 TX11 30, u_lay RX11 TX11 31, u_lay RX11 TX11 32, u_lay RX11 TX11 33, u_lay RX11 TX11 34, u_lay RX11 TX11 35, u_lay RX11 TX11 36, u_lay RX11 TX11 37, u_lay RX11 TX11 38, u_lay RX11 TX11 39, u_lay RX11 TX11 40, u_lay RX11 TX11 41], w ∈ GW
  exact List.forall_mem_cons.mpr ⟨gw_5_52, List.forall_mem_cons.mpr ⟨gw_5_54, List.forall_mem_cons.mpr ⟨gw_5_56, List.forall_mem_cons.mpr ⟨gw_5_58, List.forall_mem_cons.mpr ⟨gw_5_60, List.forall_mem_cons.mpr ⟨gw_5_62, List.forall_mem_cons.mpr ⟨gw_5_64, List.forall_mem_cons.mpr ⟨gw_5_66, List.forall_mem_cons.mpr ⟨gw_5_68, List.forall_mem_cons.mpr ⟨gw_5_70, List.forall_mem_cons.mpr ⟨gw_5_72, List.forall_mem_cons.mpr ⟨gw_5_74, List.forall_mem_cons.mpr ⟨gw_5_76, List.forall_mem_cons.mpr ⟨gw_5_78, List.forall_mem_cons.mpr ⟨gw_5_80, List.forall_mem_cons.mpr ⟨gw_5_82, List.forall_mem_cons.mpr ⟨gw_5_84, List.forall_mem_cons.mpr ⟨gw_5_86, List.forall_mem_cons.mpr ⟨gw_5_88, List.forall_mem_cons.mpr ⟨gw_5_90, List.forall_mem_cons.mpr ⟨gw_5_92, List.forall_mem_cons.mpr ⟨gw_5_94, List.forall_mem_cons.mpr ⟨gw_5_96, List.forall_mem_cons.mpr ⟨gw_5_98, List.forall_mem_cons.mpr ⟨gw_5_100, List.forall_mem_cons.mpr ⟨gw_5_102, List.forall_mem_cons.mpr ⟨gw_5_104, List.forall_mem_cons.mpr ⟨gw_5_106, List.forall_mem_cons.mpr ⟨gw_5_108, List.forall_mem_cons.mpr ⟨gw_5_110, List.forall_mem_cons.mpr ⟨gw_5_112, List.forall_mem_cons.mpr ⟨gw_5_114, List.forall_mem_cons.mpr ⟨gw_5_116, List.forall_mem_cons.mpr ⟨gw_5_118, List.forall_mem_cons.mpr ⟨gw_5_120, List.forall_mem_cons.mpr ⟨gw_5_122, List.forall_mem_cons.mpr ⟨gw_5_124, List.forall_mem_cons.mpr ⟨gw_5_126, List.forall_mem_cons.mpr ⟨gw_5_128, List.forall_mem_cons.mpr ⟨gw_5_130, List.forall_mem_cons.mpr ⟨gw_5_132, List.forall_mem_cons.mpr ⟨gw_5_134, List.forall_mem_nil _⟩⟩⟩⟩⟩⟩⟩⟩⟩⟩⟩⟩⟩⟩⟩⟩⟩⟩⟩⟩⟩⟩⟩⟩⟩⟩⟩⟩⟩⟩⟩⟩⟩⟩⟩⟩⟩⟩⟩⟩⟩⟩
theorem in_X2 : ∀ w ∈ u_ws RX2 TX2 12, w ∈ GW := by
  show ∀ w ∈ [u_lay RX2 TX2 0, u_lay RX2 TX2 1, u_lay RX2 TX2 2, u_lay RX2 TX2 3, u_lay RX2 TX2 4, u_lay RX2 TX2 5, u_lay RX2 TX2 6, u_lay RX2 TX2 7, u_lay RX2 TX2 8, u_lay RX2 TX2 9, u_lay RX2 TX2 10, u_lay RX2 TX2 11], w ∈ GW
  exact List.forall_mem_cons.mpr ⟨gw_3_64, List.forall_mem_cons.mpr ⟨gw_3_66, List.forall_mem_cons.mpr ⟨gw_3_68, List.forall_mem_cons.mpr ⟨gw_3_70, List.forall_mem_cons.mpr ⟨gw_3_72, List.forall_mem_cons.mpr ⟨gw_3_74, List.forall_mem_cons.mpr ⟨gw_3_76, List.forall_mem_cons.mpr ⟨gw_3_78, List.forall_mem_cons.mpr ⟨gw_3_80, List.forall_mem_cons.mpr ⟨gw_3_82, List.forall_mem_cons.mpr ⟨gw_3_84, List.forall_mem_cons.mpr ⟨gw_3_86, List.forall_mem_nil _⟩⟩⟩⟩⟩⟩⟩⟩⟩⟩⟩⟩
theorem in_X3 : ∀ w ∈ u_ws RX3 TX3 5, w ∈ GW := by
  show ∀ w ∈ [u_lay RX3 TX3 0, u_lay RX3 TX3 1, u_lay RX3 TX3 2, u_lay RX3 TX3 3, u_lay RX3 TX3 4], w ∈ GW
  exact List.forall_mem_cons.mpr ⟨gw_3_179, List.forall_mem_cons.mpr ⟨gw_3_181, List.forall_mem_cons.mpr ⟨gw_3_183, List.forall_mem_cons.mpr ⟨gw_3_185, List.forall_mem_cons.mpr ⟨gw_3_187, List.forall_mem_nil _⟩⟩⟩⟩⟩
theorem in_X4 : ∀ w ∈ u_ws RX4 TX4 4, w ∈ GW := by
  show ∀ w ∈ [u_lay RX4 TX4 0, u_lay RX4 TX4 1, u_lay RX4 TX4 2, u_lay RX4 TX4 3], w ∈ GW
  exact List.forall_mem_cons.mpr ⟨gw_1_227, List.forall_mem_cons.mpr ⟨gw_1_229, List.forall_mem_cons.mpr ⟨gw_1_231, List.forall_mem_cons.mpr ⟨gw_1_233, List.forall_mem_nil _⟩⟩⟩⟩
theorem in_X5 : ∀ w ∈ u_ws RX5 TX5 2, w ∈ GW := by
  show ∀ w ∈ [u_lay RX5 TX5 0, u_lay RX5 TX5 1], w ∈ GW
  exact List.forall_mem_cons.mpr ⟨gw_4_21, List.forall_mem_cons.mpr ⟨gw_4_23, List.forall_mem_nil _⟩⟩
theorem in_X6 : ∀ w ∈ u_ws RX6 TX6 2, w ∈ GW := by
  show ∀ w ∈ [u_lay RX6 TX6 0, u_lay RX6 TX6 1], w ∈ GW
  exact List.forall_mem_cons.mpr ⟨gw_4_86, List.forall_mem_cons.mpr ⟨gw_4_88, List.forall_mem_nil _⟩⟩
theorem in_X7 : ∀ w ∈ u_ws RX7 TX7 5, w ∈ GW := by
  show ∀ w ∈ [u_lay RX7 TX7 0, u_lay RX7 TX7 1, u_lay RX7 TX7 2, u_lay RX7 TX7 3, u_lay RX7 TX7 4], w ∈ GW
  exact List.forall_mem_cons.mpr ⟨gw_3_17, List.forall_mem_cons.mpr ⟨gw_3_19, List.forall_mem_cons.mpr ⟨gw_3_21, List.forall_mem_cons.mpr ⟨gw_3_23, List.forall_mem_cons.mpr ⟨gw_3_25, List.forall_mem_nil _⟩⟩⟩⟩⟩
theorem in_X8 : ∀ w ∈ u_ws RX8 TX8 4, w ∈ GW := by
  show ∀ w ∈ [u_lay RX8 TX8 0, u_lay RX8 TX8 1, u_lay RX8 TX8 2, u_lay RX8 TX8 3], w ∈ GW
  exact List.forall_mem_cons.mpr ⟨gw_1_89, List.forall_mem_cons.mpr ⟨gw_1_91, List.forall_mem_cons.mpr ⟨gw_1_93, List.forall_mem_cons.mpr ⟨gw_1_95, List.forall_mem_nil _⟩⟩⟩⟩
theorem in_X9 : ∀ w ∈ u_ws RX9 TX9 6, w ∈ GW := by
  show ∀ w ∈ [u_lay RX9 TX9 0, u_lay RX9 TX9 1, u_lay RX9 TX9 2, u_lay RX9 TX9 3, u_lay RX9 TX9 4, u_lay RX9 TX9 5], w ∈ GW
  exact List.forall_mem_cons.mpr ⟨gw_1_133, List.forall_mem_cons.mpr ⟨gw_1_135, List.forall_mem_cons.mpr ⟨gw_1_137, List.forall_mem_cons.mpr ⟨gw_1_139, List.forall_mem_cons.mpr ⟨gw_1_141, List.forall_mem_cons.mpr ⟨gw_1_143, List.forall_mem_nil _⟩⟩⟩⟩⟩⟩
section JM
variable {K : KT} {mn : String} {cc : ByteArray} {n : Nat} {ret : Option FieldType} {tb : List ExceptionTableEntry} {w0 : Cond} {rm : Room} {h0 : fH} {post : Option Value → fH → Prop} {px : String → fH → Prop}
variable {h : fH} {lv : LV} {st : List Value} {pc cells slots m : Nat} {ρ : Nat → Nat} {σ : St}
theorem JM_get (X : JX K mn RX11 cc n ret tb w0 rm h0 post px) (hR : RM (kca K) h m ρ σ) (k : Nat) {ix : Nat} {v : Value} (hk : k < 42) (hv : (mF ρ σ)[k]? = some v) (hc : (TX11 k).1 = "NightValleyModel") (hl : Cond.fieldLink "NightValleyModel" ix "NightValleyModel" (TX11 k).2.1 (TX11 k).2.2.1 ∈ GW) (d : decode cc pc = .ok (.getfield ix, 3))
    (kk : J K h lv (v :: st) (pc + 3) cells slots) : J K h lv (.ref m :: st) pc cells slots :=
  J_get X (C := RX11) (T := TX11) (N := 42) (ref := "NightValleyModel") hR.1 rfl k hk hv in_X11 hl (fun x z => by rw [hc] at z; exact z) d kk
theorem JM_ald (X : JX K mn RX11 cc n ret tb w0 rm h0 post px) (hR : RM (kca K) h m ρ σ) (k : Nat) {i : Int32} (ha : mArr k = true) (ht : mT k = 0) (hi : vp_in i (mLen k)) (d : decode cc pc = .ok (.iaload, 1)) (kk : J K h lv (.int (σ k (ix i)) :: st) (pc + 1) cells slots) : J K h lv (.int i :: .ref (ρ k) :: st) pc cells slots :=
  J_iald X (by have := hR.2.1 k ha; rw [ht] at this; exact this) hi d kk
theorem JM_zld (X : JX K mn RX11 cc n ret tb w0 rm h0 post px) (hR : RM (kca K) h m ρ σ) (k : Nat) {i : Int32} (ha : mArr k = true) (ht : mT k = 1) (hi : vp_in i (mLen k)) (d : decode cc pc = .ok (.baload, 1)) (kk : J K h lv (.int (σ k (ix i)) :: st) (pc + 1) cells slots) : J K h lv (.int i :: .ref (ρ k) :: st) pc cells slots :=
  J_zald X (by have := hR.2.1 k ha; rw [ht] at this; exact this) hi d kk
theorem JM_ast (X : JX K mn RX11 cc n ret tb w0 rm h0 post px) (hR : RM (kca K) h m ρ σ) (k : Nat) {i x : Int32} (ha : mArr k = true) (ht : mT k = 0) (hi : vp_in i (mLen k)) (d : decode cc pc = .ok (.iastore, 1)) (kk : ∀ h', RM (kca K) h' m ρ (sS σ k (ix i) x) → J K h' lv st (pc + 1) cells slots) : J K h lv (.int x :: .int i :: .ref (ρ k) :: st) pc cells slots :=
  J_iast X (by have := hR.2.1 k ha; rw [ht] at this; exact this) hi d (kk _ (by have := hR.setA ha (upd (σ k) (ix i) x); rw [ht] at this; exact this))
theorem JM_zst (X : JX K mn RX11 cc n ret tb w0 rm h0 post px) (hR : RM (kca K) h m ρ σ) (k : Nat) {i x : Int32} (ha : mArr k = true) (ht : mT k = 1) (hx : x = 0 ∨ x = 1) (hi : vp_in i (mLen k)) (d : decode cc pc = .ok (.bastore, 1)) (kk : ∀ h', RM (kca K) h' m ρ (sS σ k (ix i) x) → J K h' lv st (pc + 1) cells slots) : J K h lv (.int x :: .int i :: .ref (ρ k) :: st) pc cells slots :=
  J_zast X (by have := hR.2.1 k ha; rw [ht] at this; exact this) hx hi d (kk _ (by have := hR.setA ha (upd (σ k) (ix i) x); rw [ht] at this; exact this))
theorem JM_put (X : JX K mn RX11 cc n ret tb w0 rm h0 post px) (hR : RM (kca K) h m ρ σ) (k : Nat) {ix : Nat} {v : Int32} (hk : k < 42) (ha : mArr k = false) (hs : (mF ρ σ).set k (.int v) = mF ρ (sC σ k v)) (hc : (TX11 k).1 = "NightValleyModel") (hfin : (TX11 k).2.2.2 = false) (hn : narrow (tyX11 k) (.int v) = .int v) (hfit : fits (tyX11 k) (.int v) = true)
    (hl : Cond.fieldLink "NightValleyModel" ix "NightValleyModel" (TX11 k).2.1 (TX11 k).2.2.1 ∈ GW) (d : decode cc pc = .ok (.putfield ix, 3)) (kk : ∀ h', RM (kca K) h' m ρ (sC σ k v) → J K h' lv st (pc + 3) cells slots) : J K h lv (.int v :: .ref m :: st) pc cells slots :=
  J_put X (C := RX11) (T := TX11) (N := 42) (ref := "NightValleyModel") hR.1 rfl k hk (by rw [show (mF ρ σ).length = 42 from rfl]; exact hk) in_X11 tyX11 tyX11_ok nmX11 hfin hn hfit hl (fun x z => by rw [hc] at z; exact z) d (kk _ (hR.setC ha hs))
end JM
/-! what a call hands back -/
abbrev pI (F : Int32) (h : fH) : Option Value → fH → Prop := fun v h' => v = some (.int F) ∧ h' = h
abbrev pL (F : Int64) (R : fH → Prop) : Option Value → fH → Prop := fun v h' => v = some (.long F) ∧ R h'
abbrev pIM (F : Int32) (R : fH → Prop) : Option Value → fH → Prop := fun v h' => v = some (.int F) ∧ R h'
abbrev pVM (R : fH → Prop) : Option Value → fH → Prop := fun v h' => v = none ∧ R h'
abbrev pA (q : Nat) (h : fH) : Option Value → fH → Prop := fun v h' => v = some (.ref q) ∧ h' = h
section JPOST
variable {K : KT} {h : fH} {lv : LV} {rest : List Value} {pc cells slots : Nat}
theorem J.pi {F : Int32} (k : J K h lv (.int F :: rest) pc cells slots) : ∀ (v : Option Value) (h' : fH), pI F h v h' → J K h' lv (v.toList ++ rest) pc cells slots := by
  rintro _ _ ⟨rfl, rfl⟩
  exact k
theorem J.pa {q : Nat} (k : J K h lv (.ref q :: rest) pc cells slots) : ∀ (v : Option Value) (h' : fH), pA q h v h' → J K h' lv (v.toList ++ rest) pc cells slots := by
  rintro _ _ ⟨rfl, rfl⟩
  exact k
theorem J.pl {F : Int64} {R : fH → Prop} (k : ∀ h', R h' → J K h' lv (.long F :: rest) pc cells slots) : ∀ (v : Option Value) (h' : fH), pL F R v h' → J K h' lv (v.toList ++ rest) pc cells slots := by
  rintro _ _ ⟨rfl, hr⟩
  exact k _ hr
theorem J.pim {F : Int32} {R : fH → Prop} (k : ∀ h', R h' → J K h' lv (.int F :: rest) pc cells slots) : ∀ (v : Option Value) (h' : fH), pIM F R v h' → J K h' lv (v.toList ++ rest) pc cells slots := by
  rintro _ _ ⟨rfl, hr⟩
  exact k _ hr
theorem J.pvm {R : fH → Prop} (k : ∀ h', R h' → J K h' lv rest pc cells slots) : ∀ (v : Option Value) (h' : fH), pVM R v h' → J K h' lv (v.toList ++ rest) pc cells slots := by
  rintro _ _ ⟨rfl, hr⟩
  exact k _ hr
theorem JE.no : ∀ (E : String) (h' : fH), noX E h' → JE K h' lv rest pc cells slots E := fun _ _ q => q.elim
end JPOST
theorem vp_lt {i : Int32} {N : Nat} (h : vp_in i N) : ix i < N := Nat.not_le.mp fun q => h (Or.inr q)
theorem vp_nI' {i : Int32} {N : Nat} (h : vp_in i N) (hN : N < 2 ^ 31) : i = nI (ix i) := by
  obtain ⟨j, hj, e⟩ := vp_in_of h hN
  subst e
  show nI j = nI (nI j).toNatClampNeg
  rw [nI_clamp (by omega)]
theorem lp_exit {B : Int32} {N k : Nat} (hB : B = nI N) (hN : N < 2 ^ 31) (hk : k + 0 = N) : B ≤ nI k := by
  rw [hB, show k = N by omega]
  exact nI_le (Nat.le_refl _) hN
theorem lp_stay {B : Int32} {N k n : Nat} (hB : B = nI N) (hN : N < 2 ^ 31) (hk : k + (n + 1) = N) : ¬ B ≤ nI k := by
  rw [hB]
  exact nI_ge (by omega) hN
