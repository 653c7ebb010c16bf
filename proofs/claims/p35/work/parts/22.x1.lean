noncomputable section
section JXR
variable {K : KT} {mn own : String} {cc : ByteArray} {n : Nat} {ret : Option FieldType} {tb : List ExceptionTableEntry} {w0 : Cond} {rm : Room} {h0 : fH} {post : Option Value → fH → Prop} {px : String → fH → Prop}
variable {h : fH} {lv : LV} {st : List Value} {pc cells slots : Nat} {ρ : Nat → Nat → Nat} {μ : Nat → Nat → Int32} {cap : Nat → Nat} {σ : St}
theorem JX_fld (X : JX K mn own cc n ret tb w0 rm h0 post px) (hR : RX (kca K) h ρ μ cap σ) {z : Nat} (hz : z < 4) {i : Int32} (hi : vp_in i 1000) (d : decode cc pc = .ok (.baload, 1)) (kk : J K h lv (.int (σ 7 (1000 * z + ix i)) :: st) (pc + 1) cells slots) : J K h lv (.int i :: .ref (ρ 7 z) :: st) pc cells slots :=
  J_zald X (hR.feasts hz) hi d (by rw [show xF σ z i.toNatClampNeg = σ 7 (1000 * z + ix i) from if_pos (vp_lt hi)]; exact kk)
end JXR
def X_isNight_j3 (p1 : Int32) : Int32 := (if (18 : Int32) ≤ p1 then (1 : Int32) else (if (6 : Int32) ≤ p1 then (0 : Int32) else (1 : Int32)))
theorem X_isNight_j3_b (p1 : Int32) : X_isNight_j3 p1 = 0 ∨ X_isNight_j3 p1 = 1 := by
  unfold X_isNight_j3
  (repeat' split) <;> first | exact Or.inl rfl | exact Or.inr rfl
def X_isNight (p1 : Int32) : Int32 := (X_isNight_j3 p1)
theorem X_isNight_b (p1 : Int32) : (X_isNight p1) = 0 ∨ (X_isNight p1) = 1 := by
  unfold X_isNight
  (repeat' split) <;> first | exact Or.inl rfl | exact Or.inr rfl | exact X_isNight_j3_b ..
theorem cw_X10_isNight : Cond.static yX10_isNight ∈ GW ∧ Cond.initialized yX10_isNight.cls ∈ GW ∧ Cond.code yX10_isNight cX10_isNight 1 (some .boolean) ∈ GW ∧ (yX10_isNight.cls ≠ "java/lang/invoke/MethodHandle" ∧ yX10_isNight.cls ≠ "java/lang/invoke/VarHandle") ∧ (parseMethodDescriptor yX10_isNight.desc).map (fun d => d.parameters.length) = some 1 := ⟨gw_3_198, gw_1_1, gw_3_199, ⟨by decide, by decide⟩, by decide +kernel⟩
set_option maxRecDepth 100000 in
set_option maxHeartbeats 4000000 in
theorem c_X_isNight {l : Launch} {D : va_G} {ca : Nat → Nat} {h : fH} (p1 : Int32) : FM l D ca yX10_isNight (.code yX10_isNight cX10_isNight 1 (some .boolean)) { frames := 1, cells := 0, slots := 0, locals := 20 } [.int p1] h (pI (X_isNight p1) h) noX := by
  refine FM.of [some (.int p1)] (by decide) (Nat.le_of_ble_eq_true rfl) rfl ?_
  rintro K X rfl rfl rfl
  have q_v : (X_isNight p1) = (X_isNight_j3 p1) := rfl
  refine J_iload_0 X dX10_isNight_0 ?_
  refine J_bipush (v := (18 : Int32)) X dX10_isNight_1 (by decide) ?_
  have K3_17 : ∀ (v3_0 : Int32), v3_0 = (X_isNight_j3 p1) → J K h [some (.int p1)] [.int v3_0] 17 0 0 := by
    intro v3_0 ev3_0
    try rw [ev3_0]
    clear ev3_0
    exact J_zret X rfl (X_isNight_j3_b ..) rfl ⟨by rw [q_v], rfl⟩ dX10_isNight_17
  have j3_0 : X_isNight_j3 p1 = (if (18 : Int32) ≤ p1 then (1 : Int32) else (if (6 : Int32) ≤ p1 then (0 : Int32) else (1 : Int32))) := rfl
  refine J_icmp_ge (tgt := 12) X dX10_isNight_3 (by decide) (fun c3 => ?_) (fun c3 => ?_)
  · skip
    rw [if_pos c3] at j3_0
    refine J_iconst (v := 1) X dX10_isNight_12 rfl ?_
    refine J_goto (tgt := 17) X dX10_isNight_13 (by decide) ?_
    exact K3_17 _ j3_0.symm
  · skip
    rw [if_neg c3] at j3_0
    refine J_iload_0 X dX10_isNight_6 ?_
    refine J_bipush (v := (6 : Int32)) X dX10_isNight_7 (by decide) ?_
    refine J_icmp_ge (tgt := 16) X dX10_isNight_9 (by decide) (fun c9 => ?_) (fun c9 => ?_)
    · skip
      rw [if_pos c9] at j3_0
      refine J_iconst (v := 0) X dX10_isNight_16 rfl ?_
      exact K3_17 _ j3_0.symm
    · skip
      rw [if_neg c9] at j3_0
      refine J_iconst (v := 1) X dX10_isNight_12 rfl ?_
      refine J_goto (tgt := 17) X dX10_isNight_13 (by decide) ?_
      exact K3_17 _ j3_0.symm
def X_moonAt_j15 (p1 : Int32) : Int32 := (if (X_isNight (p1 - p1 / (24 : Int32) * (24 : Int32))) = (0 : Int32) then (0 : Int32) else ((4 : Int32) * ((15 : Int32) - (iAbs ((15 : Int32) - ((p1 / (24 : Int32)) - (p1 / (24 : Int32)) / (30 : Int32) * (30 : Int32)))))))
def X_moonAt (p1 : Int32) : Int32 := (X_moonAt_j15 p1)
theorem cw_X10_moonAt : Cond.static yX10_moonAt ∈ GW ∧ Cond.initialized yX10_moonAt.cls ∈ GW ∧ Cond.code yX10_moonAt cX10_moonAt 2 (some .int) ∈ GW ∧ (yX10_moonAt.cls ≠ "java/lang/invoke/MethodHandle" ∧ yX10_moonAt.cls ≠ "java/lang/invoke/VarHandle") ∧ (parseMethodDescriptor yX10_moonAt.desc).map (fun d => d.parameters.length) = some 1 := ⟨gw_3_195, gw_1_1, gw_3_196, ⟨by decide, by decide⟩, by decide +kernel⟩
set_option maxRecDepth 100000 in
set_option maxHeartbeats 4000000 in
theorem c_X_moonAt {l : Launch} {D : va_G} {ca : Nat → Nat} {h : fH} (p1 : Int32) : FM l D ca yX10_moonAt (.code yX10_moonAt cX10_moonAt 2 (some .int)) { frames := 2, cells := 0, slots := 0, locals := 40 } [.int p1] h (pI (X_moonAt p1) h) noX := by
  refine FM.of [some (.int p1), none] (by decide) (Nat.le_of_ble_eq_true rfl) rfl ?_
  rintro K X rfl rfl rfl
  have q_v : (X_moonAt p1) = (X_moonAt_j15 p1) := rfl
  refine J_iload_0 X dX10_moonAt_0 ?_
  refine J_bipush (v := (24 : Int32)) X dX10_moonAt_1 (by decide) ?_
  refine J_idiv X dX10_moonAt_3 (by decide) ?_
  refine J_bipush (v := (30 : Int32)) X dX10_moonAt_4 (by decide) ?_
  refine J_irem X dX10_moonAt_6 (by decide) ?_
  refine J_istore_1 X dX10_moonAt_7 rfl (by decide) ?_
  refine J_iload_0 X dX10_moonAt_8 ?_
  refine J_bipush (v := (24 : Int32)) X dX10_moonAt_9 (by decide) ?_
  refine J_irem X dX10_moonAt_11 (by decide) ?_
  refine J_callS X (c_X_isNight (p1 - p1 / (24 : Int32) * (24 : Int32))) (And.intro gw_3_197 cw_X10_isNight) rfl rfl (Nat.le_of_ble_eq_true rfl) dX10_moonAt_12 rfl (J.pi ?_) JE.no
  have K15_34 : ∀ (v15_0 : Int32), v15_0 = (X_moonAt_j15 p1) → J K h [some (.int p1), some (.int ((p1 / (24 : Int32)) - (p1 / (24 : Int32)) / (30 : Int32) * (30 : Int32)))] [.int v15_0] 34 0 0 := by
    intro v15_0 ev15_0
    try rw [ev15_0]
    clear ev15_0
    exact J_iret X rfl rfl ⟨by rw [q_v], rfl⟩ dX10_moonAt_34
  have j15_0 : X_moonAt_j15 p1 = (if (X_isNight (p1 - p1 / (24 : Int32) * (24 : Int32))) = (0 : Int32) then (0 : Int32) else ((4 : Int32) * ((15 : Int32) - (iAbs ((15 : Int32) - ((p1 / (24 : Int32)) - (p1 / (24 : Int32)) / (30 : Int32) * (30 : Int32))))))) := rfl
  refine J_if_eq (tgt := 33) X dX10_moonAt_15 (by decide) (fun c15 => ?_) (fun c15 => ?_)
  · skip
    rw [if_pos c15] at j15_0
    refine J_iconst (v := 0) X dX10_moonAt_33 rfl ?_
    exact K15_34 _ j15_0.symm
  · skip
    rw [if_neg c15] at j15_0
    refine J_iconst (v := 4) X dX10_moonAt_18 rfl ?_
    refine J_bipush (v := (15 : Int32)) X dX10_moonAt_19 (by decide) ?_
    refine J_bipush (v := (15 : Int32)) X dX10_moonAt_21 (by decide) ?_
    refine J_iload_1 X dX10_moonAt_23 ?_
    refine J_isub X dX10_moonAt_24 ?_
    refine J_mabs X gw_3_200 gw_2_166 gw_1_10 gw_2_167 rfl rfl dX10_moonAt_25 ?_
    refine J_isub X dX10_moonAt_28 ?_
    refine J_imul X dX10_moonAt_29 ?_
    refine J_goto (tgt := 34) X dX10_moonAt_30 (by decide) ?_
    exact K15_34 _ j15_0.symm
theorem gt0 {x : Int32} (h : ¬ x ≤ 0) : ¬ x = 0 := fun z => h (by rw [z]; decide)
theorem vp_c {v : Int32} {N : Nat} (h0 : ¬ v < 0) (h1 : ¬ nI N ≤ v) (hN : N < 2 ^ 31) : vp_in v N := by
  rcases pk_ix v hN with h | h | ⟨j, hj, e⟩
  · exact absurd h h0
  · exact absurd h h1
  · rw [e]; exact vp_in_nI hj hN
theorem iMin_nI {a b : Nat} (ha : a < 1000) (hb : b < 1000) : iMin (nI a) (nI b) = nI (min a b) := by
  unfold iMin
  by_cases h : b < a
  · rw [if_pos (nI_lt h (by omega)), Nat.min_eq_right (by omega)]
  · rw [if_neg (nI_nlt (by omega) (by omega)), Nat.min_eq_left (by omega)]
theorem iMax_nI {a b : Nat} (ha : a < 1000) (hb : b < 1000) : iMax (nI a) (nI b) = nI (max a b) := by
  unfold iMax
  by_cases h : a < b
  · rw [if_pos (nI_lt h (by omega)), Nat.max_eq_right (by omega)]
  · rw [if_neg (nI_nlt (by omega) (by omega)), Nat.max_eq_left (by omega)]
theorem ixn {a : Nat} (h : a < 2 ^ 31) : ix (nI a) = a := nI_clamp h
theorem mn8 {a b : Nat} (ha : a < 8) (hb : b < 8) : iMin (nI a) (nI b) = nI (ix (iMin (nI a) (nI b))) ∧ ix (iMin (nI a) (nI b)) < 8 := by
  rw [iMin_nI (by omega) (by omega), ixn (by omega)]
  exact ⟨rfl, by omega⟩
theorem mx8 {a b : Nat} (ha : a < 8) (hb : b < 8) : iMax (nI a) (nI b) = nI (ix (iMax (nI a) (nI b))) ∧ ix (iMax (nI a) (nI b)) < 8 ∧ ix (iMin (nI a) (nI b)) ≤ ix (iMax (nI a) (nI b)) := by
  rw [iMax_nI (by omega) (by omega), ixn (by omega), iMin_nI (by omega) (by omega), ixn (by omega)]
  exact ⟨rfl, by omega, by omega⟩
theorem lpg_exit {B : Int32} {k : Nat} (hB : B = nI (ix B)) (hN : ix B < 1000) (hk : k + 0 = ix B + 1) : B < nI k := by
  rw [hB]
  exact nI_lt (by omega) (by omega)
theorem lpg_stay {B : Int32} {k n : Nat} (hB : B = nI (ix B)) (hN : ix B < 1000) (hk : k + (n + 1) = ix B + 1) : ¬ B < nI k := by
  rw [hB]
  exact nI_nlt (by omega) (by omega)
theorem rdin {σ : St} {m : Nat} {v : Int32} (hm : m < ix (σ 26 0)) (h : vp_in v (ix (σ 31 m))) (h10 : ix (σ 31 m) ≤ 10) : (10 * m + ix v) / 10 < ix (σ 26 0) ∧ (10 * m + ix v) % 10 < ix (σ 31 ((10 * m + ix v) / 10)) := by
  have h1 := vp_lt h
  have e1 : (10 * m + ix v) / 10 = m := by omega
  have e2 : (10 * m + ix v) % 10 = ix v := by omega
  rw [e1, e2]
  exact ⟨hm, h1⟩
def X_weakened_j11 (p1 : Int32) (p2 : Int32) (p3 : Int32) : Int32 := (if (((1 : Int32) + (p2 * p2)) + (p3 * p3)) ≤ (0 : Int32) then (0 : Int32) else (p1 / (((1 : Int32) + (p2 * p2)) + (p3 * p3))))
def X_weakened (p1 : Int32) (p2 : Int32) (p3 : Int32) : Int32 := (X_weakened_j11 p1 p2 p3)
theorem cw_X10_weakened : Cond.static yX10_weakened ∈ GW ∧ Cond.initialized yX10_weakened.cls ∈ GW ∧ Cond.code yX10_weakened cX10_weakened 4 (some .int) ∈ GW ∧ (yX10_weakened.cls ≠ "java/lang/invoke/MethodHandle" ∧ yX10_weakened.cls ≠ "java/lang/invoke/VarHandle") ∧ (parseMethodDescriptor yX10_weakened.desc).map (fun d => d.parameters.length) = some 3 := ⟨gw_2_149, gw_1_1, gw_2_150, ⟨by decide, by decide⟩, by decide +kernel⟩
set_option maxRecDepth 100000 in
set_option maxHeartbeats 4000000 in
theorem c_X_weakened {l : Launch} {D : va_G} {ca : Nat → Nat} {h : fH} (p1 : Int32) (p2 : Int32) (p3 : Int32) : FM l D ca yX10_weakened (.code yX10_weakened cX10_weakened 4 (some .int)) { frames := 1, cells := 0, slots := 0, locals := 20 } [.int p1, .int p2, .int p3] h (pI (X_weakened p1 p2 p3) h) noX := by
  refine FM.of [some (.int p1), some (.int p2), some (.int p3), none] (by decide) (Nat.le_of_ble_eq_true rfl) rfl ?_
  rintro K X rfl rfl rfl
  have q_v : (X_weakened p1 p2 p3) = (X_weakened_j11 p1 p2 p3) := rfl
  refine J_iconst (v := 1) X dX10_weakened_0 rfl ?_
  refine J_iload_1 X dX10_weakened_1 ?_
  refine J_iload_1 X dX10_weakened_2 ?_
  refine J_imul X dX10_weakened_3 ?_
  refine J_iadd X dX10_weakened_4 ?_
  refine J_iload_2 X dX10_weakened_5 ?_
  refine J_iload_2 X dX10_weakened_6 ?_
  refine J_imul X dX10_weakened_7 ?_
  refine J_iadd X dX10_weakened_8 ?_
  refine J_istore_3 X dX10_weakened_9 rfl (by decide) ?_
  refine J_iload_3 X dX10_weakened_10 ?_
  have K11_21 : ∀ (v11_0 : Int32), v11_0 = (X_weakened_j11 p1 p2 p3) → J K h [some (.int p1), some (.int p2), some (.int p3), some (.int (((1 : Int32) + (p2 * p2)) + (p3 * p3)))] [.int v11_0] 21 0 0 := by
    intro v11_0 ev11_0
    try rw [ev11_0]
    clear ev11_0
    exact J_iret X rfl rfl ⟨by rw [q_v], rfl⟩ dX10_weakened_21
  have j11_0 : X_weakened_j11 p1 p2 p3 = (if (((1 : Int32) + (p2 * p2)) + (p3 * p3)) ≤ (0 : Int32) then (0 : Int32) else (p1 / (((1 : Int32) + (p2 * p2)) + (p3 * p3)))) := rfl
  refine J_if_le (tgt := 20) X dX10_weakened_11 (by decide) (fun c11 => ?_) (fun c11 => ?_)
  · skip
    rw [if_pos c11] at j11_0
    refine J_iconst (v := 0) X dX10_weakened_20 rfl ?_
    exact K11_21 _ j11_0.symm
  · skip
    rw [if_neg c11] at j11_0
    refine J_iload_0 X dX10_weakened_14 ?_
    refine J_iload_3 X dX10_weakened_15 ?_
    refine J_idiv X dX10_weakened_16 (gt0 c11) ?_
    refine J_goto (tgt := 21) X dX10_weakened_17 (by decide) ?_
    exact K11_21 _ j11_0.symm
def X_airFactor_j15 (σ : St) : Int32 := (if (σ 1 0) = (1 : Int32) then (2 : Int32) else (1 : Int32))
def X_airFactor (σ : St) : Int32 := (if (σ 1 0) = (2 : Int32) then (5 : Int32) else (X_airFactor_j15 σ))
theorem cw_X10_airFactor : Cond.instanceMethod yX10_airFactor ∈ GW ∧ Cond.selects RX10 yX10_airFactor yX10_airFactor ∈ GW ∧ Cond.initialized RX10 ∈ GW ∧ Cond.code yX10_airFactor cX10_airFactor 1 (some .int) ∈ GW ∧ yX10_airFactor.cls = RX10 ∧ (yX10_airFactor.cls ≠ "java/lang/invoke/MethodHandle" ∧ yX10_airFactor.cls ≠ "java/lang/invoke/VarHandle") ∧ (parseMethodDescriptor yX10_airFactor.desc).map (fun d => d.parameters.length) = some 0 := ⟨gw_2_171, gws_9, gw_1_1, gw_2_172, rfl, ⟨by decide, by decide⟩, by decide +kernel⟩
set_option maxRecDepth 100000 in
set_option maxHeartbeats 4000000 in
theorem c_X_airFactor {l : Launch} {D : va_G} {ca : Nat → Nat} {h : fH} {ρ : Nat → Nat → Nat} {μ : Nat → Nat → Int32} {cap : Nat → Nat} {σ : St} (hR : RX ca h ρ μ cap σ) : FM l D ca yX10_airFactor (.code yX10_airFactor cX10_airFactor 1 (some .int)) { frames := 1, cells := 0, slots := 0, locals := 20 } [.ref (ρ 0 0)] h (pI (X_airFactor σ) h) noX := by
  refine FM.of [some (.ref (ρ 0 0))] (by decide) (Nat.le_of_ble_eq_true rfl) rfl ?_
  rintro K X rfl rfl rfl
  have q_v : (X_airFactor σ) = (if (σ 1 0) = (2 : Int32) then (5 : Int32) else (X_airFactor_j15 σ)) := rfl
  refine J_aload_0 X dX10_airFactor_0 ?_
  refine J_get X (C := RX10) (T := TX10) (N := 11) (ref := "NightValley") hR.root rfl 10 (by decide) rfl in_X10 gw_2_2 (fun _ z => z) dX10_airFactor_1 ?_
  refine J_iconst (v := 2) X dX10_airFactor_4 rfl ?_
  refine J_icmp_ne (tgt := 10) X dX10_airFactor_5 (by decide) (fun c5 => ?_) (fun c5 => ?_)
  · skip
    rw [if_neg c5] at q_v
    refine J_aload_0 X dX10_airFactor_10 ?_
    refine J_get X (C := RX10) (T := TX10) (N := 11) (ref := "NightValley") hR.root rfl 10 (by decide) rfl in_X10 gw_2_2 (fun _ z => z) dX10_airFactor_11 ?_
    refine J_iconst (v := 1) X dX10_airFactor_14 rfl ?_
    have K15_23 : ∀ (v15_0 : Int32), v15_0 = (X_airFactor_j15 σ) → J K h [some (.ref (ρ 0 0))] [.int v15_0] 23 0 0 := by
      intro v15_0 ev15_0
      try rw [ev15_0]
      clear ev15_0
      exact J_iret X rfl rfl ⟨by rw [q_v], rfl⟩ dX10_airFactor_23
    have j15_0 : X_airFactor_j15 σ = (if (σ 1 0) = (1 : Int32) then (2 : Int32) else (1 : Int32)) := rfl
    refine J_icmp_ne (tgt := 22) X dX10_airFactor_15 (by decide) (fun c15 => ?_) (fun c15 => ?_)
    · skip
      rw [if_neg c15] at j15_0
      refine J_iconst (v := 1) X dX10_airFactor_22 rfl ?_
      exact K15_23 _ j15_0.symm
    · skip
      rw [if_pos c15] at j15_0
      refine J_iconst (v := 2) X dX10_airFactor_18 rfl ?_
      refine J_goto (tgt := 23) X dX10_airFactor_19 (by decide) ?_
      exact K15_23 _ j15_0.symm
  · skip
    rw [if_pos c5] at q_v
    refine J_iconst (v := 5) X dX10_airFactor_8 rfl ?_
    exact J_iret X rfl rfl ⟨by rw [q_v], rfl⟩ dX10_airFactor_9
def X_light (σ : St) (i : Nat) : Int32 := (((((σ 16 i) * ((100 : Int32) - (iMin ((σ 23 i) / (100 : Int32)) (50 : Int32)))) / (100 : Int32)) * ((10 : Int32) - (σ 19 i))) / (10 : Int32))
theorem cw_X2_light : Cond.instanceMethod yX2_light ∈ GW ∧ Cond.selects RX2 yX2_light yX2_light ∈ GW ∧ Cond.initialized RX2 ∈ GW ∧ Cond.code yX2_light cX2_light 2 (some .int) ∈ GW ∧ yX2_light.cls = RX2 ∧ (yX2_light.cls ≠ "java/lang/invoke/MethodHandle" ∧ yX2_light.cls ≠ "java/lang/invoke/VarHandle") ∧ (parseMethodDescriptor yX2_light.desc).map (fun d => d.parameters.length) = some 0 := ⟨gw_2_144, gw_2_145, gw_1_23, gw_2_146, rfl, ⟨by decide, by decide⟩, by decide +kernel⟩
set_option maxRecDepth 100000 in
set_option maxHeartbeats 4000000 in
theorem c_X_light {l : Launch} {D : va_G} {ca : Nat → Nat} {h : fH} {ρ : Nat → Nat → Nat} {μ : Nat → Nat → Int32} {cap : Nat → Nat} {σ : St} (hR : RX ca h ρ μ cap σ) (i : Nat) (hi : i < ix (σ 13 0)) : FM l D ca yX2_light (.code yX2_light cX2_light 2 (some .int)) { frames := 1, cells := 0, slots := 0, locals := 20 } [.ref (ρ 10 i)] h (pI (X_light σ i) h) noX := by
  refine FM.of [some (.ref (ρ 10 i)), none] (by decide) (Nat.le_of_ble_eq_true rfl) rfl ?_
  rintro K X rfl rfl rfl
  have q_v : (X_light σ i) = (((((σ 16 i) * ((100 : Int32) - (iMin ((σ 23 i) / (100 : Int32)) (50 : Int32)))) / (100 : Int32)) * ((10 : Int32) - (σ 19 i))) / (10 : Int32)) := rfl
  refine J_aload_0 X dX2_light_0 ?_
  refine J_get X (C := RX2) (T := TX2) (N := 12) (ref := "NightValley$Lamp") (hR.lamp hi) rfl 2 (by decide) rfl in_X2 gw_3_60 (fun _ z => z) dX2_light_1 ?_
  refine J_bipush (v := (100 : Int32)) X dX2_light_4 (by decide) ?_
  refine J_aload_0 X dX2_light_6 ?_
  refine J_get X (C := RX2) (T := TX2) (N := 12) (ref := "NightValley$Lamp") (hR.lamp hi) rfl 9 (by decide) rfl in_X2 gw_3_72 (fun _ z => z) dX2_light_7 ?_
  refine J_bipush (v := (100 : Int32)) X dX2_light_10 (by decide) ?_
  refine J_idiv X dX2_light_12 (by decide) ?_
  refine J_bipush (v := (50 : Int32)) X dX2_light_13 (by decide) ?_
  refine J_mmin X gw_2_147 gw_1_199 gw_1_10 gw_1_200 rfl rfl dX2_light_15 ?_
  refine J_isub X dX2_light_18 ?_
  refine J_imul X dX2_light_19 ?_
  refine J_bipush (v := (100 : Int32)) X dX2_light_20 (by decide) ?_
  refine J_idiv X dX2_light_22 (by decide) ?_
  refine J_istore_1 X dX2_light_23 rfl (by decide) ?_
  refine J_iload_1 X dX2_light_24 ?_
  refine J_bipush (v := (10 : Int32)) X dX2_light_25 (by decide) ?_
  refine J_aload_0 X dX2_light_27 ?_
  refine J_get X (C := RX2) (T := TX2) (N := 12) (ref := "NightValley$Lamp") (hR.lamp hi) rfl 5 (by decide) rfl in_X2 gw_3_64 (fun _ z => z) dX2_light_28 ?_
  refine J_isub X dX2_light_31 ?_
  refine J_imul X dX2_light_32 ?_
  refine J_bipush (v := (10 : Int32)) X dX2_light_33 (by decide) ?_
  refine J_idiv X dX2_light_35 (by decide) ?_
  exact J_iret X rfl rfl ⟨by rw [q_v], rfl⟩ dX2_light_36
def X_isUnlawful_j4 (σ : St) (i : Nat) : Int32 := (if (σ 22 i) = (0 : Int32) then (if (σ 5 (ix (σ 3 (ix (σ 15 i))))) < (σ 17 i) then (1 : Int32) else (if (σ 6 (ix (σ 3 (ix (σ 15 i))))) ≤ (σ 18 i) then (0 : Int32) else (1 : Int32))) else (0 : Int32))
theorem X_isUnlawful_j4_b (σ : St) (i : Nat) : X_isUnlawful_j4 σ i = 0 ∨ X_isUnlawful_j4 σ i = 1 := by
  unfold X_isUnlawful_j4
  (repeat' split) <;> first | exact Or.inl rfl | exact Or.inr rfl
def X_isUnlawful (σ : St) (i : Nat) : Int32 := (X_isUnlawful_j4 σ i)
theorem X_isUnlawful_b (σ : St) (i : Nat) : (X_isUnlawful σ i) = 0 ∨ (X_isUnlawful σ i) = 1 := by
  unfold X_isUnlawful
  (repeat' split) <;> first | exact Or.inl rfl | exact Or.inr rfl | exact X_isUnlawful_j4_b ..
theorem cw_X2_isUnlawful : Cond.instanceMethod yX2_isUnlawful ∈ GW ∧ Cond.selects RX2 yX2_isUnlawful yX2_isUnlawful ∈ GW ∧ Cond.initialized RX2 ∈ GW ∧ Cond.code yX2_isUnlawful cX2_isUnlawful 1 (some .boolean) ∈ GW ∧ yX2_isUnlawful.cls = RX2 ∧ (yX2_isUnlawful.cls ≠ "java/lang/invoke/MethodHandle" ∧ yX2_isUnlawful.cls ≠ "java/lang/invoke/VarHandle") ∧ (parseMethodDescriptor yX2_isUnlawful.desc).map (fun d => d.parameters.length) = some 0 := ⟨gw_3_142, gw_3_143, gw_1_23, gw_3_144, rfl, ⟨by decide, by decide⟩, by decide +kernel⟩
set_option maxRecDepth 100000 in
set_option maxHeartbeats 4000000 in
theorem c_X_isUnlawful {l : Launch} {D : va_G} {ca : Nat → Nat} {h : fH} {ρ : Nat → Nat → Nat} {μ : Nat → Nat → Int32} {cap : Nat → Nat} {σ : St} (hR : RX ca h ρ μ cap σ) (hI : InvX σ) (i : Nat) (hi : i < ix (σ 13 0)) : FM l D ca yX2_isUnlawful (.code yX2_isUnlawful cX2_isUnlawful 1 (some .boolean)) { frames := 1, cells := 0, slots := 0, locals := 20 } [.ref (ρ 10 i)] h (pI (X_isUnlawful σ i) h) noX := by
  refine FM.of [some (.ref (ρ 10 i))] (by decide) (Nat.le_of_ble_eq_true rfl) rfl ?_
  rintro K X rfl rfl rfl
  have q_v : (X_isUnlawful σ i) = (X_isUnlawful_j4 σ i) := rfl
  refine J_aload_0 X dX2_isUnlawful_0 ?_
  refine J_get X (C := RX2) (T := TX2) (N := 12) (ref := "NightValley$Lamp") (hR.lamp hi) rfl 8 (by decide) rfl in_X2 gw_3_70 (fun _ z => z) dX2_isUnlawful_1 ?_
  have K4_46 : ∀ (v4_0 : Int32), v4_0 = (X_isUnlawful_j4 σ i) → J K h [some (.ref (ρ 10 i))] [.int v4_0] 46 0 0 := by
    intro v4_0 ev4_0
    try rw [ev4_0]
    clear ev4_0
    exact J_zret X rfl (X_isUnlawful_j4_b ..) rfl ⟨by rw [q_v], rfl⟩ dX2_isUnlawful_46
  have j4_0 : X_isUnlawful_j4 σ i = (if (σ 22 i) = (0 : Int32) then (if (σ 5 (ix (σ 3 (ix (σ 15 i))))) < (σ 17 i) then (1 : Int32) else (if (σ 6 (ix (σ 3 (ix (σ 15 i))))) ≤ (σ 18 i) then (0 : Int32) else (1 : Int32))) else (0 : Int32)) := rfl
  refine J_if_ne (tgt := 45) X dX2_isUnlawful_4 (by decide) (fun c4 => ?_) (fun c4 => ?_)
  · skip
    rw [if_neg c4] at j4_0
    refine J_iconst (v := 0) X dX2_isUnlawful_45 rfl ?_
    exact K4_46 _ j4_0.symm
  · skip
    rw [if_pos c4] at j4_0
    refine J_aload_0 X dX2_isUnlawful_7 ?_
    refine J_get X (C := RX2) (T := TX2) (N := 12) (ref := "NightValley$Lamp") (hR.lamp hi) rfl 3 (by decide) rfl in_X2 gw_3_61 (fun _ z => z) dX2_isUnlawful_8 ?_
    refine J_aload_0 X dX2_isUnlawful_11 ?_
    refine J_get X (C := RX2) (T := TX2) (N := 12) (ref := "NightValley$Lamp") (hR.lamp hi) rfl 1 (by decide) rfl in_X2 gw_3_58 (fun _ z => z) dX2_isUnlawful_12 ?_
    refine J_get X (C := RX4) (T := TX4) (N := 4) (ref := "NightValley$Place") (hR.place (IX_place hI _)) rfl 2 (by decide) rfl in_X4 gw_1_220 (fun _ z => z) dX2_isUnlawful_15 ?_
    refine J_get X (C := RX9) (T := TX9) (N := 6) (ref := "NightValley$Zone") (hR.zone (IX_zone hI _)) rfl 4 (by decide) rfl in_X9 gw_1_128 (fun _ z => z) dX2_isUnlawful_18 ?_
    refine J_icmp_gt (tgt := 41) X dX2_isUnlawful_21 (by decide) (fun c21 => ?_) (fun c21 => ?_)
    · skip
      rw [if_pos c21] at j4_0
      refine J_iconst (v := 1) X dX2_isUnlawful_41 rfl ?_
      refine J_goto (tgt := 46) X dX2_isUnlawful_42 (by decide) ?_
      exact K4_46 _ j4_0.symm
    · skip
      rw [if_neg c21] at j4_0
      refine J_aload_0 X dX2_isUnlawful_24 ?_
      refine J_get X (C := RX2) (T := TX2) (N := 12) (ref := "NightValley$Lamp") (hR.lamp hi) rfl 4 (by decide) rfl in_X2 gw_3_62 (fun _ z => z) dX2_isUnlawful_25 ?_
      refine J_aload_0 X dX2_isUnlawful_28 ?_
      refine J_get X (C := RX2) (T := TX2) (N := 12) (ref := "NightValley$Lamp") (hR.lamp hi) rfl 1 (by decide) rfl in_X2 gw_3_58 (fun _ z => z) dX2_isUnlawful_29 ?_
      refine J_get X (C := RX4) (T := TX4) (N := 4) (ref := "NightValley$Place") (hR.place (IX_place hI _)) rfl 2 (by decide) rfl in_X4 gw_1_220 (fun _ z => z) dX2_isUnlawful_32 ?_
      refine J_get X (C := RX9) (T := TX9) (N := 6) (ref := "NightValley$Zone") (hR.zone (IX_zone hI _)) rfl 5 (by decide) rfl in_X9 gw_1_130 (fun _ z => z) dX2_isUnlawful_35 ?_
      refine J_icmp_ge (tgt := 45) X dX2_isUnlawful_38 (by decide) (fun c38 => ?_) (fun c38 => ?_)
      · skip
        rw [if_pos c38] at j4_0
        refine J_iconst (v := 0) X dX2_isUnlawful_45 rfl ?_
        exact K4_46 _ j4_0.symm
      · skip
        rw [if_neg c38] at j4_0
        refine J_iconst (v := 1) X dX2_isUnlawful_41 rfl ?_
        refine J_goto (tgt := 46) X dX2_isUnlawful_42 (by decide) ?_
        exact K4_46 _ j4_0.symm
def X_hasHour_j21 (σ : St) (i : Nat) (p1 : Int32) : Int32 := (if (σ 21 i) ≤ (σ 20 i) then (if (σ 20 i) ≤ p1 then (1 : Int32) else (if (σ 21 i) ≤ p1 then (0 : Int32) else (1 : Int32))) else (if p1 < (σ 20 i) then (0 : Int32) else (if (σ 21 i) ≤ p1 then (0 : Int32) else (1 : Int32))))
theorem X_hasHour_j21_b (σ : St) (i : Nat) (p1 : Int32) : X_hasHour_j21 σ i p1 = 0 ∨ X_hasHour_j21 σ i p1 = 1 := by
  unfold X_hasHour_j21
  (repeat' split) <;> first | exact Or.inl rfl | exact Or.inr rfl
def X_hasHour (σ : St) (i : Nat) (p1 : Int32) : Int32 := (if (σ 20 i) = (σ 21 i) then (1 : Int32) else (X_hasHour_j21 σ i p1))
theorem X_hasHour_b (σ : St) (i : Nat) (p1 : Int32) : (X_hasHour σ i p1) = 0 ∨ (X_hasHour σ i p1) = 1 := by
  unfold X_hasHour
  (repeat' split) <;> first | exact Or.inl rfl | exact Or.inr rfl | exact X_hasHour_j21_b ..
theorem cw_X2_hasHour : Cond.instanceMethod yX2_hasHour ∈ GW ∧ Cond.selects RX2 yX2_hasHour yX2_hasHour ∈ GW ∧ Cond.initialized RX2 ∈ GW ∧ Cond.code yX2_hasHour cX2_hasHour 2 (some .boolean) ∈ GW ∧ yX2_hasHour.cls = RX2 ∧ (yX2_hasHour.cls ≠ "java/lang/invoke/MethodHandle" ∧ yX2_hasHour.cls ≠ "java/lang/invoke/VarHandle") ∧ (parseMethodDescriptor yX2_hasHour.desc).map (fun d => d.parameters.length) = some 1 := ⟨gw_2_128, gw_2_129, gw_1_23, gw_2_130, rfl, ⟨by decide, by decide⟩, by decide +kernel⟩
set_option maxRecDepth 100000 in
set_option maxHeartbeats 4000000 in
theorem c_X_hasHour {l : Launch} {D : va_G} {ca : Nat → Nat} {h : fH} {ρ : Nat → Nat → Nat} {μ : Nat → Nat → Int32} {cap : Nat → Nat} {σ : St} (hR : RX ca h ρ μ cap σ) (i : Nat) (p1 : Int32) (hi : i < ix (σ 13 0)) : FM l D ca yX2_hasHour (.code yX2_hasHour cX2_hasHour 2 (some .boolean)) { frames := 1, cells := 0, slots := 0, locals := 20 } [.ref (ρ 10 i), .int p1] h (pI (X_hasHour σ i p1) h) noX := by
  refine FM.of [some (.ref (ρ 10 i)), some (.int p1)] (by decide) (Nat.le_of_ble_eq_true rfl) rfl ?_
  rintro K X rfl rfl rfl
  have q_v : (X_hasHour σ i p1) = (if (σ 20 i) = (σ 21 i) then (1 : Int32) else (X_hasHour_j21 σ i p1)) := rfl
  refine J_aload_0 X dX2_hasHour_0 ?_
  refine J_get X (C := RX2) (T := TX2) (N := 12) (ref := "NightValley$Lamp") (hR.lamp hi) rfl 6 (by decide) rfl in_X2 gw_3_66 (fun _ z => z) dX2_hasHour_1 ?_
  refine J_aload_0 X dX2_hasHour_4 ?_
  refine J_get X (C := RX2) (T := TX2) (N := 12) (ref := "NightValley$Lamp") (hR.lamp hi) rfl 7 (by decide) rfl in_X2 gw_3_68 (fun _ z => z) dX2_hasHour_5 ?_
  refine J_icmp_ne (tgt := 13) X dX2_hasHour_8 (by decide) (fun c8 => ?_) (fun c8 => ?_)
  · skip
    rw [if_neg c8] at q_v
    refine J_aload_0 X dX2_hasHour_13 ?_
    refine J_get X (C := RX2) (T := TX2) (N := 12) (ref := "NightValley$Lamp") (hR.lamp hi) rfl 6 (by decide) rfl in_X2 gw_3_66 (fun _ z => z) dX2_hasHour_14 ?_
    refine J_aload_0 X dX2_hasHour_17 ?_
    refine J_get X (C := RX2) (T := TX2) (N := 12) (ref := "NightValley$Lamp") (hR.lamp hi) rfl 7 (by decide) rfl in_X2 gw_3_68 (fun _ z => z) dX2_hasHour_18 ?_
    have K21_69 : ∀ (v21_0 : Int32), v21_0 = (X_hasHour_j21 σ i p1) → J K h [some (.ref (ρ 10 i)), some (.int p1)] [.int v21_0] 69 0 0 := by
      intro v21_0 ev21_0
      try rw [ev21_0]
      clear ev21_0
      exact J_zret X rfl (X_hasHour_j21_b ..) rfl ⟨by rw [q_v], rfl⟩ dX2_hasHour_69
    have j21_0 : X_hasHour_j21 σ i p1 = (if (σ 21 i) ≤ (σ 20 i) then (if (σ 20 i) ≤ p1 then (1 : Int32) else (if (σ 21 i) ≤ p1 then (0 : Int32) else (1 : Int32))) else (if p1 < (σ 20 i) then (0 : Int32) else (if (σ 21 i) ≤ p1 then (0 : Int32) else (1 : Int32)))) := rfl
    refine J_icmp_ge (tgt := 48) X dX2_hasHour_21 (by decide) (fun c21 => ?_) (fun c21 => ?_)
    · skip
      rw [if_pos c21] at j21_0
      refine J_iload_1 X dX2_hasHour_48 ?_
      refine J_aload_0 X dX2_hasHour_49 ?_
      refine J_get X (C := RX2) (T := TX2) (N := 12) (ref := "NightValley$Lamp") (hR.lamp hi) rfl 6 (by decide) rfl in_X2 gw_3_66 (fun _ z => z) dX2_hasHour_50 ?_
      refine J_icmp_ge (tgt := 64) X dX2_hasHour_53 (by decide) (fun c53 => ?_) (fun c53 => ?_)
      · skip
        rw [if_pos c53] at j21_0
        refine J_iconst (v := 1) X dX2_hasHour_64 rfl ?_
        refine J_goto (tgt := 69) X dX2_hasHour_65 (by decide) ?_
        exact K21_69 _ j21_0.symm
      · skip
        rw [if_neg c53] at j21_0
        refine J_iload_1 X dX2_hasHour_56 ?_
        refine J_aload_0 X dX2_hasHour_57 ?_
        refine J_get X (C := RX2) (T := TX2) (N := 12) (ref := "NightValley$Lamp") (hR.lamp hi) rfl 7 (by decide) rfl in_X2 gw_3_68 (fun _ z => z) dX2_hasHour_58 ?_
        refine J_icmp_ge (tgt := 68) X dX2_hasHour_61 (by decide) (fun c61 => ?_) (fun c61 => ?_)
        · skip
          rw [if_pos c61] at j21_0
          refine J_iconst (v := 0) X dX2_hasHour_68 rfl ?_
          exact K21_69 _ j21_0.symm
        · skip
          rw [if_neg c61] at j21_0
          refine J_iconst (v := 1) X dX2_hasHour_64 rfl ?_
          refine J_goto (tgt := 69) X dX2_hasHour_65 (by decide) ?_
          exact K21_69 _ j21_0.symm
    · skip
      rw [if_neg c21] at j21_0
      refine J_iload_1 X dX2_hasHour_24 ?_
      refine J_aload_0 X dX2_hasHour_25 ?_
      refine J_get X (C := RX2) (T := TX2) (N := 12) (ref := "NightValley$Lamp") (hR.lamp hi) rfl 6 (by decide) rfl in_X2 gw_3_66 (fun _ z => z) dX2_hasHour_26 ?_
      refine J_icmp_lt (tgt := 44) X dX2_hasHour_29 (by decide) (fun c29 => ?_) (fun c29 => ?_)
      · skip
        rw [if_pos c29] at j21_0
        refine J_iconst (v := 0) X dX2_hasHour_44 rfl ?_
        refine J_goto (tgt := 69) X dX2_hasHour_45 (by decide) ?_
        exact K21_69 _ j21_0.symm
      · skip
        rw [if_neg c29] at j21_0
        refine J_iload_1 X dX2_hasHour_32 ?_
        refine J_aload_0 X dX2_hasHour_33 ?_
        refine J_get X (C := RX2) (T := TX2) (N := 12) (ref := "NightValley$Lamp") (hR.lamp hi) rfl 7 (by decide) rfl in_X2 gw_3_68 (fun _ z => z) dX2_hasHour_34 ?_
        refine J_icmp_ge (tgt := 44) X dX2_hasHour_37 (by decide) (fun c37 => ?_) (fun c37 => ?_)
        · skip
          rw [if_pos c37] at j21_0
          refine J_iconst (v := 0) X dX2_hasHour_44 rfl ?_
          refine J_goto (tgt := 69) X dX2_hasHour_45 (by decide) ?_
          exact K21_69 _ j21_0.symm
        · skip
          rw [if_neg c37] at j21_0
          refine J_iconst (v := 1) X dX2_hasHour_40 rfl ?_
          refine J_goto (tgt := 69) X dX2_hasHour_41 (by decide) ?_
          exact K21_69 _ j21_0.symm
  · skip
    rw [if_pos c8] at q_v
    refine J_iconst (v := 1) X dX2_hasHour_11 rfl ?_
    exact J_zret X rfl (by first | exact Or.inl rfl | exact Or.inr rfl) rfl ⟨by rw [q_v], rfl⟩ dX2_hasHour_12
def X_skyLight_j33 (σ : St) (i : Nat) : Int32 := (if (σ 17 i) = (1 : Int32) then ((((X_light σ i) * ((10 : Int32) - (σ 18 i))) / (10 : Int32)) * (2 : Int32)) else (((X_light σ i) * ((10 : Int32) - (σ 18 i))) / (10 : Int32)))
def X_skyLight (σ : St) (i : Nat) : Int32 := (if (σ 17 i) = (2 : Int32) then ((((X_light σ i) * ((10 : Int32) - (σ 18 i))) / (10 : Int32)) * (4 : Int32)) else (X_skyLight_j33 σ i))
theorem cw_X2_skyLight : Cond.instanceMethod yX2_skyLight ∈ GW ∧ Cond.selects RX2 yX2_skyLight yX2_skyLight ∈ GW ∧ Cond.initialized RX2 ∈ GW ∧ Cond.code yX2_skyLight cX2_skyLight 2 (some .int) ∈ GW ∧ yX2_skyLight.cls = RX2 ∧ (yX2_skyLight.cls ≠ "java/lang/invoke/MethodHandle" ∧ yX2_skyLight.cls ≠ "java/lang/invoke/VarHandle") ∧ (parseMethodDescriptor yX2_skyLight.desc).map (fun d => d.parameters.length) = some 0 := ⟨gw_2_140, gw_2_141, gw_1_23, gw_2_142, rfl, ⟨by decide, by decide⟩, by decide +kernel⟩
set_option maxRecDepth 100000 in
set_option maxHeartbeats 4000000 in
theorem c_X_skyLight {l : Launch} {D : va_G} {ca : Nat → Nat} {h : fH} {ρ : Nat → Nat → Nat} {μ : Nat → Nat → Int32} {cap : Nat → Nat} {σ : St} (hR : RX ca h ρ μ cap σ) (i : Nat) (hi : i < ix (σ 13 0)) : FM l D ca yX2_skyLight (.code yX2_skyLight cX2_skyLight 2 (some .int)) { frames := 2, cells := 0, slots := 0, locals := 41 } [.ref (ρ 10 i)] h (pI (X_skyLight σ i) h) noX := by
  refine FM.of [some (.ref (ρ 10 i)), none] (by decide) (Nat.le_of_ble_eq_true rfl) rfl ?_
  rintro K X rfl rfl rfl
  have q_v : (X_skyLight σ i) = (if (σ 17 i) = (2 : Int32) then ((((X_light σ i) * ((10 : Int32) - (σ 18 i))) / (10 : Int32)) * (4 : Int32)) else (X_skyLight_j33 σ i)) := rfl
  refine J_aload_0 X dX2_skyLight_0 ?_
  refine J_callV X (c_X_light hR i hi) (And.intro gw_2_143 cw_X2_light) (hR.lamp hi) rfl rfl rfl (Nat.le_of_ble_eq_true rfl) dX2_skyLight_1 rfl (J.pi ?_) JE.no
  refine J_bipush (v := (10 : Int32)) X dX2_skyLight_4 (by decide) ?_
  refine J_aload_0 X dX2_skyLight_6 ?_
  refine J_get X (C := RX2) (T := TX2) (N := 12) (ref := "NightValley$Lamp") (hR.lamp hi) rfl 4 (by decide) rfl in_X2 gw_3_62 (fun _ z => z) dX2_skyLight_7 ?_
  refine J_isub X dX2_skyLight_10 ?_
  refine J_imul X dX2_skyLight_11 ?_
  refine J_bipush (v := (10 : Int32)) X dX2_skyLight_12 (by decide) ?_
  refine J_idiv X dX2_skyLight_14 (by decide) ?_
  refine J_istore_1 X dX2_skyLight_15 rfl (by decide) ?_
  refine J_aload_0 X dX2_skyLight_16 ?_
  refine J_get X (C := RX2) (T := TX2) (N := 12) (ref := "NightValley$Lamp") (hR.lamp hi) rfl 3 (by decide) rfl in_X2 gw_3_61 (fun _ z => z) dX2_skyLight_17 ?_
  refine J_iconst (v := 2) X dX2_skyLight_20 rfl ?_
  refine J_icmp_ne (tgt := 28) X dX2_skyLight_21 (by decide) (fun c21 => ?_) (fun c21 => ?_)
  · skip
    rw [if_neg c21] at q_v
    refine J_aload_0 X dX2_skyLight_28 ?_
    refine J_get X (C := RX2) (T := TX2) (N := 12) (ref := "NightValley$Lamp") (hR.lamp hi) rfl 3 (by decide) rfl in_X2 gw_3_61 (fun _ z => z) dX2_skyLight_29 ?_
    refine J_iconst (v := 1) X dX2_skyLight_32 rfl ?_
    have K33_43 : ∀ (v33_0 : Int32), v33_0 = (X_skyLight_j33 σ i) → J K h [some (.ref (ρ 10 i)), some (.int (((X_light σ i) * ((10 : Int32) - (σ 18 i))) / (10 : Int32)))] [.int v33_0] 43 0 0 := by
      intro v33_0 ev33_0
      try rw [ev33_0]
      clear ev33_0
      exact J_iret X rfl rfl ⟨by rw [q_v], rfl⟩ dX2_skyLight_43
    have j33_0 : X_skyLight_j33 σ i = (if (σ 17 i) = (1 : Int32) then ((((X_light σ i) * ((10 : Int32) - (σ 18 i))) / (10 : Int32)) * (2 : Int32)) else (((X_light σ i) * ((10 : Int32) - (σ 18 i))) / (10 : Int32))) := rfl
    refine J_icmp_ne (tgt := 42) X dX2_skyLight_33 (by decide) (fun c33 => ?_) (fun c33 => ?_)
    · skip
      rw [if_neg c33] at j33_0
      refine J_iload_1 X dX2_skyLight_42 ?_
      exact K33_43 _ j33_0.symm
    · skip
      rw [if_pos c33] at j33_0
      refine J_iload_1 X dX2_skyLight_36 ?_
      refine J_iconst (v := 2) X dX2_skyLight_37 rfl ?_
      refine J_imul X dX2_skyLight_38 ?_
      refine J_goto (tgt := 43) X dX2_skyLight_39 (by decide) ?_
      exact K33_43 _ j33_0.symm
  · skip
    rw [if_pos c21] at q_v
    refine J_iload_1 X dX2_skyLight_24 ?_
    refine J_iconst (v := 4) X dX2_skyLight_25 rfl ?_
    refine J_imul X dX2_skyLight_26 ?_
    exact J_iret X rfl rfl ⟨by rw [q_v], rfl⟩ dX2_skyLight_27
def X_boundHours (σ : St) (i : Nat) (p1 : Int32) : Int32 := (iMax ((σ 24 i) - p1) (0 : Int32))
theorem cw_X2_boundHours : Cond.instanceMethod yX2_boundHours ∈ GW ∧ Cond.selects RX2 yX2_boundHours yX2_boundHours ∈ GW ∧ Cond.initialized RX2 ∈ GW ∧ Cond.code yX2_boundHours cX2_boundHours 2 (some .int) ∈ GW ∧ yX2_boundHours.cls = RX2 ∧ (yX2_boundHours.cls ≠ "java/lang/invoke/MethodHandle" ∧ yX2_boundHours.cls ≠ "java/lang/invoke/VarHandle") ∧ (parseMethodDescriptor yX2_boundHours.desc).map (fun d => d.parameters.length) = some 1 := ⟨gw_3_113, gw_3_114, gw_1_23, gw_3_115, rfl, ⟨by decide, by decide⟩, by decide +kernel⟩
set_option maxRecDepth 100000 in
set_option maxHeartbeats 4000000 in
theorem c_X_boundHours {l : Launch} {D : va_G} {ca : Nat → Nat} {h : fH} {ρ : Nat → Nat → Nat} {μ : Nat → Nat → Int32} {cap : Nat → Nat} {σ : St} (hR : RX ca h ρ μ cap σ) (i : Nat) (p1 : Int32) (hi : i < ix (σ 13 0)) : FM l D ca yX2_boundHours (.code yX2_boundHours cX2_boundHours 2 (some .int)) { frames := 1, cells := 0, slots := 0, locals := 20 } [.ref (ρ 10 i), .int p1] h (pI (X_boundHours σ i p1) h) noX := by
  refine FM.of [some (.ref (ρ 10 i)), some (.int p1)] (by decide) (Nat.le_of_ble_eq_true rfl) rfl ?_
  rintro K X rfl rfl rfl
  have q_v : (X_boundHours σ i p1) = (iMax ((σ 24 i) - p1) (0 : Int32)) := rfl
  refine J_aload_0 X dX2_boundHours_0 ?_
  refine J_get X (C := RX2) (T := TX2) (N := 12) (ref := "NightValley$Lamp") (hR.lamp hi) rfl 10 (by decide) rfl in_X2 gw_3_74 (fun _ z => z) dX2_boundHours_1 ?_
  refine J_iload_1 X dX2_boundHours_4 ?_
  refine J_isub X dX2_boundHours_5 ?_
  refine J_iconst (v := 0) X dX2_boundHours_6 rfl ?_
  refine J_mmax X gw_3_116 gw_1_165 gw_1_10 gw_1_166 rfl rfl dX2_boundHours_7 ?_
  exact J_iret X rfl rfl ⟨by rw [q_v], rfl⟩ dX2_boundHours_10
def X_refitCost (σ : St) (i : Nat) (p1 : Int32) (p2 : Int32) : Int32 := (((2 : Int32) * (p1 - (σ 18 i))) + ((3 : Int32) * (p2 - (σ 19 i))))
theorem cw_X2_refitCost : Cond.instanceMethod yX2_refitCost ∈ GW ∧ Cond.selects RX2 yX2_refitCost yX2_refitCost ∈ GW ∧ Cond.initialized RX2 ∈ GW ∧ Cond.code yX2_refitCost cX2_refitCost 3 (some .int) ∈ GW ∧ yX2_refitCost.cls = RX2 ∧ (yX2_refitCost.cls ≠ "java/lang/invoke/MethodHandle" ∧ yX2_refitCost.cls ≠ "java/lang/invoke/VarHandle") ∧ (parseMethodDescriptor yX2_refitCost.desc).map (fun d => d.parameters.length) = some 2 := ⟨gw_3_126, gw_3_127, gw_1_23, gw_3_128, rfl, ⟨by decide, by decide⟩, by decide +kernel⟩
set_option maxRecDepth 100000 in
set_option maxHeartbeats 4000000 in
theorem c_X_refitCost {l : Launch} {D : va_G} {ca : Nat → Nat} {h : fH} {ρ : Nat → Nat → Nat} {μ : Nat → Nat → Int32} {cap : Nat → Nat} {σ : St} (hR : RX ca h ρ μ cap σ) (i : Nat) (p1 : Int32) (p2 : Int32) (hi : i < ix (σ 13 0)) : FM l D ca yX2_refitCost (.code yX2_refitCost cX2_refitCost 3 (some .int)) { frames := 1, cells := 0, slots := 0, locals := 20 } [.ref (ρ 10 i), .int p1, .int p2] h (pI (X_refitCost σ i p1 p2) h) noX := by
  refine FM.of [some (.ref (ρ 10 i)), some (.int p1), some (.int p2)] (by decide) (Nat.le_of_ble_eq_true rfl) rfl ?_
  rintro K X rfl rfl rfl
  have q_v : (X_refitCost σ i p1 p2) = (((2 : Int32) * (p1 - (σ 18 i))) + ((3 : Int32) * (p2 - (σ 19 i)))) := rfl
  refine J_iconst (v := 2) X dX2_refitCost_0 rfl ?_
  refine J_iload_1 X dX2_refitCost_1 ?_
  refine J_aload_0 X dX2_refitCost_2 ?_
  refine J_get X (C := RX2) (T := TX2) (N := 12) (ref := "NightValley$Lamp") (hR.lamp hi) rfl 4 (by decide) rfl in_X2 gw_3_62 (fun _ z => z) dX2_refitCost_3 ?_
  refine J_isub X dX2_refitCost_6 ?_
  refine J_imul X dX2_refitCost_7 ?_
  refine J_iconst (v := 3) X dX2_refitCost_8 rfl ?_
  refine J_iload_2 X dX2_refitCost_9 ?_
  refine J_aload_0 X dX2_refitCost_10 ?_
  refine J_get X (C := RX2) (T := TX2) (N := 12) (ref := "NightValley$Lamp") (hR.lamp hi) rfl 5 (by decide) rfl in_X2 gw_3_64 (fun _ z => z) dX2_refitCost_11 ?_
  refine J_isub X dX2_refitCost_14 ?_
  refine J_imul X dX2_refitCost_15 ?_
  refine J_iadd X dX2_refitCost_16 ?_
  exact J_iret X rfl rfl ⟨by rw [q_v], rfl⟩ dX2_refitCost_17
def X_isNearLine_j66 (σ : St) (i : Nat) (j : Nat) (q : Nat) : Int32 := (if (iMax (iAbs ((nI (q % 8)) - (nI (j % 8)))) (iAbs ((nI (q / 8)) - (nI (j / 8))))) < ((2 : Int32) * (iAbs ((((nI (q % 8)) - (nI (j % 8))) * ((nI (i / 8)) - (nI (j / 8)))) - (((nI (q / 8)) - (nI (j / 8))) * ((nI (i % 8)) - (nI (j % 8))))))) then (0 : Int32) else (1 : Int32))
theorem X_isNearLine_j66_b (σ : St) (i : Nat) (j : Nat) (q : Nat) : X_isNearLine_j66 σ i j q = 0 ∨ X_isNearLine_j66 σ i j q = 1 := by
  unfold X_isNearLine_j66
  (repeat' split) <;> first | exact Or.inl rfl | exact Or.inr rfl
def X_isNearLine (σ : St) (i : Nat) (j : Nat) (q : Nat) : Int32 := (X_isNearLine_j66 σ i j q)
theorem X_isNearLine_b (σ : St) (i : Nat) (j : Nat) (q : Nat) : (X_isNearLine σ i j q) = 0 ∨ (X_isNearLine σ i j q) = 1 := by
  unfold X_isNearLine
  (repeat' split) <;> first | exact Or.inl rfl | exact Or.inr rfl | exact X_isNearLine_j66_b ..
theorem cw_X4_isNearLine : Cond.instanceMethod yX4_isNearLine ∈ GW ∧ Cond.selects RX4 yX4_isNearLine yX4_isNearLine ∈ GW ∧ Cond.initialized RX4 ∈ GW ∧ Cond.code yX4_isNearLine cX4_isNearLine 6 (some .boolean) ∈ GW ∧ yX4_isNearLine.cls = RX4 ∧ (yX4_isNearLine.cls ≠ "java/lang/invoke/MethodHandle" ∧ yX4_isNearLine.cls ≠ "java/lang/invoke/VarHandle") ∧ (parseMethodDescriptor yX4_isNearLine.desc).map (fun d => d.parameters.length) = some 2 := ⟨gw_2_163, gws_8, gw_1_13, gw_2_164, rfl, ⟨by decide, by decide⟩, by decide +kernel⟩
set_option maxRecDepth 100000 in
set_option maxHeartbeats 4000000 in
theorem c_X_isNearLine {l : Launch} {D : va_G} {ca : Nat → Nat} {h : fH} {ρ : Nat → Nat → Nat} {μ : Nat → Nat → Int32} {cap : Nat → Nat} {σ : St} (hR : RX ca h ρ μ cap σ) (i : Nat) (j : Nat) (q : Nat) (hi : i < 64) (hj : j < 64) (hq : q < 64) : FM l D ca yX4_isNearLine (.code yX4_isNearLine cX4_isNearLine 6 (some .boolean)) { frames := 1, cells := 0, slots := 0, locals := 20 } [.ref (ρ 8 i), .ref (ρ 8 j), .ref (ρ 8 q)] h (pI (X_isNearLine σ i j q) h) noX := by
  refine FM.of [some (.ref (ρ 8 i)), some (.ref (ρ 8 j)), some (.ref (ρ 8 q)), none, none, none] (by decide) (Nat.le_of_ble_eq_true rfl) rfl ?_
  rintro K X rfl rfl rfl
  have q_v : (X_isNearLine σ i j q) = (X_isNearLine_j66 σ i j q) := rfl
  refine J_aload_2 X dX4_isNearLine_0 ?_
  refine J_get X (C := RX4) (T := TX4) (N := 4) (ref := "NightValley$Place") (hR.place hq) rfl 0 (by decide) rfl in_X4 gw_1_212 (fun _ z => z) dX4_isNearLine_1 ?_
  refine J_aload_1 X dX4_isNearLine_4 ?_
  refine J_get X (C := RX4) (T := TX4) (N := 4) (ref := "NightValley$Place") (hR.place hj) rfl 0 (by decide) rfl in_X4 gw_1_212 (fun _ z => z) dX4_isNearLine_5 ?_
  refine J_isub X dX4_isNearLine_8 ?_
  refine J_istore_3 X dX4_isNearLine_9 rfl (by decide) ?_
  refine J_aload_2 X dX4_isNearLine_10 ?_
  refine J_get X (C := RX4) (T := TX4) (N := 4) (ref := "NightValley$Place") (hR.place hq) rfl 1 (by decide) rfl in_X4 gw_1_215 (fun _ z => z) dX4_isNearLine_11 ?_
  refine J_aload_1 X dX4_isNearLine_14 ?_
  refine J_get X (C := RX4) (T := TX4) (N := 4) (ref := "NightValley$Place") (hR.place hj) rfl 1 (by decide) rfl in_X4 gw_1_215 (fun _ z => z) dX4_isNearLine_15 ?_
  refine J_isub X dX4_isNearLine_18 ?_
  refine J_istore_4 X dX4_isNearLine_19 rfl (by decide) ?_
  refine J_iload_3 X dX4_isNearLine_21 ?_
  refine J_aload_0 X dX4_isNearLine_22 ?_
  refine J_get X (C := RX4) (T := TX4) (N := 4) (ref := "NightValley$Place") (hR.place hi) rfl 1 (by decide) rfl in_X4 gw_1_215 (fun _ z => z) dX4_isNearLine_23 ?_
  refine J_aload_1 X dX4_isNearLine_26 ?_
  refine J_get X (C := RX4) (T := TX4) (N := 4) (ref := "NightValley$Place") (hR.place hj) rfl 1 (by decide) rfl in_X4 gw_1_215 (fun _ z => z) dX4_isNearLine_27 ?_
  refine J_isub X dX4_isNearLine_30 ?_
  refine J_imul X dX4_isNearLine_31 ?_
  refine J_iload_4 X dX4_isNearLine_32 ?_
  refine J_aload_0 X dX4_isNearLine_34 ?_
  refine J_get X (C := RX4) (T := TX4) (N := 4) (ref := "NightValley$Place") (hR.place hi) rfl 0 (by decide) rfl in_X4 gw_1_212 (fun _ z => z) dX4_isNearLine_35 ?_
  refine J_aload_1 X dX4_isNearLine_38 ?_
  refine J_get X (C := RX4) (T := TX4) (N := 4) (ref := "NightValley$Place") (hR.place hj) rfl 0 (by decide) rfl in_X4 gw_1_212 (fun _ z => z) dX4_isNearLine_39 ?_
  refine J_isub X dX4_isNearLine_42 ?_
  refine J_imul X dX4_isNearLine_43 ?_
  refine J_isub X dX4_isNearLine_44 ?_
  refine J_istore_5 X dX4_isNearLine_45 rfl (by decide) ?_
  refine J_iconst (v := 2) X dX4_isNearLine_47 rfl ?_
  refine J_iload_5 X dX4_isNearLine_48 ?_
  refine J_mabs X gw_2_165 gw_2_166 gw_1_10 gw_2_167 rfl rfl dX4_isNearLine_50 ?_
  refine J_imul X dX4_isNearLine_53 ?_
  refine J_iload_3 X dX4_isNearLine_54 ?_
  refine J_mabs X gw_2_165 gw_2_166 gw_1_10 gw_2_167 rfl rfl dX4_isNearLine_55 ?_
  refine J_iload_4 X dX4_isNearLine_58 ?_
  refine J_mabs X gw_2_165 gw_2_166 gw_1_10 gw_2_167 rfl rfl dX4_isNearLine_60 ?_
  refine J_mmax X gw_2_168 gw_1_165 gw_1_10 gw_1_166 rfl rfl dX4_isNearLine_63 ?_
  have K66_74 : ∀ (v66_0 : Int32), v66_0 = (X_isNearLine_j66 σ i j q) → J K h [some (.ref (ρ 8 i)), some (.ref (ρ 8 j)), some (.ref (ρ 8 q)), some (.int ((nI (q % 8)) - (nI (j % 8)))), some (.int ((nI (q / 8)) - (nI (j / 8)))), some (.int ((((nI (q % 8)) - (nI (j % 8))) * ((nI (i / 8)) - (nI (j / 8)))) - (((nI (q / 8)) - (nI (j / 8))) * ((nI (i % 8)) - (nI (j % 8))))))] [.int v66_0] 74 0 0 := by
    intro v66_0 ev66_0
    try rw [ev66_0]
    clear ev66_0
    exact J_zret X rfl (X_isNearLine_j66_b ..) rfl ⟨by rw [q_v], rfl⟩ dX4_isNearLine_74
  have j66_0 : X_isNearLine_j66 σ i j q = (if (iMax (iAbs ((nI (q % 8)) - (nI (j % 8)))) (iAbs ((nI (q / 8)) - (nI (j / 8))))) < ((2 : Int32) * (iAbs ((((nI (q % 8)) - (nI (j % 8))) * ((nI (i / 8)) - (nI (j / 8)))) - (((nI (q / 8)) - (nI (j / 8))) * ((nI (i % 8)) - (nI (j % 8))))))) then (0 : Int32) else (1 : Int32)) := rfl
  refine J_icmp_gt (tgt := 73) X dX4_isNearLine_66 (by decide) (fun c66 => ?_) (fun c66 => ?_)
  · skip
    rw [if_pos c66] at j66_0
    refine J_iconst (v := 0) X dX4_isNearLine_73 rfl ?_
    exact K66_74 _ j66_0.symm
  · skip
    rw [if_neg c66] at j66_0
    refine J_iconst (v := 1) X dX4_isNearLine_69 rfl ?_
    refine J_goto (tgt := 74) X dX4_isNearLine_70 (by decide) ?_
    exact K66_74 _ j66_0.symm
def X_shades_j4 (σ : St) (i : Nat) (j : Nat) (q : Nat) : Int32 := (if (σ 2 i) = (0 : Int32) then (0 : Int32) else (if i = j then (0 : Int32) else (if i = q then (0 : Int32) else (if (X_isNearLine σ i j q) = (0 : Int32) then (0 : Int32) else (1 : Int32)))))
theorem X_shades_j4_b (σ : St) (i : Nat) (j : Nat) (q : Nat) : X_shades_j4 σ i j q = 0 ∨ X_shades_j4 σ i j q = 1 := by
  unfold X_shades_j4
  (repeat' split) <;> first | exact Or.inl rfl | exact Or.inr rfl
def X_shades (σ : St) (i : Nat) (j : Nat) (q : Nat) : Int32 := (X_shades_j4 σ i j q)
theorem X_shades_b (σ : St) (i : Nat) (j : Nat) (q : Nat) : (X_shades σ i j q) = 0 ∨ (X_shades σ i j q) = 1 := by
  unfold X_shades
  (repeat' split) <;> first | exact Or.inl rfl | exact Or.inr rfl | exact X_shades_j4_b ..
theorem cw_X4_shades : Cond.instanceMethod yX4_shades ∈ GW ∧ Cond.selects RX4 yX4_shades yX4_shades ∈ GW ∧ Cond.initialized RX4 ∈ GW ∧ Cond.code yX4_shades cX4_shades 3 (some .boolean) ∈ GW ∧ yX4_shades.cls = RX4 ∧ (yX4_shades.cls ≠ "java/lang/invoke/MethodHandle" ∧ yX4_shades.cls ≠ "java/lang/invoke/VarHandle") ∧ (parseMethodDescriptor yX4_shades.desc).map (fun d => d.parameters.length) = some 2 := ⟨gw_2_158, gw_2_159, gw_1_13, gw_2_160, rfl, ⟨by decide, by decide⟩, by decide +kernel⟩
set_option maxRecDepth 100000 in
set_option maxHeartbeats 4000000 in
theorem c_X_shades {l : Launch} {D : va_G} {ca : Nat → Nat} {h : fH} {ρ : Nat → Nat → Nat} {μ : Nat → Nat → Int32} {cap : Nat → Nat} {σ : St} (hR : RX ca h ρ μ cap σ) (i : Nat) (j : Nat) (q : Nat) (hi : i < 64) (hj : j < 64) (hq : q < 64) : FM l D ca yX4_shades (.code yX4_shades cX4_shades 3 (some .boolean)) { frames := 2, cells := 0, slots := 0, locals := 45 } [.ref (ρ 8 i), .ref (ρ 8 j), .ref (ρ 8 q)] h (pI (X_shades σ i j q) h) noX := by
  refine FM.of [some (.ref (ρ 8 i)), some (.ref (ρ 8 j)), some (.ref (ρ 8 q))] (by decide) (Nat.le_of_ble_eq_true rfl) rfl ?_
  rintro K X rfl rfl rfl
  have q_v : (X_shades σ i j q) = (X_shades_j4 σ i j q) := rfl
  refine J_aload_0 X dX4_shades_0 ?_
  refine J_get X (C := RX4) (T := TX4) (N := 4) (ref := "NightValley$Place") (hR.place hi) rfl 3 (by decide) rfl in_X4 gw_1_221 (fun _ z => z) dX4_shades_1 ?_
  have K4_31 : ∀ (v4_0 : Int32), v4_0 = (X_shades_j4 σ i j q) → J K h [some (.ref (ρ 8 i)), some (.ref (ρ 8 j)), some (.ref (ρ 8 q))] [.int v4_0] 31 0 0 := by
    intro v4_0 ev4_0
    try rw [ev4_0]
    clear ev4_0
    exact J_zret X rfl (X_shades_j4_b ..) rfl ⟨by rw [q_v], rfl⟩ dX4_shades_31
  have j4_0 : X_shades_j4 σ i j q = (if (σ 2 i) = (0 : Int32) then (0 : Int32) else (if i = j then (0 : Int32) else (if i = q then (0 : Int32) else (if (X_isNearLine σ i j q) = (0 : Int32) then (0 : Int32) else (1 : Int32))))) := rfl
  refine J_if_eq (tgt := 30) X dX4_shades_4 (by decide) (fun c4 => ?_) (fun c4 => ?_)
  · skip
    rw [if_pos c4] at j4_0
    refine J_iconst (v := 0) X dX4_shades_30 rfl ?_
    exact K4_31 _ j4_0.symm
  · skip
    rw [if_neg c4] at j4_0
    refine J_aload_0 X dX4_shades_7 ?_
    refine J_aload_1 X dX4_shades_8 ?_
    refine J_acmp_eq (tgt := 30) X dX4_shades_9 (by decide) (fun c9 => ?_) (fun c9 => ?_)
    · skip
      have c9 := (hR.place_eq hi hj).mp c9
      rw [if_pos c9] at j4_0
      refine J_iconst (v := 0) X dX4_shades_30 rfl ?_
      exact K4_31 _ j4_0.symm
    · skip
      have c9 : ¬ (i = j) := fun z => c9 ((hR.place_eq hi hj).mpr z)
      rw [if_neg c9] at j4_0
      refine J_aload_0 X dX4_shades_12 ?_
      refine J_aload_2 X dX4_shades_13 ?_
      refine J_acmp_eq (tgt := 30) X dX4_shades_14 (by decide) (fun c14 => ?_) (fun c14 => ?_)
      · skip
        have c14 := (hR.place_eq hi hq).mp c14
        rw [if_pos c14] at j4_0
        refine J_iconst (v := 0) X dX4_shades_30 rfl ?_
        exact K4_31 _ j4_0.symm
      · skip
        have c14 : ¬ (i = q) := fun z => c14 ((hR.place_eq hi hq).mpr z)
        rw [if_neg c14] at j4_0
        refine J_aload_0 X dX4_shades_17 ?_
        refine J_aload_1 X dX4_shades_18 ?_
        refine J_aload_2 X dX4_shades_19 ?_
        refine J_callV X (c_X_isNearLine hR i j q hi hj hq) (And.intro gw_2_161 cw_X4_isNearLine) (hR.place hi) rfl rfl rfl (Nat.le_of_ble_eq_true rfl) dX4_shades_20 rfl (J.pi ?_) JE.no
        refine J_if_eq (tgt := 30) X dX4_shades_23 (by decide) (fun c23 => ?_) (fun c23 => ?_)
        · skip
          rw [if_pos c23] at j4_0
          refine J_iconst (v := 0) X dX4_shades_30 rfl ?_
          exact K4_31 _ j4_0.symm
        · skip
          rw [if_neg c23] at j4_0
          refine J_iconst (v := 1) X dX4_shades_26 rfl ?_
          refine J_goto (tgt := 31) X dX4_shades_27 (by decide) ?_
          exact K4_31 _ j4_0.symm
def X_directionOf_j52 (σ : St) (i : Nat) (j : Nat) : Int32 := (if ((nI (j / 8)) - (nI (i / 8))) ≤ (0 : Int32) then (3 : Int32) else (2 : Int32))
def X_directionOf_j42 (σ : St) (i : Nat) (j : Nat) : Int32 := (if ((nI (j % 8)) - (nI (i % 8))) ≤ (0 : Int32) then (1 : Int32) else (0 : Int32))
theorem X_directionOf_j42_b (σ : St) (i : Nat) (j : Nat) : X_directionOf_j42 σ i j = 0 ∨ X_directionOf_j42 σ i j = 1 := by
  unfold X_directionOf_j42
  (repeat' split) <;> first | exact Or.inl rfl | exact Or.inr rfl
def X_directionOf (σ : St) (i : Nat) (j : Nat) : Int32 := (if ((nI (j % 8)) - (nI (i % 8))) = (0 : Int32) then (if ((nI (j / 8)) - (nI (i / 8))) = (0 : Int32) then (4 : Int32) else (if (iAbs ((nI (j % 8)) - (nI (i % 8)))) < (iAbs ((nI (j / 8)) - (nI (i / 8)))) then (X_directionOf_j52 σ i j) else (X_directionOf_j42 σ i j))) else (if (iAbs ((nI (j % 8)) - (nI (i % 8)))) < (iAbs ((nI (j / 8)) - (nI (i / 8)))) then (X_directionOf_j52 σ i j) else (X_directionOf_j42 σ i j)))
theorem cw_X4_directionOf : Cond.instanceMethod yX4_directionOf ∈ GW ∧ Cond.selects RX4 yX4_directionOf yX4_directionOf ∈ GW ∧ Cond.initialized RX4 ∈ GW ∧ Cond.code yX4_directionOf cX4_directionOf 4 (some .int) ∈ GW ∧ yX4_directionOf.cls = RX4 ∧ (yX4_directionOf.cls ≠ "java/lang/invoke/MethodHandle" ∧ yX4_directionOf.cls ≠ "java/lang/invoke/VarHandle") ∧ (parseMethodDescriptor yX4_directionOf.desc).map (fun d => d.parameters.length) = some 1 := ⟨gw_4_123, gw_4_124, gw_1_13, gw_4_125, rfl, ⟨by decide, by decide⟩, by decide +kernel⟩
set_option maxRecDepth 100000 in
set_option maxHeartbeats 4000000 in
theorem c_X_directionOf {l : Launch} {D : va_G} {ca : Nat → Nat} {h : fH} {ρ : Nat → Nat → Nat} {μ : Nat → Nat → Int32} {cap : Nat → Nat} {σ : St} (hR : RX ca h ρ μ cap σ) (i : Nat) (j : Nat) (hi : i < 64) (hj : j < 64) : FM l D ca yX4_directionOf (.code yX4_directionOf cX4_directionOf 4 (some .int)) { frames := 1, cells := 0, slots := 0, locals := 20 } [.ref (ρ 8 i), .ref (ρ 8 j)] h (pI (X_directionOf σ i j) h) noX := by
  refine FM.of [some (.ref (ρ 8 i)), some (.ref (ρ 8 j)), none, none] (by decide) (Nat.le_of_ble_eq_true rfl) rfl ?_
  rintro K X rfl rfl rfl
  have q_v : (X_directionOf σ i j) = (if ((nI (j % 8)) - (nI (i % 8))) = (0 : Int32) then (if ((nI (j / 8)) - (nI (i / 8))) = (0 : Int32) then (4 : Int32) else (if (iAbs ((nI (j % 8)) - (nI (i % 8)))) < (iAbs ((nI (j / 8)) - (nI (i / 8)))) then (X_directionOf_j52 σ i j) else (X_directionOf_j42 σ i j))) else (if (iAbs ((nI (j % 8)) - (nI (i % 8)))) < (iAbs ((nI (j / 8)) - (nI (i / 8)))) then (X_directionOf_j52 σ i j) else (X_directionOf_j42 σ i j))) := rfl
  refine J_aload_1 X dX4_directionOf_0 ?_
  refine J_get X (C := RX4) (T := TX4) (N := 4) (ref := "NightValley$Place") (hR.place hj) rfl 0 (by decide) rfl in_X4 gw_1_212 (fun _ z => z) dX4_directionOf_1 ?_
  refine J_aload_0 X dX4_directionOf_4 ?_
  refine J_get X (C := RX4) (T := TX4) (N := 4) (ref := "NightValley$Place") (hR.place hi) rfl 0 (by decide) rfl in_X4 gw_1_212 (fun _ z => z) dX4_directionOf_5 ?_
  refine J_isub X dX4_directionOf_8 ?_
  refine J_istore_2 X dX4_directionOf_9 rfl (by decide) ?_
  refine J_aload_1 X dX4_directionOf_10 ?_
  refine J_get X (C := RX4) (T := TX4) (N := 4) (ref := "NightValley$Place") (hR.place hj) rfl 1 (by decide) rfl in_X4 gw_1_215 (fun _ z => z) dX4_directionOf_11 ?_
  refine J_aload_0 X dX4_directionOf_14 ?_
  refine J_get X (C := RX4) (T := TX4) (N := 4) (ref := "NightValley$Place") (hR.place hi) rfl 1 (by decide) rfl in_X4 gw_1_215 (fun _ z => z) dX4_directionOf_15 ?_
  refine J_isub X dX4_directionOf_18 ?_
  refine J_istore_3 X dX4_directionOf_19 rfl (by decide) ?_
  refine J_iload_2 X dX4_directionOf_20 ?_
  refine J_if_ne (tgt := 30) X dX4_directionOf_21 (by decide) (fun c21 => ?_) (fun c21 => ?_)
  · skip
    rw [if_neg c21] at q_v
    refine J_iload_3 X dX4_directionOf_30 ?_
    refine J_mabs X gw_2_165 gw_2_166 gw_1_10 gw_2_167 rfl rfl dX4_directionOf_31 ?_
    refine J_iload_2 X dX4_directionOf_34 ?_
    refine J_mabs X gw_2_165 gw_2_166 gw_1_10 gw_2_167 rfl rfl dX4_directionOf_35 ?_
    refine J_icmp_gt (tgt := 51) X dX4_directionOf_38 (by decide) (fun c38 => ?_) (fun c38 => ?_)
    · skip
      rw [if_pos c38] at q_v
      refine J_iload_3 X dX4_directionOf_51 ?_
      have K52_60 : ∀ (v52_0 : Int32), v52_0 = (X_directionOf_j52 σ i j) → J K h [some (.ref (ρ 8 i)), some (.ref (ρ 8 j)), some (.int ((nI (j % 8)) - (nI (i % 8)))), some (.int ((nI (j / 8)) - (nI (i / 8))))] [.int v52_0] 60 0 0 := by
        intro v52_0 ev52_0
        try rw [ev52_0]
        clear ev52_0
        exact J_iret X rfl rfl ⟨by rw [q_v], rfl⟩ dX4_directionOf_60
      have j52_0 : X_directionOf_j52 σ i j = (if ((nI (j / 8)) - (nI (i / 8))) ≤ (0 : Int32) then (3 : Int32) else (2 : Int32)) := rfl
      refine J_if_le (tgt := 59) X dX4_directionOf_52 (by decide) (fun c52 => ?_) (fun c52 => ?_)
      · skip
        rw [if_pos c52] at j52_0
        refine J_iconst (v := 3) X dX4_directionOf_59 rfl ?_
        exact K52_60 _ j52_0.symm
      · skip
        rw [if_neg c52] at j52_0
        refine J_iconst (v := 2) X dX4_directionOf_55 rfl ?_
        refine J_goto (tgt := 60) X dX4_directionOf_56 (by decide) ?_
        exact K52_60 _ j52_0.symm
    · skip
      rw [if_neg c38] at q_v
      refine J_iload_2 X dX4_directionOf_41 ?_
      have K42_50 : ∀ (v42_0 : Int32), v42_0 = (X_directionOf_j42 σ i j) → J K h [some (.ref (ρ 8 i)), some (.ref (ρ 8 j)), some (.int ((nI (j % 8)) - (nI (i % 8)))), some (.int ((nI (j / 8)) - (nI (i / 8))))] [.int v42_0] 50 0 0 := by
        intro v42_0 ev42_0
        try rw [ev42_0]
        clear ev42_0
        exact J_iret X rfl rfl ⟨by rw [q_v], rfl⟩ dX4_directionOf_50
      have j42_0 : X_directionOf_j42 σ i j = (if ((nI (j % 8)) - (nI (i % 8))) ≤ (0 : Int32) then (1 : Int32) else (0 : Int32)) := rfl
      refine J_if_le (tgt := 49) X dX4_directionOf_42 (by decide) (fun c42 => ?_) (fun c42 => ?_)
      · skip
        rw [if_pos c42] at j42_0
        refine J_iconst (v := 1) X dX4_directionOf_49 rfl ?_
        exact K42_50 _ j42_0.symm
      · skip
        rw [if_neg c42] at j42_0
        refine J_iconst (v := 0) X dX4_directionOf_45 rfl ?_
        refine J_goto (tgt := 50) X dX4_directionOf_46 (by decide) ?_
        exact K42_50 _ j42_0.symm
  · skip
    rw [if_pos c21] at q_v
    refine J_iload_3 X dX4_directionOf_24 ?_
    refine J_if_ne (tgt := 30) X dX4_directionOf_25 (by decide) (fun c25 => ?_) (fun c25 => ?_)
    · skip
      rw [if_neg c25] at q_v
      refine J_iload_3 X dX4_directionOf_30 ?_
      refine J_mabs X gw_2_165 gw_2_166 gw_1_10 gw_2_167 rfl rfl dX4_directionOf_31 ?_
      refine J_iload_2 X dX4_directionOf_34 ?_
      refine J_mabs X gw_2_165 gw_2_166 gw_1_10 gw_2_167 rfl rfl dX4_directionOf_35 ?_
      refine J_icmp_gt (tgt := 51) X dX4_directionOf_38 (by decide) (fun c38 => ?_) (fun c38 => ?_)
      · skip
        rw [if_pos c38] at q_v
        refine J_iload_3 X dX4_directionOf_51 ?_
        have K52_60 : ∀ (v52_0 : Int32), v52_0 = (X_directionOf_j52 σ i j) → J K h [some (.ref (ρ 8 i)), some (.ref (ρ 8 j)), some (.int ((nI (j % 8)) - (nI (i % 8)))), some (.int ((nI (j / 8)) - (nI (i / 8))))] [.int v52_0] 60 0 0 := by
          intro v52_0 ev52_0
          try rw [ev52_0]
          clear ev52_0
          exact J_iret X rfl rfl ⟨by rw [q_v], rfl⟩ dX4_directionOf_60
        have j52_0 : X_directionOf_j52 σ i j = (if ((nI (j / 8)) - (nI (i / 8))) ≤ (0 : Int32) then (3 : Int32) else (2 : Int32)) := rfl
        refine J_if_le (tgt := 59) X dX4_directionOf_52 (by decide) (fun c52 => ?_) (fun c52 => ?_)
        · skip
          rw [if_pos c52] at j52_0
          refine J_iconst (v := 3) X dX4_directionOf_59 rfl ?_
          exact K52_60 _ j52_0.symm
        · skip
          rw [if_neg c52] at j52_0
          refine J_iconst (v := 2) X dX4_directionOf_55 rfl ?_
          refine J_goto (tgt := 60) X dX4_directionOf_56 (by decide) ?_
          exact K52_60 _ j52_0.symm
      · skip
        rw [if_neg c38] at q_v
        refine J_iload_2 X dX4_directionOf_41 ?_
        have K42_50 : ∀ (v42_0 : Int32), v42_0 = (X_directionOf_j42 σ i j) → J K h [some (.ref (ρ 8 i)), some (.ref (ρ 8 j)), some (.int ((nI (j % 8)) - (nI (i % 8)))), some (.int ((nI (j / 8)) - (nI (i / 8))))] [.int v42_0] 50 0 0 := by
          intro v42_0 ev42_0
          try rw [ev42_0]
          clear ev42_0
          exact J_iret X rfl rfl ⟨by rw [q_v], rfl⟩ dX4_directionOf_50
        have j42_0 : X_directionOf_j42 σ i j = (if ((nI (j % 8)) - (nI (i % 8))) ≤ (0 : Int32) then (1 : Int32) else (0 : Int32)) := rfl
        refine J_if_le (tgt := 49) X dX4_directionOf_42 (by decide) (fun c42 => ?_) (fun c42 => ?_)
        · skip
          rw [if_pos c42] at j42_0
          refine J_iconst (v := 1) X dX4_directionOf_49 rfl ?_
          exact K42_50 _ j42_0.symm
        · skip
          rw [if_neg c42] at j42_0
          refine J_iconst (v := 0) X dX4_directionOf_45 rfl ?_
          refine J_goto (tgt := 50) X dX4_directionOf_46 (by decide) ?_
          exact K42_50 _ j42_0.symm
    · skip
      rw [if_pos c25] at q_v
      refine J_iconst (v := 4) X dX4_directionOf_28 rfl ?_
      exact J_iret X rfl rfl ⟨by rw [q_v], rfl⟩ dX4_directionOf_29
def X_hasFeast_j1 (σ : St) (i : Nat) (p1 : Int32) : Int32 := (if p1 < (0 : Int32) then (0 : Int32) else (if (1000 : Int32) ≤ p1 then (0 : Int32) else (if (σ 7 (1000 * i + ix p1)) = (0 : Int32) then (0 : Int32) else (1 : Int32))))
theorem X_hasFeast_j1_b (σ : St) (i : Nat) (p1 : Int32) : X_hasFeast_j1 σ i p1 = 0 ∨ X_hasFeast_j1 σ i p1 = 1 := by
  unfold X_hasFeast_j1
  (repeat' split) <;> first | exact Or.inl rfl | exact Or.inr rfl
def X_hasFeast (σ : St) (i : Nat) (p1 : Int32) : Int32 := (X_hasFeast_j1 σ i p1)
theorem X_hasFeast_b (σ : St) (i : Nat) (p1 : Int32) : (X_hasFeast σ i p1) = 0 ∨ (X_hasFeast σ i p1) = 1 := by
  unfold X_hasFeast
  (repeat' split) <;> first | exact Or.inl rfl | exact Or.inr rfl | exact X_hasFeast_j1_b ..
theorem cw_X9_hasFeast : Cond.instanceMethod yX9_hasFeast ∈ GW ∧ Cond.selects RX9 yX9_hasFeast yX9_hasFeast ∈ GW ∧ Cond.initialized RX9 ∈ GW ∧ Cond.code yX9_hasFeast cX9_hasFeast 2 (some .boolean) ∈ GW ∧ yX9_hasFeast.cls = RX9 ∧ (yX9_hasFeast.cls ≠ "java/lang/invoke/MethodHandle" ∧ yX9_hasFeast.cls ≠ "java/lang/invoke/VarHandle") ∧ (parseMethodDescriptor yX9_hasFeast.desc).map (fun d => d.parameters.length) = some 1 := ⟨gw_2_136, gw_2_137, gw_1_8, gw_2_138, rfl, ⟨by decide, by decide⟩, by decide +kernel⟩
set_option maxRecDepth 100000 in
set_option maxHeartbeats 4000000 in
theorem c_X_hasFeast {l : Launch} {D : va_G} {ca : Nat → Nat} {h : fH} {ρ : Nat → Nat → Nat} {μ : Nat → Nat → Int32} {cap : Nat → Nat} {σ : St} (hR : RX ca h ρ μ cap σ) (i : Nat) (p1 : Int32) (hi : i < 4) : FM l D ca yX9_hasFeast (.code yX9_hasFeast cX9_hasFeast 2 (some .boolean)) { frames := 1, cells := 0, slots := 0, locals := 20 } [.ref (ρ 6 i), .int p1] h (pI (X_hasFeast σ i p1) h) noX := by
  refine FM.of [some (.ref (ρ 6 i)), some (.int p1)] (by decide) (Nat.le_of_ble_eq_true rfl) rfl ?_
  rintro K X rfl rfl rfl
  have q_v : (X_hasFeast σ i p1) = (X_hasFeast_j1 σ i p1) := rfl
  refine J_iload_1 X dX9_hasFeast_0 ?_
  have K1_27 : ∀ (v1_0 : Int32), v1_0 = (X_hasFeast_j1 σ i p1) → J K h [some (.ref (ρ 6 i)), some (.int p1)] [.int v1_0] 27 0 0 := by
    intro v1_0 ev1_0
    try rw [ev1_0]
    clear ev1_0
    exact J_zret X rfl (X_hasFeast_j1_b ..) rfl ⟨by rw [q_v], rfl⟩ dX9_hasFeast_27
  have j1_0 : X_hasFeast_j1 σ i p1 = (if p1 < (0 : Int32) then (0 : Int32) else (if (1000 : Int32) ≤ p1 then (0 : Int32) else (if (σ 7 (1000 * i + ix p1)) = (0 : Int32) then (0 : Int32) else (1 : Int32)))) := rfl
  refine J_if_lt (tgt := 26) X dX9_hasFeast_1 (by decide) (fun c1 => ?_) (fun c1 => ?_)
  · skip
    rw [if_pos c1] at j1_0
    refine J_iconst (v := 0) X dX9_hasFeast_26 rfl ?_
    exact K1_27 _ j1_0.symm
  · skip
    rw [if_neg c1] at j1_0
    refine J_iload_1 X dX9_hasFeast_4 ?_
    refine J_aload_0 X dX9_hasFeast_5 ?_
    refine J_get X (C := RX9) (T := TX9) (N := 6) (ref := "NightValley$Zone") (hR.zone hi) rfl 1 (by decide) rfl in_X9 gw_1_121 (fun _ z => z) dX9_hasFeast_6 ?_
    refine J_alen X (v := 1000) (t := 1) (hR.feasts hi) rfl rfl dX9_hasFeast_9 ?_
    refine J_icmp_ge (tgt := 26) X dX9_hasFeast_10 (by decide) (fun c10 => ?_) (fun c10 => ?_)
    · skip
      rw [if_pos c10] at j1_0
      refine J_iconst (v := 0) X dX9_hasFeast_26 rfl ?_
      exact K1_27 _ j1_0.symm
    · skip
      rw [if_neg c10] at j1_0
      refine J_aload_0 X dX9_hasFeast_13 ?_
      refine J_get X (C := RX9) (T := TX9) (N := 6) (ref := "NightValley$Zone") (hR.zone hi) rfl 1 (by decide) rfl in_X9 gw_1_121 (fun _ z => z) dX9_hasFeast_14 ?_
      refine J_iload_1 X dX9_hasFeast_17 ?_
      refine JX_fld X hR hi (vp_c c1 c10 (by decide)) dX9_hasFeast_18 ?_
      refine J_if_eq (tgt := 26) X dX9_hasFeast_19 (by decide) (fun c19 => ?_) (fun c19 => ?_)
      · skip
        rw [if_pos c19] at j1_0
        refine J_iconst (v := 0) X dX9_hasFeast_26 rfl ?_
        exact K1_27 _ j1_0.symm
      · skip
        rw [if_neg c19] at j1_0
        refine J_iconst (v := 1) X dX9_hasFeast_22 rfl ?_
        refine J_goto (tgt := 27) X dX9_hasFeast_23 (by decide) ?_
        exact K1_27 _ j1_0.symm
def X_isOpenAt_j6 (σ : St) (i : Nat) (p1 : Int32) : Int32 := (if (σ 4 i) = (24 : Int32) then (1 : Int32) else (if (σ 4 i) ≤ p1 then (0 : Int32) else (if p1 < (6 : Int32) then (0 : Int32) else (1 : Int32))))
theorem X_isOpenAt_j6_b (σ : St) (i : Nat) (p1 : Int32) : X_isOpenAt_j6 σ i p1 = 0 ∨ X_isOpenAt_j6 σ i p1 = 1 := by
  unfold X_isOpenAt_j6
  (repeat' split) <;> first | exact Or.inl rfl | exact Or.inr rfl
def X_isOpenAt (σ : St) (i : Nat) (p1 : Int32) : Int32 := (X_isOpenAt_j6 σ i p1)
theorem X_isOpenAt_b (σ : St) (i : Nat) (p1 : Int32) : (X_isOpenAt σ i p1) = 0 ∨ (X_isOpenAt σ i p1) = 1 := by
  unfold X_isOpenAt
  (repeat' split) <;> first | exact Or.inl rfl | exact Or.inr rfl | exact X_isOpenAt_j6_b ..
theorem cw_X9_isOpenAt : Cond.instanceMethod yX9_isOpenAt ∈ GW ∧ Cond.selects RX9 yX9_isOpenAt yX9_isOpenAt ∈ GW ∧ Cond.initialized RX9 ∈ GW ∧ Cond.code yX9_isOpenAt cX9_isOpenAt 2 (some .boolean) ∈ GW ∧ yX9_isOpenAt.cls = RX9 ∧ (yX9_isOpenAt.cls ≠ "java/lang/invoke/MethodHandle" ∧ yX9_isOpenAt.cls ≠ "java/lang/invoke/VarHandle") ∧ (parseMethodDescriptor yX9_isOpenAt.desc).map (fun d => d.parameters.length) = some 1 := ⟨gw_2_132, gw_2_133, gw_1_8, gw_2_134, rfl, ⟨by decide, by decide⟩, by decide +kernel⟩
set_option maxRecDepth 100000 in
set_option maxHeartbeats 4000000 in
theorem c_X_isOpenAt {l : Launch} {D : va_G} {ca : Nat → Nat} {h : fH} {ρ : Nat → Nat → Nat} {μ : Nat → Nat → Int32} {cap : Nat → Nat} {σ : St} (hR : RX ca h ρ μ cap σ) (i : Nat) (p1 : Int32) (hi : i < 4) : FM l D ca yX9_isOpenAt (.code yX9_isOpenAt cX9_isOpenAt 2 (some .boolean)) { frames := 1, cells := 0, slots := 0, locals := 20 } [.ref (ρ 6 i), .int p1] h (pI (X_isOpenAt σ i p1) h) noX := by
  refine FM.of [some (.ref (ρ 6 i)), some (.int p1)] (by decide) (Nat.le_of_ble_eq_true rfl) rfl ?_
  rintro K X rfl rfl rfl
  have q_v : (X_isOpenAt σ i p1) = (X_isOpenAt_j6 σ i p1) := rfl
  refine J_aload_0 X dX9_isOpenAt_0 ?_
  refine J_get X (C := RX9) (T := TX9) (N := 6) (ref := "NightValley$Zone") (hR.zone hi) rfl 3 (by decide) rfl in_X9 gw_1_124 (fun _ z => z) dX9_isOpenAt_1 ?_
  refine J_bipush (v := (24 : Int32)) X dX9_isOpenAt_4 (by decide) ?_
  have K6_28 : ∀ (v6_0 : Int32), v6_0 = (X_isOpenAt_j6 σ i p1) → J K h [some (.ref (ρ 6 i)), some (.int p1)] [.int v6_0] 28 0 0 := by
    intro v6_0 ev6_0
    try rw [ev6_0]
    clear ev6_0
    exact J_zret X rfl (X_isOpenAt_j6_b ..) rfl ⟨by rw [q_v], rfl⟩ dX9_isOpenAt_28
  have j6_0 : X_isOpenAt_j6 σ i p1 = (if (σ 4 i) = (24 : Int32) then (1 : Int32) else (if (σ 4 i) ≤ p1 then (0 : Int32) else (if p1 < (6 : Int32) then (0 : Int32) else (1 : Int32)))) := rfl
  refine J_icmp_eq (tgt := 23) X dX9_isOpenAt_6 (by decide) (fun c6 => ?_) (fun c6 => ?_)
  · skip
    rw [if_pos c6] at j6_0
    refine J_iconst (v := 1) X dX9_isOpenAt_23 rfl ?_
    refine J_goto (tgt := 28) X dX9_isOpenAt_24 (by decide) ?_
    exact K6_28 _ j6_0.symm
  · skip
    rw [if_neg c6] at j6_0
    refine J_iload_1 X dX9_isOpenAt_9 ?_
    refine J_aload_0 X dX9_isOpenAt_10 ?_
    refine J_get X (C := RX9) (T := TX9) (N := 6) (ref := "NightValley$Zone") (hR.zone hi) rfl 3 (by decide) rfl in_X9 gw_1_124 (fun _ z => z) dX9_isOpenAt_11 ?_
    refine J_icmp_ge (tgt := 27) X dX9_isOpenAt_14 (by decide) (fun c14 => ?_) (fun c14 => ?_)
    · skip
      rw [if_pos c14] at j6_0
      refine J_iconst (v := 0) X dX9_isOpenAt_27 rfl ?_
      exact K6_28 _ j6_0.symm
    · skip
      rw [if_neg c14] at j6_0
      refine J_iload_1 X dX9_isOpenAt_17 ?_
      refine J_bipush (v := (6 : Int32)) X dX9_isOpenAt_18 (by decide) ?_
      refine J_icmp_lt (tgt := 27) X dX9_isOpenAt_20 (by decide) (fun c20 => ?_) (fun c20 => ?_)
      · skip
        rw [if_pos c20] at j6_0
        refine J_iconst (v := 0) X dX9_isOpenAt_27 rfl ?_
        exact K6_28 _ j6_0.symm
      · skip
        rw [if_neg c20] at j6_0
        refine J_iconst (v := 1) X dX9_isOpenAt_23 rfl ?_
        refine J_goto (tgt := 28) X dX9_isOpenAt_24 (by decide) ?_
        exact K6_28 _ j6_0.symm
def X_agrees_j2 (σ : St) (i : Nat) (p1 : Int32) (p2 : Int32) : Int32 := (if p1 ≤ p2 then (0 : Int32) else (if ((2 : Int32) * (p1 + p2)) < (σ 9 i) then (0 : Int32) else (1 : Int32)))
theorem X_agrees_j2_b (σ : St) (i : Nat) (p1 : Int32) (p2 : Int32) : X_agrees_j2 σ i p1 p2 = 0 ∨ X_agrees_j2 σ i p1 p2 = 1 := by
  unfold X_agrees_j2
  (repeat' split) <;> first | exact Or.inl rfl | exact Or.inr rfl
def X_agrees (σ : St) (i : Nat) (p1 : Int32) (p2 : Int32) : Int32 := (X_agrees_j2 σ i p1 p2)
theorem X_agrees_b (σ : St) (i : Nat) (p1 : Int32) (p2 : Int32) : (X_agrees σ i p1 p2) = 0 ∨ (X_agrees σ i p1 p2) = 1 := by
  unfold X_agrees
  (repeat' split) <;> first | exact Or.inl rfl | exact Or.inr rfl | exact X_agrees_j2_b ..
theorem cw_X7_agrees : Cond.instanceMethod yX7_agrees ∈ GW ∧ Cond.selects RX7 yX7_agrees yX7_agrees ∈ GW ∧ Cond.initialized RX7 ∈ GW ∧ Cond.code yX7_agrees cX7_agrees 3 (some .boolean) ∈ GW ∧ yX7_agrees.cls = RX7 ∧ (yX7_agrees.cls ≠ "java/lang/invoke/MethodHandle" ∧ yX7_agrees.cls ≠ "java/lang/invoke/VarHandle") ∧ (parseMethodDescriptor yX7_agrees.desc).map (fun d => d.parameters.length) = some 2 := ⟨gw_3_130, gw_3_131, gw_1_22, gw_3_132, rfl, ⟨by decide, by decide⟩, by decide +kernel⟩
set_option maxRecDepth 100000 in
set_option maxHeartbeats 4000000 in
theorem c_X_agrees {l : Launch} {D : va_G} {ca : Nat → Nat} {h : fH} {ρ : Nat → Nat → Nat} {μ : Nat → Nat → Int32} {cap : Nat → Nat} {σ : St} (hR : RX ca h ρ μ cap σ) (i : Nat) (p1 : Int32) (p2 : Int32) (hi : i < ix (σ 8 0)) : FM l D ca yX7_agrees (.code yX7_agrees cX7_agrees 3 (some .boolean)) { frames := 1, cells := 0, slots := 0, locals := 20 } [.ref (ρ 9 i), .int p1, .int p2] h (pI (X_agrees σ i p1 p2) h) noX := by
  refine FM.of [some (.ref (ρ 9 i)), some (.int p1), some (.int p2)] (by decide) (Nat.le_of_ble_eq_true rfl) rfl ?_
  rintro K X rfl rfl rfl
  have q_v : (X_agrees σ i p1 p2) = (X_agrees_j2 σ i p1 p2) := rfl
  refine J_iload_1 X dX7_agrees_0 ?_
  refine J_iload_2 X dX7_agrees_1 ?_
  have K2_22 : ∀ (v2_0 : Int32), v2_0 = (X_agrees_j2 σ i p1 p2) → J K h [some (.ref (ρ 9 i)), some (.int p1), some (.int p2)] [.int v2_0] 22 0 0 := by
    intro v2_0 ev2_0
    try rw [ev2_0]
    clear ev2_0
    exact J_zret X rfl (X_agrees_j2_b ..) rfl ⟨by rw [q_v], rfl⟩ dX7_agrees_22
  have j2_0 : X_agrees_j2 σ i p1 p2 = (if p1 ≤ p2 then (0 : Int32) else (if ((2 : Int32) * (p1 + p2)) < (σ 9 i) then (0 : Int32) else (1 : Int32))) := rfl
  refine J_icmp_le (tgt := 21) X dX7_agrees_2 (by decide) (fun c2 => ?_) (fun c2 => ?_)
  · skip
    rw [if_pos c2] at j2_0
    refine J_iconst (v := 0) X dX7_agrees_21 rfl ?_
    exact K2_22 _ j2_0.symm
  · skip
    rw [if_neg c2] at j2_0
    refine J_iconst (v := 2) X dX7_agrees_5 rfl ?_
    refine J_iload_1 X dX7_agrees_6 ?_
    refine J_iload_2 X dX7_agrees_7 ?_
    refine J_iadd X dX7_agrees_8 ?_
    refine J_imul X dX7_agrees_9 ?_
    refine J_aload_0 X dX7_agrees_10 ?_
    refine J_get X (C := RX7) (T := TX7) (N := 5) (ref := "NightValley$Village") (hR.village hi) rfl 0 (by decide) rfl in_X7 gw_3_24 (fun _ z => z) dX7_agrees_11 ?_
    refine J_icmp_lt (tgt := 21) X dX7_agrees_14 (by decide) (fun c14 => ?_) (fun c14 => ?_)
    · skip
      rw [if_pos c14] at j2_0
      refine J_iconst (v := 0) X dX7_agrees_21 rfl ?_
      exact K2_22 _ j2_0.symm
    · skip
      rw [if_neg c14] at j2_0
      refine J_iconst (v := 1) X dX7_agrees_17 rfl ?_
      refine J_goto (tgt := 22) X dX7_agrees_18 (by decide) ?_
      exact K2_22 _ j2_0.symm
theorem rd1 {n : Nat} (hn : n ≤ 64) (h : ¬ nI n = 0) : vp_in (nI n - 1) n := by
  have h0 : ¬ n = 0 := fun z => h (by rw [z]; rfl)
  have h2 := pk_sub (a := n) (b := 1) (by omega)
  rw [show (1 : Int32) = nI 1 from rfl, h2]
  exact vp_in_nI (by omega) (by omega)
end
