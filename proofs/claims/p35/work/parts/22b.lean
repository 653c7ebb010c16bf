noncomputable section
def X_isBurning_j44 (σ : St) (i : Nat) : Int32 := (if (σ 22 i) = (0 : Int32) then (if (X_isOpenAt σ (ix (σ 3 (ix (σ 15 i)))) ((σ 0 0) - (σ 0 0) / (24 : Int32) * (24 : Int32))) = (0 : Int32) then (if (X_hasFeast σ (ix (σ 3 (ix (σ 15 i)))) ((σ 0 0) / (24 : Int32))) = (0 : Int32) then (0 : Int32) else (1 : Int32)) else (1 : Int32)) else (1 : Int32))
theorem X_isBurning_j44_b (σ : St) (i : Nat) : X_isBurning_j44 σ i = 0 ∨ X_isBurning_j44 σ i = 1 := by
  unfold X_isBurning_j44
  (repeat' split) <;> first | exact Or.inl rfl | exact Or.inr rfl
def X_isBurning (σ : St) (i : Nat) : Int32 := (if (X_hasHour σ i ((σ 0 0) - (σ 0 0) / (24 : Int32) * (24 : Int32))) = (0 : Int32) then (0 : Int32) else (if (σ 12 (ix (σ 14 i))) ≤ (σ 0 0) then (X_isBurning_j44 σ i) else (0 : Int32)))
theorem X_isBurning_b (σ : St) (i : Nat) : (X_isBurning σ i) = 0 ∨ (X_isBurning σ i) = 1 := by
  unfold X_isBurning
  (repeat' split) <;> first | exact Or.inl rfl | exact Or.inr rfl | exact X_isBurning_j44_b ..
theorem cw_X10_isBurning : Cond.instanceMethod yX10_isBurning ∈ GW ∧ Cond.selects RX10 yX10_isBurning yX10_isBurning ∈ GW ∧ Cond.initialized RX10 ∈ GW ∧ Cond.code yX10_isBurning cX10_isBurning 4 (some .boolean) ∈ GW ∧ yX10_isBurning.cls = RX10 ∧ (yX10_isBurning.cls ≠ "java/lang/invoke/MethodHandle" ∧ yX10_isBurning.cls ≠ "java/lang/invoke/VarHandle") ∧ (parseMethodDescriptor yX10_isBurning.desc).map (fun d => d.parameters.length) = some 1 := ⟨gw_2_125, gws_6, gw_1_1, gw_2_126, rfl, ⟨by decide, by decide⟩, by decide +kernel⟩
set_option maxRecDepth 100000 in
set_option maxHeartbeats 4000000 in
theorem c_X_isBurning {l : Launch} {D : va_G} {ca : Nat → Nat} {h : fH} {ρ : Nat → Nat → Nat} {μ : Nat → Nat → Int32} {cap : Nat → Nat} {σ : St} (hR : RX ca h ρ μ cap σ) (hI : InvX σ) (i : Nat) (hi : i < ix (σ 13 0)) : FM l D ca yX10_isBurning (.code yX10_isBurning cX10_isBurning 4 (some .boolean)) { frames := 2, cells := 0, slots := 0, locals := 41 } [.ref (ρ 0 0), .ref (ρ 10 i)] h (pI (X_isBurning σ i) h) noX := by
  refine FM.of [some (.ref (ρ 0 0)), some (.ref (ρ 10 i)), none, none] (by decide) (Nat.le_of_ble_eq_true rfl) rfl ?_
  rintro K X rfl rfl rfl
  have q_v : (X_isBurning σ i) = (if (X_hasHour σ i ((σ 0 0) - (σ 0 0) / (24 : Int32) * (24 : Int32))) = (0 : Int32) then (0 : Int32) else (if (σ 12 (ix (σ 14 i))) ≤ (σ 0 0) then (X_isBurning_j44 σ i) else (0 : Int32))) := rfl
  refine J_aload_0 X dX10_isBurning_0 ?_
  refine J_get X (C := RX10) (T := TX10) (N := 11) (ref := "NightValley") hR.root rfl 9 (by decide) rfl in_X10 gw_2_1 (fun _ z => z) dX10_isBurning_1 ?_
  refine J_bipush (v := (24 : Int32)) X dX10_isBurning_4 (by decide) ?_
  refine J_irem X dX10_isBurning_6 (by decide) ?_
  refine J_istore_2 X dX10_isBurning_7 rfl (by decide) ?_
  refine J_aload_1 X dX10_isBurning_8 ?_
  refine J_iload_2 X dX10_isBurning_9 ?_
  refine J_callV X (c_X_hasHour hR i ((σ 0 0) - (σ 0 0) / (24 : Int32) * (24 : Int32)) hi) (And.intro gw_2_127 cw_X2_hasHour) (hR.lamp hi) rfl rfl rfl (Nat.le_of_ble_eq_true rfl) dX10_isBurning_10 rfl (J.pi ?_) JE.no
  refine J_if_eq (tgt := 30) X dX10_isBurning_13 (by decide) (fun c13 => ?_) (fun c13 => ?_)
  · skip
    rw [if_pos c13] at q_v
    refine J_iconst (v := 0) X dX10_isBurning_30 rfl ?_
    exact J_zret X rfl (by first | exact Or.inl rfl | exact Or.inr rfl) rfl ⟨by rw [q_v], rfl⟩ dX10_isBurning_31
  · skip
    rw [if_neg c13] at q_v
    refine J_aload_0 X dX10_isBurning_16 ?_
    refine J_get X (C := RX10) (T := TX10) (N := 11) (ref := "NightValley") hR.root rfl 9 (by decide) rfl in_X10 gw_2_1 (fun _ z => z) dX10_isBurning_17 ?_
    refine J_aload_1 X dX10_isBurning_20 ?_
    refine J_get X (C := RX2) (T := TX2) (N := 12) (ref := "NightValley$Lamp") (hR.lamp hi) rfl 0 (by decide) rfl in_X2 gw_3_57 (fun _ z => z) dX10_isBurning_21 ?_
    refine J_get X (C := RX7) (T := TX7) (N := 5) (ref := "NightValley$Village") (hR.village (IX_own hI hi)) rfl 4 (by decide) rfl in_X7 gw_3_31 (fun _ z => z) dX10_isBurning_24 ?_
    refine J_icmp_ge (tgt := 32) X dX10_isBurning_27 (by decide) (fun c27 => ?_) (fun c27 => ?_)
    · skip
      rw [if_pos c27] at q_v
      refine J_aload_1 X dX10_isBurning_32 ?_
      refine J_get X (C := RX2) (T := TX2) (N := 12) (ref := "NightValley$Lamp") (hR.lamp hi) rfl 1 (by decide) rfl in_X2 gw_3_59 (fun _ z => z) dX10_isBurning_33 ?_
      refine J_get X (C := RX4) (T := TX4) (N := 4) (ref := "NightValley$Place") (hR.place (IX_place hI _)) rfl 2 (by decide) rfl in_X4 gw_1_219 (fun _ z => z) dX10_isBurning_36 ?_
      refine J_astore_3 X dX10_isBurning_39 rfl (by decide) ?_
      refine J_aload_1 X dX10_isBurning_40 ?_
      refine J_get X (C := RX2) (T := TX2) (N := 12) (ref := "NightValley$Lamp") (hR.lamp hi) rfl 8 (by decide) rfl in_X2 gw_3_71 (fun _ z => z) dX10_isBurning_41 ?_
      have K44_74 : ∀ (v44_0 : Int32), v44_0 = (X_isBurning_j44 σ i) → J K h [some (.ref (ρ 0 0)), some (.ref (ρ 10 i)), some (.int ((σ 0 0) - (σ 0 0) / (24 : Int32) * (24 : Int32))), some (.ref (ρ 6 (ix (σ 3 (ix (σ 15 i))))))] [.int v44_0] 74 0 0 := by
        intro v44_0 ev44_0
        try rw [ev44_0]
        clear ev44_0
        exact J_zret X rfl (X_isBurning_j44_b ..) rfl ⟨by rw [q_v], rfl⟩ dX10_isBurning_74
      have j44_0 : X_isBurning_j44 σ i = (if (σ 22 i) = (0 : Int32) then (if (X_isOpenAt σ (ix (σ 3 (ix (σ 15 i)))) ((σ 0 0) - (σ 0 0) / (24 : Int32) * (24 : Int32))) = (0 : Int32) then (if (X_hasFeast σ (ix (σ 3 (ix (σ 15 i)))) ((σ 0 0) / (24 : Int32))) = (0 : Int32) then (0 : Int32) else (1 : Int32)) else (1 : Int32)) else (1 : Int32)) := rfl
      refine J_if_ne (tgt := 69) X dX10_isBurning_44 (by decide) (fun c44 => ?_) (fun c44 => ?_)
      · skip
        rw [if_neg c44] at j44_0
        refine J_iconst (v := 1) X dX10_isBurning_69 rfl ?_
        refine J_goto (tgt := 74) X dX10_isBurning_70 (by decide) ?_
        exact K44_74 _ j44_0.symm
      · skip
        rw [if_pos c44] at j44_0
        refine J_aload_3 X dX10_isBurning_47 ?_
        refine J_iload_2 X dX10_isBurning_48 ?_
        refine J_callV X (c_X_isOpenAt hR (ix (σ 3 (ix (σ 15 i)))) ((σ 0 0) - (σ 0 0) / (24 : Int32) * (24 : Int32)) (IX_zone hI _)) (And.intro gw_2_131 cw_X9_isOpenAt) (hR.zone (IX_zone hI _)) rfl rfl rfl (Nat.le_of_ble_eq_true rfl) dX10_isBurning_49 rfl (J.pi ?_) JE.no
        refine J_if_ne (tgt := 69) X dX10_isBurning_52 (by decide) (fun c52 => ?_) (fun c52 => ?_)
        · skip
          rw [if_neg c52] at j44_0
          refine J_iconst (v := 1) X dX10_isBurning_69 rfl ?_
          refine J_goto (tgt := 74) X dX10_isBurning_70 (by decide) ?_
          exact K44_74 _ j44_0.symm
        · skip
          rw [if_pos c52] at j44_0
          refine J_aload_3 X dX10_isBurning_55 ?_
          refine J_aload_0 X dX10_isBurning_56 ?_
          refine J_get X (C := RX10) (T := TX10) (N := 11) (ref := "NightValley") hR.root rfl 9 (by decide) rfl in_X10 gw_2_1 (fun _ z => z) dX10_isBurning_57 ?_
          refine J_bipush (v := (24 : Int32)) X dX10_isBurning_60 (by decide) ?_
          refine J_idiv X dX10_isBurning_62 (by decide) ?_
          refine J_callV X (c_X_hasFeast hR (ix (σ 3 (ix (σ 15 i)))) ((σ 0 0) / (24 : Int32)) (IX_zone hI _)) (And.intro gw_2_135 cw_X9_hasFeast) (hR.zone (IX_zone hI _)) rfl rfl rfl (Nat.le_of_ble_eq_true rfl) dX10_isBurning_63 rfl (J.pi ?_) JE.no
          refine J_if_eq (tgt := 73) X dX10_isBurning_66 (by decide) (fun c66 => ?_) (fun c66 => ?_)
          · skip
            rw [if_pos c66] at j44_0
            refine J_iconst (v := 0) X dX10_isBurning_73 rfl ?_
            exact K44_74 _ j44_0.symm
          · skip
            rw [if_neg c66] at j44_0
            refine J_iconst (v := 1) X dX10_isBurning_69 rfl ?_
            refine J_goto (tgt := 74) X dX10_isBurning_70 (by decide) ?_
            exact K44_74 _ j44_0.symm
    · skip
      rw [if_neg c27] at q_v
      refine J_iconst (v := 0) X dX10_isBurning_30 rfl ?_
      exact J_zret X rfl (by first | exact Or.inl rfl | exact Or.inr rfl) rfl ⟨by rw [q_v], rfl⟩ dX10_isBurning_31
def X_isShaded_L65 (σ : St) (i : Nat) (j : Nat) (k55 : Nat) (K65 : Unit → Int32) : Nat → Nat → Unit → Int32
  | 0, _, _ => K65 ()
  | n65 + 1, k65, _ => (if (((8 : Int32) * (nI k55)) + (nI k65)) < (0 : Int32) then (X_isShaded_L65 σ i j k55 K65 n65 (k65 + 1) ()) else (if (nI (xL σ 1)) ≤ (((8 : Int32) * (nI k55)) + (nI k65)) then (X_isShaded_L65 σ i j k55 K65 n65 (k65 + 1) ()) else (if (X_shades σ (ix (((8 : Int32) * (nI k55)) + (nI k65))) i j) = (0 : Int32) then (X_isShaded_L65 σ i j k55 K65 n65 (k65 + 1) ()) else (1 : Int32))))
def X_isShaded_L55 (σ : St) (i : Nat) (j : Nat) (K55 : Unit → Int32) : Nat → Nat → Unit → Int32
  | 0, _, _ => K55 ()
  | n55 + 1, k55, _ => (X_isShaded_L65 σ i j k55 (fun _ => (X_isShaded_L55 σ i j K55 n55 (k55 + 1) ())) (ix (iMax (nI (i % 8)) (nI (j % 8))) + 1 - ix (iMin (nI (i % 8)) (nI (j % 8)))) (ix (iMin (nI (i % 8)) (nI (j % 8)))) ())
def X_isShaded (σ : St) (i : Nat) (j : Nat) : Int32 := (X_isShaded_L55 σ i j (fun _ => (0 : Int32)) (ix (iMax (nI (i / 8)) (nI (j / 8))) + 1 - ix (iMin (nI (i / 8)) (nI (j / 8)))) (ix (iMin (nI (i / 8)) (nI (j / 8)))) ())
theorem cw_X10_isShaded : Cond.instanceMethod yX10_isShaded ∈ GW ∧ Cond.selects RX10 yX10_isShaded yX10_isShaded ∈ GW ∧ Cond.initialized RX10 ∈ GW ∧ Cond.code yX10_isShaded cX10_isShaded 10 (some .boolean) ∈ GW ∧ yX10_isShaded.cls = RX10 ∧ (yX10_isShaded.cls ≠ "java/lang/invoke/MethodHandle" ∧ yX10_isShaded.cls ≠ "java/lang/invoke/VarHandle") ∧ (parseMethodDescriptor yX10_isShaded.desc).map (fun d => d.parameters.length) = some 2 := ⟨gw_2_153, gws_7, gw_1_1, gw_2_154, rfl, ⟨by decide, by decide⟩, by decide +kernel⟩
set_option maxRecDepth 100000 in
set_option maxHeartbeats 4000000 in
theorem c_X_isShaded {l : Launch} {D : va_G} {ca : Nat → Nat} {h : fH} {ρ : Nat → Nat → Nat} {μ : Nat → Nat → Int32} {cap : Nat → Nat} {σ : St} (hR : RX ca h ρ μ cap σ) (hI : InvX σ) (i : Nat) (j : Nat) (hi : i < 64) (hj : j < 64) : FM l D ca yX10_isShaded (.code yX10_isShaded cX10_isShaded 10 (some .boolean)) { frames := 4, cells := 0, slots := 0, locals := 84 } [.ref (ρ 0 0), .ref (ρ 8 i), .ref (ρ 8 j)] h (pI (X_isShaded σ i j) h) noX := by
  refine FM.of [some (.ref (ρ 0 0)), some (.ref (ρ 8 i)), some (.ref (ρ 8 j)), none, none, none, none, none, none, none] (by decide) (Nat.le_of_ble_eq_true rfl) rfl ?_
  rintro K X rfl rfl rfl
  have q_v : (X_isShaded σ i j) = (X_isShaded_L55 σ i j (fun _ => (0 : Int32)) (ix (iMax (nI (i / 8)) (nI (j / 8))) + 1 - ix (iMin (nI (i / 8)) (nI (j / 8)))) (ix (iMin (nI (i / 8)) (nI (j / 8)))) ()) := rfl
  refine J_aload_1 X dX10_isShaded_0 ?_
  refine J_get X (C := RX4) (T := TX4) (N := 4) (ref := "NightValley$Place") (hR.place hi) rfl 0 (by decide) rfl in_X4 gw_1_214 (fun _ z => z) dX10_isShaded_1 ?_
  refine J_aload_2 X dX10_isShaded_4 ?_
  refine J_get X (C := RX4) (T := TX4) (N := 4) (ref := "NightValley$Place") (hR.place hj) rfl 0 (by decide) rfl in_X4 gw_1_214 (fun _ z => z) dX10_isShaded_5 ?_
  refine J_mmin X gw_2_155 gw_1_199 gw_1_10 gw_1_200 rfl rfl dX10_isShaded_8 ?_
  refine J_istore_3 X dX10_isShaded_11 rfl (by decide) ?_
  refine J_aload_1 X dX10_isShaded_12 ?_
  refine J_get X (C := RX4) (T := TX4) (N := 4) (ref := "NightValley$Place") (hR.place hi) rfl 0 (by decide) rfl in_X4 gw_1_214 (fun _ z => z) dX10_isShaded_13 ?_
  refine J_aload_2 X dX10_isShaded_16 ?_
  refine J_get X (C := RX4) (T := TX4) (N := 4) (ref := "NightValley$Place") (hR.place hj) rfl 0 (by decide) rfl in_X4 gw_1_214 (fun _ z => z) dX10_isShaded_17 ?_
  refine J_mmax X gw_2_156 gw_1_165 gw_1_10 gw_1_166 rfl rfl dX10_isShaded_20 ?_
  refine J_istore_4 X dX10_isShaded_23 rfl (by decide) ?_
  refine J_aload_1 X dX10_isShaded_25 ?_
  refine J_get X (C := RX4) (T := TX4) (N := 4) (ref := "NightValley$Place") (hR.place hi) rfl 1 (by decide) rfl in_X4 gw_1_217 (fun _ z => z) dX10_isShaded_26 ?_
  refine J_aload_2 X dX10_isShaded_29 ?_
  refine J_get X (C := RX4) (T := TX4) (N := 4) (ref := "NightValley$Place") (hR.place hj) rfl 1 (by decide) rfl in_X4 gw_1_217 (fun _ z => z) dX10_isShaded_30 ?_
  refine J_mmin X gw_2_155 gw_1_199 gw_1_10 gw_1_200 rfl rfl dX10_isShaded_33 ?_
  refine J_istore_5 X dX10_isShaded_36 rfl (by decide) ?_
  refine J_aload_1 X dX10_isShaded_38 ?_
  refine J_get X (C := RX4) (T := TX4) (N := 4) (ref := "NightValley$Place") (hR.place hi) rfl 1 (by decide) rfl in_X4 gw_1_217 (fun _ z => z) dX10_isShaded_39 ?_
  refine J_aload_2 X dX10_isShaded_42 ?_
  refine J_get X (C := RX4) (T := TX4) (N := 4) (ref := "NightValley$Place") (hR.place hj) rfl 1 (by decide) rfl in_X4 gw_1_217 (fun _ z => z) dX10_isShaded_43 ?_
  refine J_mmax X gw_2_156 gw_1_165 gw_1_10 gw_1_166 rfl rfl dX10_isShaded_46 ?_
  refine J_istore_6 X dX10_isShaded_49 rfl (by decide) ?_
  refine J_iload_5 X dX10_isShaded_51 ?_
  refine J_istore_7 X dX10_isShaded_53 rfl (by decide) ?_
  have tY := mn8 (a := i / 8) (b := j / 8) (by omega) (by omega)
  have bY := mx8 (a := i / 8) (b := j / 8) (by omega) (by omega)
  have tX := mn8 (a := i % 8) (b := j % 8) (by omega) (by omega)
  have bX := mx8 (a := i % 8) (b := j % 8) (by omega) (by omega)
  obtain ⟨K55, hK55⟩ : ∃ f : Unit → Int32, f = (fun _ => (0 : Int32)) := ⟨_, rfl⟩
  have X55 : ∀  (_ : True), (X_isShaded σ i j) = (0 : Int32) → J K h [some (.ref (ρ 0 0)), some (.ref (ρ 8 i)), some (.ref (ρ 8 j)), some (.int (iMin (nI (i % 8)) (nI (j % 8)))), some (.int (iMax (nI (i % 8)) (nI (j % 8)))), some (.int (iMin (nI (i / 8)) (nI (j / 8)))), some (.int (iMax (nI (i / 8)) (nI (j / 8)))), none, none, none] [] 133 0 0 := by
    intro   _  q_v
    refine J_iconst (v := 0) X dX10_isShaded_133 rfl ?_
    exact J_zret X rfl (by first | exact Or.inl rfl | exact Or.inr rfl) rfl ⟨by rw [q_v], rfl⟩ dX10_isShaded_134
  have L55 : ∀ (n55 k55 : Nat) , k55 + n55 = (ix (iMax (nI (i / 8)) (nI (j / 8))) + 1) → (X_isShaded σ i j) = (X_isShaded_L55 σ i j K55 n55 k55 ()) → J K h [some (.ref (ρ 0 0)), some (.ref (ρ 8 i)), some (.ref (ρ 8 j)), some (.int (iMin (nI (i % 8)) (nI (j % 8)))), some (.int (iMax (nI (i % 8)) (nI (j % 8)))), some (.int (iMin (nI (i / 8)) (nI (j / 8)))), some (.int (iMax (nI (i / 8)) (nI (j / 8)))), some (.int (nI k55)), none, none] [] 55 0 0 := by
    intro n55
    induction n55 with
    | zero =>
      intro k55   hk55  q_v
      rw [X_isShaded_L55] at q_v
      refine J_iload_7 X dX10_isShaded_55 ?_
      refine J_iload_6 X dX10_isShaded_57 ?_
      refine J_icmp_gt (tgt := 133) X dX10_isShaded_59 (by decide) (fun _ => ?_) (fun c => absurd (lpg_exit bY.1 (by omega) hk55) c)
      rw [hK55] at q_v
      refine J.subL (lv' := [some (.ref (ρ 0 0)), some (.ref (ρ 8 i)), some (.ref (ρ 8 j)), some (.int (iMin (nI (i % 8)) (nI (j % 8)))), some (.int (iMax (nI (i % 8)) (nI (j % 8)))), some (.int (iMin (nI (i / 8)) (nI (j / 8)))), some (.int (iMax (nI (i / 8)) (nI (j / 8)))), none, none, none]) (And.intro rfl (And.intro rfl (And.intro rfl (And.intro rfl (And.intro rfl (And.intro rfl (And.intro rfl trivial))))))) ?_
      exact X55   trivial  q_v
    | succ n55 ih55 =>
      intro k55   hk55  q_v
      rw [X_isShaded_L55] at q_v
      have hlt55 : k55 < (ix (iMax (nI (i / 8)) (nI (j / 8))) + 1) := by omega
      refine J_iload_7 X dX10_isShaded_55 ?_
      refine J_iload_6 X dX10_isShaded_57 ?_
      refine J_icmp_gt (tgt := 133) X dX10_isShaded_59 (by decide) (fun c => absurd c (lpg_stay bY.1 (by omega) hk55)) (fun _ => ?_)
      refine J_iload_3 X dX10_isShaded_62 ?_
      refine J_istore_8 X dX10_isShaded_63 rfl (by decide) ?_
      obtain ⟨K65, hK65⟩ : ∃ f : Unit → Int32, f = (fun _ => (X_isShaded_L55 σ i j K55 n55 (k55 + 1) ())) := ⟨_, rfl⟩
      have X65 : ∀  (_ : True), (X_isShaded σ i j) = (X_isShaded_L55 σ i j K55 n55 (k55 + 1) ()) → J K h [some (.ref (ρ 0 0)), some (.ref (ρ 8 i)), some (.ref (ρ 8 j)), some (.int (iMin (nI (i % 8)) (nI (j % 8)))), some (.int (iMax (nI (i % 8)) (nI (j % 8)))), some (.int (iMin (nI (i / 8)) (nI (j / 8)))), some (.int (iMax (nI (i / 8)) (nI (j / 8)))), some (.int (nI k55)), none, none] [] 127 0 0 := by
        intro   _  q_v
        refine J_iinc_7 (v := (nI (k55 + 1))) X dX10_isShaded_127 (nI_1 _) rfl (by decide) ?_
        refine J_goto (tgt := 55) X dX10_isShaded_130 (by decide) ?_
        exact ih55 (k55 + 1)   (by omega)  q_v
      have L65 : ∀ (n65 k65 : Nat) , k65 + n65 = (ix (iMax (nI (i % 8)) (nI (j % 8))) + 1) → (X_isShaded σ i j) = (X_isShaded_L65 σ i j k55 K65 n65 k65 ()) → J K h [some (.ref (ρ 0 0)), some (.ref (ρ 8 i)), some (.ref (ρ 8 j)), some (.int (iMin (nI (i % 8)) (nI (j % 8)))), some (.int (iMax (nI (i % 8)) (nI (j % 8)))), some (.int (iMin (nI (i / 8)) (nI (j / 8)))), some (.int (iMax (nI (i / 8)) (nI (j / 8)))), some (.int (nI k55)), some (.int (nI k65)), none] [] 65 0 0 := by
        intro n65
        induction n65 with
        | zero =>
          intro k65   hk65  q_v
          rw [X_isShaded_L65] at q_v
          refine J_iload_8 X dX10_isShaded_65 ?_
          refine J_iload_4 X dX10_isShaded_67 ?_
          refine J_icmp_gt (tgt := 127) X dX10_isShaded_69 (by decide) (fun _ => ?_) (fun c => absurd (lpg_exit bX.1 (by omega) hk65) c)
          rw [hK65] at q_v
          refine J.subL (lv' := [some (.ref (ρ 0 0)), some (.ref (ρ 8 i)), some (.ref (ρ 8 j)), some (.int (iMin (nI (i % 8)) (nI (j % 8)))), some (.int (iMax (nI (i % 8)) (nI (j % 8)))), some (.int (iMin (nI (i / 8)) (nI (j / 8)))), some (.int (iMax (nI (i / 8)) (nI (j / 8)))), some (.int (nI k55)), none, none]) (And.intro rfl (And.intro rfl (And.intro rfl (And.intro rfl (And.intro rfl (And.intro rfl (And.intro rfl (And.intro rfl trivial)))))))) ?_
          exact X65   trivial  q_v
        | succ n65 ih65 =>
          intro k65   hk65  q_v
          rw [X_isShaded_L65] at q_v
          have hlt65 : k65 < (ix (iMax (nI (i % 8)) (nI (j % 8))) + 1) := by omega
          refine J_iload_8 X dX10_isShaded_65 ?_
          refine J_iload_4 X dX10_isShaded_67 ?_
          refine J_icmp_gt (tgt := 127) X dX10_isShaded_69 (by decide) (fun c => absurd c (lpg_stay bX.1 (by omega) hk65)) (fun _ => ?_)
          refine J_bipush (v := (8 : Int32)) X dX10_isShaded_72 (by decide) ?_
          refine J_iload_7 X dX10_isShaded_74 ?_
          refine J_imul X dX10_isShaded_76 ?_
          refine J_iload_8 X dX10_isShaded_77 ?_
          refine J_iadd X dX10_isShaded_79 ?_
          refine J_istore_9 X dX10_isShaded_80 rfl (by decide) ?_
          refine J_iload_9 X dX10_isShaded_82 ?_
          refine J_if_lt (tgt := 121) X dX10_isShaded_84 (by decide) (fun c84 => ?_) (fun c84 => ?_)
          · skip
            rw [if_pos c84] at q_v
            refine J_iinc_8 (v := (nI (k65 + 1))) X dX10_isShaded_121 (nI_1 _) rfl (by decide) ?_
            refine J_goto (tgt := 65) X dX10_isShaded_124 (by decide) ?_
            refine J.subL (lv' := [some (.ref (ρ 0 0)), some (.ref (ρ 8 i)), some (.ref (ρ 8 j)), some (.int (iMin (nI (i % 8)) (nI (j % 8)))), some (.int (iMax (nI (i % 8)) (nI (j % 8)))), some (.int (iMin (nI (i / 8)) (nI (j / 8)))), some (.int (iMax (nI (i / 8)) (nI (j / 8)))), some (.int (nI k55)), some (.int (nI (k65 + 1))), none]) (And.intro rfl (And.intro rfl (And.intro rfl (And.intro rfl (And.intro rfl (And.intro rfl (And.intro rfl (And.intro rfl (And.intro rfl trivial))))))))) ?_
            exact ih65 (k65 + 1)   (by omega)  q_v
          · skip
            rw [if_neg c84] at q_v
            refine J_iload_9 X dX10_isShaded_87 ?_
            refine J_aload_0 X dX10_isShaded_89 ?_
            refine J_get X (C := RX10) (T := TX10) (N := 11) (ref := "NightValley") hR.root rfl 1 (by decide) rfl in_X10 gw_1_233 (fun _ z => z) dX10_isShaded_90 ?_
            refine J_callV X (c_Xsize hR (k := 1) (by omega)) (And.intro gw_2_34 cw_Jx4a65c_size_8abf5) (hR.list (by omega)) rfl rfl rfl (Nat.le_of_ble_eq_true rfl) dX10_isShaded_93 rfl (J.pi ?_) JE.no
            refine J_icmp_ge (tgt := 121) X dX10_isShaded_96 (by decide) (fun c96 => ?_) (fun c96 => ?_)
            · skip
              rw [if_pos c96] at q_v
              refine J_iinc_8 (v := (nI (k65 + 1))) X dX10_isShaded_121 (nI_1 _) rfl (by decide) ?_
              refine J_goto (tgt := 65) X dX10_isShaded_124 (by decide) ?_
              refine J.subL (lv' := [some (.ref (ρ 0 0)), some (.ref (ρ 8 i)), some (.ref (ρ 8 j)), some (.int (iMin (nI (i % 8)) (nI (j % 8)))), some (.int (iMax (nI (i % 8)) (nI (j % 8)))), some (.int (iMin (nI (i / 8)) (nI (j / 8)))), some (.int (iMax (nI (i / 8)) (nI (j / 8)))), some (.int (nI k55)), some (.int (nI (k65 + 1))), none]) (And.intro rfl (And.intro rfl (And.intro rfl (And.intro rfl (And.intro rfl (And.intro rfl (And.intro rfl (And.intro rfl (And.intro rfl trivial))))))))) ?_
              exact ih65 (k65 + 1)   (by omega)  q_v
            · skip
              rw [if_neg c96] at q_v
              refine J_aload_0 X dX10_isShaded_99 ?_
              refine J_get X (C := RX10) (T := TX10) (N := 11) (ref := "NightValley") hR.root rfl 1 (by decide) rfl in_X10 gw_1_233 (fun _ z => z) dX10_isShaded_100 ?_
              refine J_iload_9 X dX10_isShaded_103 ?_
              refine J_callV X (c_Xget hR (k := 1) (by omega) (vp_c c84 c96 (by show 64 < 2 ^ 31; decide))) (And.intro gw_2_104 cw_Jx4a65c_get_915e3) (hR.list (by omega)) rfl rfl rfl (Nat.le_of_ble_eq_true rfl) dX10_isShaded_105 rfl (J.pa ?_) JE.no
              refine J_cast X (C := RX4) (T := TX4) (N := 4) (hR.place (vp_lt (vp_c c84 c96 (by show 64 < 2 ^ 31; decide)))) rfl gw_1_206 dX10_isShaded_108 ?_
              refine J_aload_1 X dX10_isShaded_111 ?_
              refine J_aload_2 X dX10_isShaded_112 ?_
              refine J_callV X (c_X_shades hR (ix (((8 : Int32) * (nI k55)) + (nI k65))) i j (vp_lt (vp_c c84 c96 (by show 64 < 2 ^ 31; decide))) hi hj) (And.intro gw_2_157 cw_X4_shades) (hR.place (vp_lt (vp_c c84 c96 (by show 64 < 2 ^ 31; decide)))) rfl rfl rfl (Nat.le_of_ble_eq_true rfl) dX10_isShaded_113 rfl (J.pi ?_) JE.no
              refine J_if_eq (tgt := 121) X dX10_isShaded_116 (by decide) (fun c116 => ?_) (fun c116 => ?_)
              · skip
                rw [if_pos c116] at q_v
                refine J_iinc_8 (v := (nI (k65 + 1))) X dX10_isShaded_121 (nI_1 _) rfl (by decide) ?_
                refine J_goto (tgt := 65) X dX10_isShaded_124 (by decide) ?_
                refine J.subL (lv' := [some (.ref (ρ 0 0)), some (.ref (ρ 8 i)), some (.ref (ρ 8 j)), some (.int (iMin (nI (i % 8)) (nI (j % 8)))), some (.int (iMax (nI (i % 8)) (nI (j % 8)))), some (.int (iMin (nI (i / 8)) (nI (j / 8)))), some (.int (iMax (nI (i / 8)) (nI (j / 8)))), some (.int (nI k55)), some (.int (nI (k65 + 1))), none]) (And.intro rfl (And.intro rfl (And.intro rfl (And.intro rfl (And.intro rfl (And.intro rfl (And.intro rfl (And.intro rfl (And.intro rfl trivial))))))))) ?_
                exact ih65 (k65 + 1)   (by omega)  q_v
              · skip
                rw [if_neg c116] at q_v
                refine J_iconst (v := 1) X dX10_isShaded_119 rfl ?_
                exact J_zret X rfl (by first | exact Or.inl rfl | exact Or.inr rfl) rfl ⟨by rw [q_v], rfl⟩ dX10_isShaded_120
      have q_v : (X_isShaded σ i j) = (X_isShaded_L65 σ i j k55 K65 (ix (iMax (nI (i % 8)) (nI (j % 8))) + 1 - ix (iMin (nI (i % 8)) (nI (j % 8)))) (ix (iMin (nI (i % 8)) (nI (j % 8)))) ()) := by rw [hK65]; exact q_v
      have ec65 : (iMin (nI (i % 8)) (nI (j % 8))) = nI (ix (iMin (nI (i % 8)) (nI (j % 8)))) := tX.1
      have z65 := L65 (ix (iMax (nI (i % 8)) (nI (j % 8))) + 1 - ix (iMin (nI (i % 8)) (nI (j % 8)))) (ix (iMin (nI (i % 8)) (nI (j % 8))))   (by omega)  q_v
      rw [← ec65] at z65
      exact z65
  have q_v : (X_isShaded σ i j) = (X_isShaded_L55 σ i j K55 (ix (iMax (nI (i / 8)) (nI (j / 8))) + 1 - ix (iMin (nI (i / 8)) (nI (j / 8)))) (ix (iMin (nI (i / 8)) (nI (j / 8)))) ()) := by rw [hK55]; exact q_v
  have ec55 : (iMin (nI (i / 8)) (nI (j / 8))) = nI (ix (iMin (nI (i / 8)) (nI (j / 8)))) := tY.1
  have z55 := L55 (ix (iMax (nI (i / 8)) (nI (j / 8))) + 1 - ix (iMin (nI (i / 8)) (nI (j / 8)))) (ix (iMin (nI (i / 8)) (nI (j / 8))))   (by omega)  q_v
  rw [← ec55] at z55
  exact z55
def X_givenBy_j54 (σ : St) (i : Nat) (j : Nat) : Int32 := (if (X_isShaded σ (ix (σ 15 i)) j) = (0 : Int32) then (X_weakened (X_skyLight σ i) ((nI (j % 8)) - (nI ((ix (σ 15 i)) % 8))) ((nI (j / 8)) - (nI ((ix (σ 15 i)) / 8)))) else ((X_weakened (X_skyLight σ i) ((nI (j % 8)) - (nI ((ix (σ 15 i)) % 8))) ((nI (j / 8)) - (nI ((ix (σ 15 i)) / 8)))) / (2 : Int32)))
def X_givenBy (σ : St) (i : Nat) (j : Nat) : Int32 := (if (X_isBurning σ i) = (0 : Int32) then (0 : Int32) else ((X_givenBy_j54 σ i j) * (X_airFactor σ )))
theorem cw_X10_givenBy : Cond.instanceMethod yX10_givenBy ∈ GW ∧ Cond.selects RX10 yX10_givenBy yX10_givenBy ∈ GW ∧ Cond.initialized RX10 ∈ GW ∧ Cond.code yX10_givenBy cX10_givenBy 6 (some .int) ∈ GW ∧ yX10_givenBy.cls = RX10 ∧ (yX10_givenBy.cls ≠ "java/lang/invoke/MethodHandle" ∧ yX10_givenBy.cls ≠ "java/lang/invoke/VarHandle") ∧ (parseMethodDescriptor yX10_givenBy.desc).map (fun d => d.parameters.length) = some 2 := ⟨gw_2_121, gws_5, gw_1_1, gw_2_122, rfl, ⟨by decide, by decide⟩, by decide +kernel⟩
set_option maxRecDepth 100000 in
set_option maxHeartbeats 4000000 in
theorem c_X_givenBy {l : Launch} {D : va_G} {ca : Nat → Nat} {h : fH} {ρ : Nat → Nat → Nat} {μ : Nat → Nat → Int32} {cap : Nat → Nat} {σ : St} (hR : RX ca h ρ μ cap σ) (hI : InvX σ) (i : Nat) (j : Nat) (hi : i < ix (σ 13 0)) (hj : j < 64) : FM l D ca yX10_givenBy (.code yX10_givenBy cX10_givenBy 6 (some .int)) { frames := 5, cells := 0, slots := 0, locals := 113 } [.ref (ρ 0 0), .ref (ρ 10 i), .ref (ρ 8 j)] h (pI (X_givenBy σ i j) h) noX := by
  refine FM.of [some (.ref (ρ 0 0)), some (.ref (ρ 10 i)), some (.ref (ρ 8 j)), none, none, none] (by decide) (Nat.le_of_ble_eq_true rfl) rfl ?_
  rintro K X rfl rfl rfl
  have q_v : (X_givenBy σ i j) = (if (X_isBurning σ i) = (0 : Int32) then (0 : Int32) else ((X_givenBy_j54 σ i j) * (X_airFactor σ ))) := rfl
  refine J_aload_0 X dX10_givenBy_0 ?_
  refine J_aload_1 X dX10_givenBy_1 ?_
  refine J_callV X (c_X_isBurning hR hI i hi) (And.intro gw_2_123 cw_X10_isBurning) hR.root rfl rfl rfl (Nat.le_of_ble_eq_true rfl) dX10_givenBy_2 rfl (J.pi ?_) JE.no
  refine J_if_ne (tgt := 10) X dX10_givenBy_5 (by decide) (fun c5 => ?_) (fun c5 => ?_)
  · skip
    rw [if_neg c5] at q_v
    refine J_aload_1 X dX10_givenBy_10 ?_
    refine J_callV X (c_X_skyLight hR i hi) (And.intro gw_2_139 cw_X2_skyLight) (hR.lamp hi) rfl rfl rfl (Nat.le_of_ble_eq_true rfl) dX10_givenBy_11 rfl (J.pi ?_) JE.no
    refine J_istore_3 X dX10_givenBy_14 rfl (by decide) ?_
    refine J_iload_3 X dX10_givenBy_15 ?_
    refine J_aload_2 X dX10_givenBy_16 ?_
    refine J_get X (C := RX4) (T := TX4) (N := 4) (ref := "NightValley$Place") (hR.place hj) rfl 0 (by decide) rfl in_X4 gw_1_214 (fun _ z => z) dX10_givenBy_17 ?_
    refine J_aload_1 X dX10_givenBy_20 ?_
    refine J_get X (C := RX2) (T := TX2) (N := 12) (ref := "NightValley$Lamp") (hR.lamp hi) rfl 1 (by decide) rfl in_X2 gw_3_59 (fun _ z => z) dX10_givenBy_21 ?_
    refine J_get X (C := RX4) (T := TX4) (N := 4) (ref := "NightValley$Place") (hR.place (IX_place hI _)) rfl 0 (by decide) rfl in_X4 gw_1_214 (fun _ z => z) dX10_givenBy_24 ?_
    refine J_isub X dX10_givenBy_27 ?_
    refine J_aload_2 X dX10_givenBy_28 ?_
    refine J_get X (C := RX4) (T := TX4) (N := 4) (ref := "NightValley$Place") (hR.place hj) rfl 1 (by decide) rfl in_X4 gw_1_217 (fun _ z => z) dX10_givenBy_29 ?_
    refine J_aload_1 X dX10_givenBy_32 ?_
    refine J_get X (C := RX2) (T := TX2) (N := 12) (ref := "NightValley$Lamp") (hR.lamp hi) rfl 1 (by decide) rfl in_X2 gw_3_59 (fun _ z => z) dX10_givenBy_33 ?_
    refine J_get X (C := RX4) (T := TX4) (N := 4) (ref := "NightValley$Place") (hR.place (IX_place hI _)) rfl 1 (by decide) rfl in_X4 gw_1_217 (fun _ z => z) dX10_givenBy_36 ?_
    refine J_isub X dX10_givenBy_39 ?_
    refine J_callS X (c_X_weakened (X_skyLight σ i) ((nI (j % 8)) - (nI ((ix (σ 15 i)) % 8))) ((nI (j / 8)) - (nI ((ix (σ 15 i)) / 8)))) (And.intro gw_2_148 cw_X10_weakened) rfl rfl (Nat.le_of_ble_eq_true rfl) dX10_givenBy_40 rfl (J.pi ?_) JE.no
    refine J_istore_4 X dX10_givenBy_43 rfl (by decide) ?_
    refine J_aload_0 X dX10_givenBy_45 ?_
    refine J_aload_1 X dX10_givenBy_46 ?_
    refine J_get X (C := RX2) (T := TX2) (N := 12) (ref := "NightValley$Lamp") (hR.lamp hi) rfl 1 (by decide) rfl in_X2 gw_3_59 (fun _ z => z) dX10_givenBy_47 ?_
    refine J_aload_2 X dX10_givenBy_50 ?_
    refine J_callV X (c_X_isShaded hR hI (ix (σ 15 i)) j (IX_place hI _) hj) (And.intro gw_2_151 cw_X10_isShaded) hR.root rfl rfl rfl (Nat.le_of_ble_eq_true rfl) dX10_givenBy_51 rfl (J.pi ?_) JE.no
    have K54_66 : ∀ (v54_0 : Int32), v54_0 = (X_givenBy_j54 σ i j) → J K h [some (.ref (ρ 0 0)), some (.ref (ρ 10 i)), some (.ref (ρ 8 j)), some (.int (X_skyLight σ i)), some (.int (X_weakened (X_skyLight σ i) ((nI (j % 8)) - (nI ((ix (σ 15 i)) % 8))) ((nI (j / 8)) - (nI ((ix (σ 15 i)) / 8))))), none] [.int v54_0] 66 0 0 := by
      intro v54_0 ev54_0
      try rw [ev54_0]
      clear ev54_0
      refine J_istore_5 X dX10_givenBy_66 rfl (by decide) ?_
      refine J_iload_5 X dX10_givenBy_68 ?_
      refine J_aload_0 X dX10_givenBy_70 ?_
      refine J_callV X (c_X_airFactor hR ) (And.intro gw_2_169 cw_X10_airFactor) hR.root rfl rfl rfl (Nat.le_of_ble_eq_true rfl) dX10_givenBy_71 rfl (J.pi ?_) JE.no
      refine J_imul X dX10_givenBy_74 ?_
      exact J_iret X rfl rfl ⟨by rw [q_v], rfl⟩ dX10_givenBy_75
    have j54_0 : X_givenBy_j54 σ i j = (if (X_isShaded σ (ix (σ 15 i)) j) = (0 : Int32) then (X_weakened (X_skyLight σ i) ((nI (j % 8)) - (nI ((ix (σ 15 i)) % 8))) ((nI (j / 8)) - (nI ((ix (σ 15 i)) / 8)))) else ((X_weakened (X_skyLight σ i) ((nI (j % 8)) - (nI ((ix (σ 15 i)) % 8))) ((nI (j / 8)) - (nI ((ix (σ 15 i)) / 8)))) / (2 : Int32))) := rfl
    refine J_if_eq (tgt := 64) X dX10_givenBy_54 (by decide) (fun c54 => ?_) (fun c54 => ?_)
    · skip
      rw [if_pos c54] at j54_0
      refine J_iload_4 X dX10_givenBy_64 ?_
      exact K54_66 _ j54_0.symm
    · skip
      rw [if_neg c54] at j54_0
      refine J_iload_4 X dX10_givenBy_57 ?_
      refine J_iconst (v := 2) X dX10_givenBy_59 rfl ?_
      refine J_idiv X dX10_givenBy_60 (by decide) ?_
      refine J_goto (tgt := 66) X dX10_givenBy_61 (by decide) ?_
      exact K54_66 _ j54_0.symm
  · skip
    rw [if_pos c5] at q_v
    refine J_iconst (v := 0) X dX10_givenBy_8 rfl ?_
    exact J_iret X rfl rfl ⟨by rw [q_v], rfl⟩ dX10_givenBy_9
def X_glowOf_L4 (σ : St) (j : Nat) (K4 : Int32 → Int32) : Nat → Nat → Int32 → Int32
  | 0, _, a4_2 => K4 a4_2
  | n4 + 1, k4, a4_2 => (X_glowOf_L4 σ j K4 n4 (k4 + 1) (a4_2 + (X_givenBy σ (ix (nI k4)) j)))
def X_glowOf (σ : St) (j : Nat) : Int32 := (X_glowOf_L4 σ j (fun a4_2 => a4_2) (xL σ 3) 0 (0 : Int32))
theorem cw_X10_glowOf : Cond.instanceMethod yX10_glowOf ∈ GW ∧ Cond.selects RX10 yX10_glowOf yX10_glowOf ∈ GW ∧ Cond.initialized RX10 ∈ GW ∧ Cond.code yX10_glowOf cX10_glowOf 4 (some .int) ∈ GW ∧ yX10_glowOf.cls = RX10 ∧ (yX10_glowOf.cls ≠ "java/lang/invoke/MethodHandle" ∧ yX10_glowOf.cls ≠ "java/lang/invoke/VarHandle") ∧ (parseMethodDescriptor yX10_glowOf.desc).map (fun d => d.parameters.length) = some 1 := ⟨gw_3_192, gws_15, gw_1_1, gw_3_193, rfl, ⟨by decide, by decide⟩, by decide +kernel⟩
set_option maxRecDepth 100000 in
set_option maxHeartbeats 4000000 in
theorem c_X_glowOf {l : Launch} {D : va_G} {ca : Nat → Nat} {h : fH} {ρ : Nat → Nat → Nat} {μ : Nat → Nat → Int32} {cap : Nat → Nat} {σ : St} (hR : RX ca h ρ μ cap σ) (hI : InvX σ) (j : Nat) (hj : j < 64) : FM l D ca yX10_glowOf (.code yX10_glowOf cX10_glowOf 4 (some .int)) { frames := 6, cells := 0, slots := 0, locals := 138 } [.ref (ρ 0 0), .ref (ρ 8 j)] h (pI (X_glowOf σ j) h) noX := by
  refine FM.of [some (.ref (ρ 0 0)), some (.ref (ρ 8 j)), none, none] (by decide) (Nat.le_of_ble_eq_true rfl) rfl ?_
  rintro K X rfl rfl rfl
  have q_v : (X_glowOf σ j) = (X_glowOf_L4 σ j (fun a4_2 => a4_2) (xL σ 3) 0 (0 : Int32)) := rfl
  refine J_iconst (v := 0) X dX10_glowOf_0 rfl ?_
  refine J_istore_2 X dX10_glowOf_1 rfl (by decide) ?_
  refine J_iconst (v := 0) X dX10_glowOf_2 rfl ?_
  refine J_istore_3 X dX10_glowOf_3 rfl (by decide) ?_
  have hle := IX_L hI 3
  obtain ⟨K4, hK4⟩ : ∃ f : Int32 → Int32, f = (fun a4_2 => a4_2) := ⟨_, rfl⟩
  have X4 : ∀ (a4_2 : Int32) (_ : True), (X_glowOf σ j) = a4_2 → J K h [some (.ref (ρ 0 0)), some (.ref (ρ 8 j)), some (.int a4_2), none] [] 40 0 0 := by
    intro a4_2  _  q_v
    refine J_iload_2 X dX10_glowOf_40 ?_
    exact J_iret X rfl rfl ⟨by rw [q_v], rfl⟩ dX10_glowOf_41
  have L4 : ∀ (n4 k4 : Nat) (a4_2 : Int32), k4 + n4 = (xL σ 3) → (X_glowOf σ j) = (X_glowOf_L4 σ j K4 n4 k4 a4_2) → J K h [some (.ref (ρ 0 0)), some (.ref (ρ 8 j)), some (.int a4_2), some (.int (nI k4))] [] 4 0 0 := by
    intro n4
    induction n4 with
    | zero =>
      intro k4 a4_2  hk4  q_v
      rw [X_glowOf_L4] at q_v
      refine J_iload_3 X dX10_glowOf_4 ?_
      refine J_aload_0 X dX10_glowOf_5 ?_
      refine J_get X (C := RX10) (T := TX10) (N := 11) (ref := "NightValley") hR.root rfl 3 (by decide) rfl in_X10 gw_1_235 (fun _ z => z) dX10_glowOf_6 ?_
      refine J_callV X (c_Xsize hR (k := 3) (by omega)) (And.intro gw_2_34 cw_Jx4a65c_size_8abf5) (hR.list (by omega)) rfl rfl rfl (Nat.le_of_ble_eq_true rfl) dX10_glowOf_9 rfl (J.pi ?_) JE.no
      refine J_icmp_ge (tgt := 40) X dX10_glowOf_12 (by decide) (fun _ => ?_) (fun c => absurd (lp_exit rfl (by omega) hk4) c)
      rw [hK4] at q_v
      refine J.subL (lv' := [some (.ref (ρ 0 0)), some (.ref (ρ 8 j)), some (.int a4_2), none]) (And.intro rfl (And.intro rfl (And.intro rfl trivial))) ?_
      exact X4 a4_2  trivial  q_v
    | succ n4 ih4 =>
      intro k4 a4_2  hk4  q_v
      rw [X_glowOf_L4] at q_v
      have hlt4 : k4 < (xL σ 3) := by omega
      refine J_iload_3 X dX10_glowOf_4 ?_
      refine J_aload_0 X dX10_glowOf_5 ?_
      refine J_get X (C := RX10) (T := TX10) (N := 11) (ref := "NightValley") hR.root rfl 3 (by decide) rfl in_X10 gw_1_235 (fun _ z => z) dX10_glowOf_6 ?_
      refine J_callV X (c_Xsize hR (k := 3) (by omega)) (And.intro gw_2_34 cw_Jx4a65c_size_8abf5) (hR.list (by omega)) rfl rfl rfl (Nat.le_of_ble_eq_true rfl) dX10_glowOf_9 rfl (J.pi ?_) JE.no
      refine J_icmp_ge (tgt := 40) X dX10_glowOf_12 (by decide) (fun c => absurd c (lp_stay rfl (by omega) hk4)) (fun _ => ?_)
      refine J_iload_2 X dX10_glowOf_15 ?_
      refine J_aload_0 X dX10_glowOf_16 ?_
      refine J_aload_0 X dX10_glowOf_17 ?_
      refine J_get X (C := RX10) (T := TX10) (N := 11) (ref := "NightValley") hR.root rfl 3 (by decide) rfl in_X10 gw_1_235 (fun _ z => z) dX10_glowOf_18 ?_
      refine J_iload_3 X dX10_glowOf_21 ?_
      refine J_callV X (c_Xget hR (k := 3) (by omega) (vp_in_nI (N := (xL σ 3)) (by omega) (by omega))) (And.intro gw_2_104 cw_Jx4a65c_get_915e3) (hR.list (by omega)) rfl rfl rfl (Nat.le_of_ble_eq_true rfl) dX10_glowOf_22 rfl (J.pa ?_) JE.no
      refine J_cast X (C := RX2) (T := TX2) (N := 12) (hR.lamp (vp_lt (vp_in_nI (N := (xL σ 3)) (by omega) (by omega)))) rfl gw_2_118 dX10_glowOf_25 ?_
      refine J_aload_1 X dX10_glowOf_28 ?_
      refine J_callV X (c_X_givenBy hR hI (ix (nI k4)) j (vp_lt (vp_in_nI (N := (xL σ 3)) (by omega) (by omega))) hj) (And.intro gw_2_119 cw_X10_givenBy) hR.root rfl rfl rfl (Nat.le_of_ble_eq_true rfl) dX10_glowOf_29 rfl (J.pi ?_) JE.no
      refine J_iadd X dX10_glowOf_32 ?_
      refine J_istore_2 X dX10_glowOf_33 rfl (by decide) ?_
      refine J_iinc_3 (v := (nI (k4 + 1))) X dX10_glowOf_34 (nI_1 _) rfl (by decide) ?_
      refine J_goto (tgt := 4) X dX10_glowOf_37 (by decide) ?_
      exact ih4 (k4 + 1) (a4_2 + (X_givenBy σ (ix (nI k4)) j))  (by omega)  q_v
  have q_v : (X_glowOf σ j) = (X_glowOf_L4 σ j K4 (xL σ 3) 0 (0 : Int32)) := by rw [hK4]; exact q_v
  exact L4 (xL σ 3) 0 (0 : Int32)  (Nat.zero_add _)  q_v
def X_burningLampsOf_j34l2 (σ : St) (j : Nat) (k4 : Nat) (a4_2 : Int32) : Int32 := (if (ix (σ 14 (ix (nI k4)))) = j then (if (X_isBurning σ (ix (nI k4))) = (0 : Int32) then a4_2 else (a4_2 + 1)) else a4_2)
def X_burningLampsOf_L4 (σ : St) (j : Nat) (K4 : Int32 → Int32) : Nat → Nat → Int32 → Int32
  | 0, _, a4_2 => K4 a4_2
  | n4 + 1, k4, a4_2 => (X_burningLampsOf_L4 σ j K4 n4 (k4 + 1) (X_burningLampsOf_j34l2 σ j k4 a4_2))
def X_burningLampsOf (σ : St) (j : Nat) : Int32 := (X_burningLampsOf_L4 σ j (fun a4_2 => a4_2) (xL σ 3) 0 (0 : Int32))
theorem cw_X10_burningLampsOf : Cond.instanceMethod yX10_burningLampsOf ∈ GW ∧ Cond.selects RX10 yX10_burningLampsOf yX10_burningLampsOf ∈ GW ∧ Cond.initialized RX10 ∈ GW ∧ Cond.code yX10_burningLampsOf cX10_burningLampsOf 5 (some .int) ∈ GW ∧ yX10_burningLampsOf.cls = RX10 ∧ (yX10_burningLampsOf.cls ≠ "java/lang/invoke/MethodHandle" ∧ yX10_burningLampsOf.cls ≠ "java/lang/invoke/VarHandle") ∧ (parseMethodDescriptor yX10_burningLampsOf.desc).map (fun d => d.parameters.length) = some 1 := ⟨gw_4_8, gws_17, gw_1_1, gw_4_9, rfl, ⟨by decide, by decide⟩, by decide +kernel⟩
set_option maxRecDepth 100000 in
set_option maxHeartbeats 4000000 in
theorem c_X_burningLampsOf {l : Launch} {D : va_G} {ca : Nat → Nat} {h : fH} {ρ : Nat → Nat → Nat} {μ : Nat → Nat → Int32} {cap : Nat → Nat} {σ : St} (hR : RX ca h ρ μ cap σ) (hI : InvX σ) (j : Nat) (hj : j < ix (σ 8 0)) : FM l D ca yX10_burningLampsOf (.code yX10_burningLampsOf cX10_burningLampsOf 5 (some .int)) { frames := 4, cells := 0, slots := 0, locals := 84 } [.ref (ρ 0 0), .ref (ρ 9 j)] h (pI (X_burningLampsOf σ j) h) noX := by
  refine FM.of [some (.ref (ρ 0 0)), some (.ref (ρ 9 j)), none, none, none] (by decide) (Nat.le_of_ble_eq_true rfl) rfl ?_
  rintro K X rfl rfl rfl
  have q_v : (X_burningLampsOf σ j) = (X_burningLampsOf_L4 σ j (fun a4_2 => a4_2) (xL σ 3) 0 (0 : Int32)) := rfl
  refine J_iconst (v := 0) X dX10_burningLampsOf_0 rfl ?_
  refine J_istore_2 X dX10_burningLampsOf_1 rfl (by decide) ?_
  refine J_iconst (v := 0) X dX10_burningLampsOf_2 rfl ?_
  refine J_istore_3 X dX10_burningLampsOf_3 rfl (by decide) ?_
  have hle := IX_L hI 3
  obtain ⟨K4, hK4⟩ : ∃ f : Int32 → Int32, f = (fun a4_2 => a4_2) := ⟨_, rfl⟩
  have X4 : ∀ (a4_2 : Int32) (_ : True), (X_burningLampsOf σ j) = a4_2 → J K h [some (.ref (ρ 0 0)), some (.ref (ρ 9 j)), some (.int a4_2), none, none] [] 55 0 0 := by
    intro a4_2  _  q_v
    refine J_iload_2 X dX10_burningLampsOf_55 ?_
    exact J_iret X rfl rfl ⟨by rw [q_v], rfl⟩ dX10_burningLampsOf_56
  have L4 : ∀ (n4 k4 : Nat) (a4_2 : Int32), k4 + n4 = (xL σ 3) → (X_burningLampsOf σ j) = (X_burningLampsOf_L4 σ j K4 n4 k4 a4_2) → J K h [some (.ref (ρ 0 0)), some (.ref (ρ 9 j)), some (.int a4_2), some (.int (nI k4)), none] [] 4 0 0 := by
    intro n4
    induction n4 with
    | zero =>
      intro k4 a4_2  hk4  q_v
      rw [X_burningLampsOf_L4] at q_v
      refine J_iload_3 X dX10_burningLampsOf_4 ?_
      refine J_aload_0 X dX10_burningLampsOf_5 ?_
      refine J_get X (C := RX10) (T := TX10) (N := 11) (ref := "NightValley") hR.root rfl 3 (by decide) rfl in_X10 gw_1_235 (fun _ z => z) dX10_burningLampsOf_6 ?_
      refine J_callV X (c_Xsize hR (k := 3) (by omega)) (And.intro gw_2_34 cw_Jx4a65c_size_8abf5) (hR.list (by omega)) rfl rfl rfl (Nat.le_of_ble_eq_true rfl) dX10_burningLampsOf_9 rfl (J.pi ?_) JE.no
      refine J_icmp_ge (tgt := 55) X dX10_burningLampsOf_12 (by decide) (fun _ => ?_) (fun c => absurd (lp_exit rfl (by omega) hk4) c)
      rw [hK4] at q_v
      refine J.subL (lv' := [some (.ref (ρ 0 0)), some (.ref (ρ 9 j)), some (.int a4_2), none, none]) (And.intro rfl (And.intro rfl (And.intro rfl trivial))) ?_
      exact X4 a4_2  trivial  q_v
    | succ n4 ih4 =>
      intro k4 a4_2  hk4  q_v
      rw [X_burningLampsOf_L4] at q_v
      have hlt4 : k4 < (xL σ 3) := by omega
      refine J_iload_3 X dX10_burningLampsOf_4 ?_
      refine J_aload_0 X dX10_burningLampsOf_5 ?_
      refine J_get X (C := RX10) (T := TX10) (N := 11) (ref := "NightValley") hR.root rfl 3 (by decide) rfl in_X10 gw_1_235 (fun _ z => z) dX10_burningLampsOf_6 ?_
      refine J_callV X (c_Xsize hR (k := 3) (by omega)) (And.intro gw_2_34 cw_Jx4a65c_size_8abf5) (hR.list (by omega)) rfl rfl rfl (Nat.le_of_ble_eq_true rfl) dX10_burningLampsOf_9 rfl (J.pi ?_) JE.no
      refine J_icmp_ge (tgt := 55) X dX10_burningLampsOf_12 (by decide) (fun c => absurd c (lp_stay rfl (by omega) hk4)) (fun _ => ?_)
      refine J_aload_0 X dX10_burningLampsOf_15 ?_
      refine J_get X (C := RX10) (T := TX10) (N := 11) (ref := "NightValley") hR.root rfl 3 (by decide) rfl in_X10 gw_1_235 (fun _ z => z) dX10_burningLampsOf_16 ?_
      refine J_iload_3 X dX10_burningLampsOf_19 ?_
      refine J_callV X (c_Xget hR (k := 3) (by omega) (vp_in_nI (N := (xL σ 3)) (by omega) (by omega))) (And.intro gw_2_104 cw_Jx4a65c_get_915e3) (hR.list (by omega)) rfl rfl rfl (Nat.le_of_ble_eq_true rfl) dX10_burningLampsOf_20 rfl (J.pa ?_) JE.no
      refine J_cast X (C := RX2) (T := TX2) (N := 12) (hR.lamp (vp_lt (vp_in_nI (N := (xL σ 3)) (by omega) (by omega)))) rfl gw_2_118 dX10_burningLampsOf_23 ?_
      refine J_astore_4 X dX10_burningLampsOf_26 rfl (by decide) ?_
      refine J_aload_4 X dX10_burningLampsOf_28 ?_
      refine J_get X (C := RX2) (T := TX2) (N := 12) (ref := "NightValley$Lamp") (hR.lamp (vp_lt (vp_in_nI (N := (xL σ 3)) (by omega) (by omega)))) rfl 0 (by decide) rfl in_X2 gw_3_57 (fun _ z => z) dX10_burningLampsOf_30 ?_
      refine J_aload_1 X dX10_burningLampsOf_33 ?_
      have K34_49 : ∀ (v34_0 : Int32), v34_0 = (X_burningLampsOf_j34l2 σ j k4 a4_2) → J K h [some (.ref (ρ 0 0)), some (.ref (ρ 9 j)), some (.int v34_0), some (.int (nI k4)), some (.ref (ρ 10 (ix (nI k4))))] [] 49 0 0 := by
        intro v34_0 ev34_0
        try rw [ev34_0]
        clear ev34_0
        refine J_iinc_3 (v := (nI (k4 + 1))) X dX10_burningLampsOf_49 (nI_1 _) rfl (by decide) ?_
        refine J_goto (tgt := 4) X dX10_burningLampsOf_52 (by decide) ?_
        refine J.subL (lv' := [some (.ref (ρ 0 0)), some (.ref (ρ 9 j)), some (.int (X_burningLampsOf_j34l2 σ j k4 a4_2)), some (.int (nI (k4 + 1))), none]) (And.intro rfl (And.intro rfl (And.intro rfl (And.intro rfl trivial)))) ?_
        exact ih4 (k4 + 1) (X_burningLampsOf_j34l2 σ j k4 a4_2)  (by omega)  q_v
      have j34_0 : X_burningLampsOf_j34l2 σ j k4 a4_2 = (if (ix (σ 14 (ix (nI k4)))) = j then (if (X_isBurning σ (ix (nI k4))) = (0 : Int32) then a4_2 else (a4_2 + 1)) else a4_2) := rfl
      refine J_acmp_ne (tgt := 49) X dX10_burningLampsOf_34 (by decide) (fun c34 => ?_) (fun c34 => ?_)
      · skip
        have c34 : ¬ ((ix (σ 14 (ix (nI k4)))) = j) := fun z => c34 ((hR.village_eq (IX_own hI (vp_lt (vp_in_nI (N := (xL σ 3)) (by omega) (by omega)))) hj).mpr z)
        rw [if_neg c34] at j34_0
        exact K34_49 _ j34_0.symm
      · skip
        have c34 := (hR.village_eq (IX_own hI (vp_lt (vp_in_nI (N := (xL σ 3)) (by omega) (by omega)))) hj).mp c34
        rw [if_pos c34] at j34_0
        refine J_aload_0 X dX10_burningLampsOf_37 ?_
        refine J_aload_4 X dX10_burningLampsOf_38 ?_
        refine J_callV X (c_X_isBurning hR hI (ix (nI k4)) (vp_lt (vp_in_nI (N := (xL σ 3)) (by omega) (by omega)))) (And.intro gw_2_123 cw_X10_isBurning) hR.root rfl rfl rfl (Nat.le_of_ble_eq_true rfl) dX10_burningLampsOf_40 rfl (J.pi ?_) JE.no
        refine J_if_eq (tgt := 49) X dX10_burningLampsOf_43 (by decide) (fun c43 => ?_) (fun c43 => ?_)
        · skip
          rw [if_pos c43] at j34_0
          exact K34_49 _ j34_0.symm
        · skip
          rw [if_neg c43] at j34_0
          refine J_iinc_2 (v := (a4_2 + 1)) X dX10_burningLampsOf_46 rfl rfl (by decide) ?_
          exact K34_49 _ j34_0.symm
  have q_v : (X_burningLampsOf σ j) = (X_burningLampsOf_L4 σ j K4 (xL σ 3) 0 (0 : Int32)) := by rw [hK4]; exact q_v
  exact L4 (xL σ 3) 0 (0 : Int32)  (Nat.zero_add _)  q_v
def X_planCost_j8 (σ : St) (i : Nat) : Int32 := (if (X_boundHours σ i (σ 0 0)) ≤ (0 : Int32) then (X_refitCost σ i (10 : Int32) (σ 19 i)) else (10001 : Int32))
def X_planCost (σ : St) (i : Nat) : Int32 := (X_planCost_j8 σ i)
theorem cw_X10_planCost : Cond.instanceMethod yX10_planCost ∈ GW ∧ Cond.selects RX10 yX10_planCost yX10_planCost ∈ GW ∧ Cond.initialized RX10 ∈ GW ∧ Cond.code yX10_planCost cX10_planCost 2 (some .int) ∈ GW ∧ yX10_planCost.cls = RX10 ∧ (yX10_planCost.cls ≠ "java/lang/invoke/MethodHandle" ∧ yX10_planCost.cls ≠ "java/lang/invoke/VarHandle") ∧ (parseMethodDescriptor yX10_planCost.desc).map (fun d => d.parameters.length) = some 1 := ⟨gw_4_58, gws_20, gw_1_1, gw_4_59, rfl, ⟨by decide, by decide⟩, by decide +kernel⟩
set_option maxRecDepth 100000 in
set_option maxHeartbeats 4000000 in
theorem c_X_planCost {l : Launch} {D : va_G} {ca : Nat → Nat} {h : fH} {ρ : Nat → Nat → Nat} {μ : Nat → Nat → Int32} {cap : Nat → Nat} {σ : St} (hR : RX ca h ρ μ cap σ) (hI : InvX σ) (i : Nat) (hi : i < ix (σ 13 0)) : FM l D ca yX10_planCost (.code yX10_planCost cX10_planCost 2 (some .int)) { frames := 2, cells := 0, slots := 0, locals := 42 } [.ref (ρ 0 0), .ref (ρ 10 i)] h (pI (X_planCost σ i) h) noX := by
  refine FM.of [some (.ref (ρ 0 0)), some (.ref (ρ 10 i))] (by decide) (Nat.le_of_ble_eq_true rfl) rfl ?_
  rintro K X rfl rfl rfl
  have q_v : (X_planCost σ i) = (X_planCost_j8 σ i) := rfl
  refine J_aload_1 X dX10_planCost_0 ?_
  refine J_aload_0 X dX10_planCost_1 ?_
  refine J_get X (C := RX10) (T := TX10) (N := 11) (ref := "NightValley") hR.root rfl 9 (by decide) rfl in_X10 gw_2_1 (fun _ z => z) dX10_planCost_2 ?_
  refine J_callV X (c_X_boundHours hR i (σ 0 0) hi) (And.intro gw_3_112 cw_X2_boundHours) (hR.lamp hi) rfl rfl rfl (Nat.le_of_ble_eq_true rfl) dX10_planCost_5 rfl (J.pi ?_) JE.no
  have K8_27 : ∀ (v8_0 : Int32), v8_0 = (X_planCost_j8 σ i) → J K h [some (.ref (ρ 0 0)), some (.ref (ρ 10 i))] [.int v8_0] 27 0 0 := by
    intro v8_0 ev8_0
    try rw [ev8_0]
    clear ev8_0
    exact J_iret X rfl rfl ⟨by rw [q_v], rfl⟩ dX10_planCost_27
  have j8_0 : X_planCost_j8 σ i = (if (X_boundHours σ i (σ 0 0)) ≤ (0 : Int32) then (X_refitCost σ i (10 : Int32) (σ 19 i)) else (10001 : Int32)) := rfl
  refine J_if_le (tgt := 17) X dX10_planCost_8 (by decide) (fun c8 => ?_) (fun c8 => ?_)
  · skip
    rw [if_pos c8] at j8_0
    refine J_aload_1 X dX10_planCost_17 ?_
    refine J_bipush (v := (10 : Int32)) X dX10_planCost_18 (by decide) ?_
    refine J_aload_1 X dX10_planCost_20 ?_
    refine J_get X (C := RX2) (T := TX2) (N := 12) (ref := "NightValley$Lamp") (hR.lamp hi) rfl 5 (by decide) rfl in_X2 gw_3_65 (fun _ z => z) dX10_planCost_21 ?_
    refine J_callV X (c_X_refitCost hR i (10 : Int32) (σ 19 i) hi) (And.intro gw_3_125 cw_X2_refitCost) (hR.lamp hi) rfl rfl rfl (Nat.le_of_ble_eq_true rfl) dX10_planCost_24 rfl (J.pi ?_) JE.no
    exact K8_27 _ j8_0.symm
  · skip
    rw [if_neg c8] at j8_0
    refine J_sipush (v := (10001 : Int32)) X dX10_planCost_11 (by decide) ?_
    refine J_goto (tgt := 27) X dX10_planCost_14 (by decide) ?_
    exact K8_27 _ j8_0.symm
def X_corrected (σ : St) (i : Nat) (j : Nat) : Int32 := ((((σ 33 j) - (X_moonAt (σ 32 j))) - (20 : Int32)) - (σ 30 i))
theorem cw_X3_corrected : Cond.instanceMethod yX3_corrected ∈ GW ∧ Cond.selects RX3 yX3_corrected yX3_corrected ∈ GW ∧ Cond.initialized RX3 ∈ GW ∧ Cond.code yX3_corrected cX3_corrected 2 (some .int) ∈ GW ∧ yX3_corrected.cls = RX3 ∧ (yX3_corrected.cls ≠ "java/lang/invoke/MethodHandle" ∧ yX3_corrected.cls ≠ "java/lang/invoke/VarHandle") ∧ (parseMethodDescriptor yX3_corrected.desc).map (fun d => d.parameters.length) = some 1 := ⟨gw_4_44, gw_4_45, gw_1_24, gw_4_46, rfl, ⟨by decide, by decide⟩, by decide +kernel⟩
set_option maxRecDepth 100000 in
set_option maxHeartbeats 4000000 in
theorem c_X_corrected {l : Launch} {D : va_G} {ca : Nat → Nat} {h : fH} {ρ : Nat → Nat → Nat} {μ : Nat → Nat → Int32} {cap : Nat → Nat} {σ : St} (hR : RX ca h ρ μ cap σ) (hI : InvX σ) (i : Nat) (j : Nat) (hi : i < ix (σ 26 0)) (hj : j / 10 < ix (σ 26 0) ∧ j % 10 < ix (σ 31 (j / 10))) : FM l D ca yX3_corrected (.code yX3_corrected cX3_corrected 2 (some .int)) { frames := 3, cells := 0, slots := 0, locals := 61 } [.ref (ρ 11 i), .ref (ρ 12 j)] h (pI (X_corrected σ i j) h) noX := by
  refine FM.of [some (.ref (ρ 11 i)), some (.ref (ρ 12 j))] (by decide) (Nat.le_of_ble_eq_true rfl) rfl ?_
  rintro K X rfl rfl rfl
  have q_v : (X_corrected σ i j) = ((((σ 33 j) - (X_moonAt (σ 32 j))) - (20 : Int32)) - (σ 30 i)) := rfl
  refine J_aload_1 X dX3_corrected_0 ?_
  refine J_get X (C := RX5) (T := TX5) (N := 2) (ref := "NightValley$Reading") (hR.reading hj) rfl 1 (by decide) rfl in_X5 gw_3_211 (fun _ z => z) dX3_corrected_1 ?_
  refine J_aload_1 X dX3_corrected_4 ?_
  refine J_get X (C := RX5) (T := TX5) (N := 2) (ref := "NightValley$Reading") (hR.reading hj) rfl 0 (by decide) rfl in_X5 gw_3_208 (fun _ z => z) dX3_corrected_5 ?_
  refine J_callSN (host := "NightValley") X (c_X_moonAt (σ 32 j)) (And.intro (List.mem_of_getElem? (i := 13) rfl) cw_X10_moonAt) rfl rfl (Nat.le_of_ble_eq_true rfl) dX3_corrected_8 rfl (J.pi ?_) JE.no
  refine J_isub X dX3_corrected_11 ?_
  refine J_bipush (v := (20 : Int32)) X dX3_corrected_12 (by decide) ?_
  refine J_isub X dX3_corrected_14 ?_
  refine J_aload_0 X dX3_corrected_15 ?_
  refine J_get X (C := RX3) (T := TX3) (N := 5) (ref := "NightValley$Meter") (hR.meter hi) rfl 4 (by decide) rfl in_X3 gw_3_169 (fun _ z => z) dX3_corrected_16 ?_
  refine J_isub X dX3_corrected_19 ?_
  exact J_iret X rfl rfl ⟨by rw [q_v], rfl⟩ dX3_corrected_20
def X_keepsTo_j9 (σ : St) (i : Nat) (p1 : Int32) : Int32 := (if (nI (xL σ (i + 6))) = (0 : Int32) then (1 : Int32) else (if p1 < (X_corrected σ i (10 * i + ix ((nI (xL σ (i + 6))) - (1 : Int32)))) then (0 : Int32) else (1 : Int32)))
theorem X_keepsTo_j9_b (σ : St) (i : Nat) (p1 : Int32) : X_keepsTo_j9 σ i p1 = 0 ∨ X_keepsTo_j9 σ i p1 = 1 := by
  unfold X_keepsTo_j9
  (repeat' split) <;> first | exact Or.inl rfl | exact Or.inr rfl
def X_keepsTo (σ : St) (i : Nat) (p1 : Int32) : Int32 := (X_keepsTo_j9 σ i p1)
theorem X_keepsTo_b (σ : St) (i : Nat) (p1 : Int32) : (X_keepsTo σ i p1) = 0 ∨ (X_keepsTo σ i p1) = 1 := by
  unfold X_keepsTo
  (repeat' split) <;> first | exact Or.inl rfl | exact Or.inr rfl | exact X_keepsTo_j9_b ..
theorem cw_X3_keepsTo : Cond.instanceMethod yX3_keepsTo ∈ GW ∧ Cond.selects RX3 yX3_keepsTo yX3_keepsTo ∈ GW ∧ Cond.initialized RX3 ∈ GW ∧ Cond.code yX3_keepsTo cX3_keepsTo 3 (some .boolean) ∈ GW ∧ yX3_keepsTo.cls = RX3 ∧ (yX3_keepsTo.cls ≠ "java/lang/invoke/MethodHandle" ∧ yX3_keepsTo.cls ≠ "java/lang/invoke/VarHandle") ∧ (parseMethodDescriptor yX3_keepsTo.desc).map (fun d => d.parameters.length) = some 1 := ⟨gw_4_178, gw_4_179, gw_1_24, gw_4_180, rfl, ⟨by decide, by decide⟩, by decide +kernel⟩
set_option maxRecDepth 100000 in
set_option maxHeartbeats 4000000 in
theorem c_X_keepsTo {l : Launch} {D : va_G} {ca : Nat → Nat} {h : fH} {ρ : Nat → Nat → Nat} {μ : Nat → Nat → Int32} {cap : Nat → Nat} {σ : St} (hR : RX ca h ρ μ cap σ) (hI : InvX σ) (i : Nat) (p1 : Int32) (hi : i < ix (σ 26 0)) : FM l D ca yX3_keepsTo (.code yX3_keepsTo cX3_keepsTo 3 (some .boolean)) { frames := 4, cells := 0, slots := 0, locals := 84 } [.ref (ρ 11 i), .int p1] h (pI (X_keepsTo σ i p1) h) noX := by
  refine FM.of [some (.ref (ρ 11 i)), some (.int p1), none] (by decide) (Nat.le_of_ble_eq_true rfl) rfl ?_
  rintro K X rfl rfl rfl
  have q_v : (X_keepsTo σ i p1) = (X_keepsTo_j9 σ i p1) := rfl
  refine J_aload_0 X dX3_keepsTo_0 ?_
  refine J_get X (C := RX3) (T := TX3) (N := 5) (ref := "NightValley$Meter") (hR.meter hi) rfl 3 (by decide) rfl in_X3 gw_3_167 (fun _ z => z) dX3_keepsTo_1 ?_
  refine J_callV X (c_Xsize hR (k := (i + 6)) (by omega)) (And.intro gw_3_222 cw_Jx4a65c_size_8abf5) (hR.list (by omega)) rfl rfl rfl (Nat.le_of_ble_eq_true rfl) dX3_keepsTo_4 rfl (J.pi ?_) JE.no
  refine J_istore_2 X dX3_keepsTo_7 rfl (by decide) ?_
  refine J_iload_2 X dX3_keepsTo_8 ?_
  have K9_38 : ∀ (v9_0 : Int32), v9_0 = (X_keepsTo_j9 σ i p1) → J K h [some (.ref (ρ 11 i)), some (.int p1), some (.int (nI (xL σ (i + 6))))] [.int v9_0] 38 0 0 := by
    intro v9_0 ev9_0
    try rw [ev9_0]
    clear ev9_0
    exact J_zret X rfl (X_keepsTo_j9_b ..) rfl ⟨by rw [q_v], rfl⟩ dX3_keepsTo_38
  have j9_0 : X_keepsTo_j9 σ i p1 = (if (nI (xL σ (i + 6))) = (0 : Int32) then (1 : Int32) else (if p1 < (X_corrected σ i (10 * i + ix ((nI (xL σ (i + 6))) - (1 : Int32)))) then (0 : Int32) else (1 : Int32))) := rfl
  refine J_if_eq (tgt := 33) X dX3_keepsTo_9 (by decide) (fun c9 => ?_) (fun c9 => ?_)
  · skip
    rw [if_pos c9] at j9_0
    refine J_iconst (v := 1) X dX3_keepsTo_33 rfl ?_
    refine J_goto (tgt := 38) X dX3_keepsTo_34 (by decide) ?_
    exact K9_38 _ j9_0.symm
  · skip
    rw [if_neg c9] at j9_0
    refine J_aload_0 X dX3_keepsTo_12 ?_
    refine J_aload_0 X dX3_keepsTo_13 ?_
    refine J_get X (C := RX3) (T := TX3) (N := 5) (ref := "NightValley$Meter") (hR.meter hi) rfl 3 (by decide) rfl in_X3 gw_3_167 (fun _ z => z) dX3_keepsTo_14 ?_
    refine J_iload_2 X dX3_keepsTo_17 ?_
    refine J_iconst (v := 1) X dX3_keepsTo_18 rfl ?_
    refine J_isub X dX3_keepsTo_19 ?_
    refine J_callV X (c_Xget hR (k := (i + 6)) (by omega) (rd1 (IX_L hI (i + 6)) c9)) (And.intro gw_4_148 cw_Jx4a65c_get_915e3) (hR.list (by omega)) rfl rfl rfl (Nat.le_of_ble_eq_true rfl) dX3_keepsTo_20 rfl (J.pa ?_) JE.no
    refine J_cast X (C := RX5) (T := TX5) (N := 2) (hR.reading (rdin hi (rd1 (IX_L hI (i + 6)) c9) (IX_reads hI _))) rfl gw_4_149 dX3_keepsTo_23 ?_
    refine J_callV X (c_X_corrected hR hI i (10 * i + ix ((nI (xL σ (i + 6))) - (1 : Int32))) hi (rdin hi (rd1 (IX_L hI (i + 6)) c9) (IX_reads hI _))) (And.intro gw_4_150 cw_X3_corrected) (hR.meter hi) rfl rfl rfl (Nat.le_of_ble_eq_true rfl) dX3_keepsTo_26 rfl (J.pi ?_) JE.no
    refine J_iload_1 X dX3_keepsTo_29 ?_
    refine J_icmp_gt (tgt := 37) X dX3_keepsTo_30 (by decide) (fun c30 => ?_) (fun c30 => ?_)
    · skip
      rw [if_pos c30] at j9_0
      refine J_iconst (v := 0) X dX3_keepsTo_37 rfl ?_
      exact K9_38 _ j9_0.symm
    · skip
      rw [if_neg c30] at j9_0
      refine J_iconst (v := 1) X dX3_keepsTo_33 rfl ?_
      refine J_goto (tgt := 38) X dX3_keepsTo_34 (by decide) ?_
      exact K9_38 _ j9_0.symm
end
