noncomputable section
def M_isIn_j2 (p1 : Int32) (p2 : Int32) (p3 : Int32) : Int32 := (if p1 < p2 then (0 : Int32) else (if p3 < p1 then (0 : Int32) else (1 : Int32)))
theorem M_isIn_j2_b (p1 : Int32) (p2 : Int32) (p3 : Int32) : M_isIn_j2 p1 p2 p3 = 0 ∨ M_isIn_j2 p1 p2 p3 = 1 := by
  unfold M_isIn_j2
  (repeat' split) <;> first | exact Or.inl rfl | exact Or.inr rfl
def M_isIn (p1 : Int32) (p2 : Int32) (p3 : Int32) : Int32 := (M_isIn_j2 p1 p2 p3)
theorem M_isIn_b (p1 : Int32) (p2 : Int32) (p3 : Int32) : (M_isIn p1 p2 p3) = 0 ∨ (M_isIn p1 p2 p3) = 1 := by
  unfold M_isIn
  (repeat' split) <;> first | exact Or.inl rfl | exact Or.inr rfl | exact M_isIn_j2_b ..
theorem cw_X11_isIn : Cond.static yX11_isIn ∈ GW ∧ Cond.initialized yX11_isIn.cls ∈ GW ∧ Cond.code yX11_isIn cX11_isIn 3 (some .boolean) ∈ GW ∧ (yX11_isIn.cls ≠ "java/lang/invoke/MethodHandle" ∧ yX11_isIn.cls ≠ "java/lang/invoke/VarHandle") ∧ (parseMethodDescriptor yX11_isIn.desc).map (fun d => d.parameters.length) = some 3 := ⟨gw_5_149, gw_1_14, gw_5_150, ⟨by decide, by decide⟩, by decide +kernel⟩
set_option maxRecDepth 100000 in
set_option maxHeartbeats 4000000 in
theorem c_M_isIn {l : Launch} {D : va_G} {ca : Nat → Nat} {h : fH} (p1 : Int32) (p2 : Int32) (p3 : Int32) : FM l D ca yX11_isIn (.code yX11_isIn cX11_isIn 3 (some .boolean)) { frames := 1, cells := 0, slots := 0, locals := 20 } [.int p1, .int p2, .int p3] h (pI (M_isIn p1 p2 p3) h) noX := by
  refine FM.of [some (.int p1), some (.int p2), some (.int p3)] (by decide) (Nat.le_of_ble_eq_true rfl) rfl ?_
  rintro K X rfl rfl rfl
  have q_v : (M_isIn p1 p2 p3) = (M_isIn_j2 p1 p2 p3) := rfl
  refine J_iload_0 X dX11_isIn_0 ?_
  refine J_iload_1 X dX11_isIn_1 ?_
  have K2_15 : ∀ (v2_0 : Int32), v2_0 = (M_isIn_j2 p1 p2 p3) → J K h [some (.int p1), some (.int p2), some (.int p3)] [.int v2_0] 15 0 0 := by
    intro v2_0 ev2_0
    try rw [ev2_0]
    clear ev2_0
    exact J_zret X rfl (M_isIn_j2_b ..) rfl ⟨by rw [q_v], rfl⟩ dX11_isIn_15
  have j2_0 : M_isIn_j2 p1 p2 p3 = (if p1 < p2 then (0 : Int32) else (if p3 < p1 then (0 : Int32) else (1 : Int32))) := rfl
  refine J_icmp_lt (tgt := 14) X dX11_isIn_2 (by decide) (fun c2 => ?_) (fun c2 => ?_)
  · skip
    rw [if_pos c2] at j2_0
    refine J_iconst (v := 0) X dX11_isIn_14 rfl ?_
    exact K2_15 _ j2_0.symm
  · skip
    rw [if_neg c2] at j2_0
    refine J_iload_0 X dX11_isIn_5 ?_
    refine J_iload_2 X dX11_isIn_6 ?_
    refine J_icmp_gt (tgt := 14) X dX11_isIn_7 (by decide) (fun c7 => ?_) (fun c7 => ?_)
    · skip
      rw [if_pos c7] at j2_0
      refine J_iconst (v := 0) X dX11_isIn_14 rfl ?_
      exact K2_15 _ j2_0.symm
    · skip
      rw [if_neg c7] at j2_0
      refine J_iconst (v := 1) X dX11_isIn_10 rfl ?_
      refine J_goto (tgt := 15) X dX11_isIn_11 (by decide) ?_
      exact K2_15 _ j2_0.symm
theorem isIn_iff {v a b : Int32} : (¬ M_isIn v a b = 0) ↔ (a.toInt ≤ v.toInt ∧ v.toInt ≤ b.toInt) := by
  unfold M_isIn M_isIn_j2
  by_cases h1 : v < a
  · rw [if_pos h1]
    rw [Int32.lt_iff_toInt_lt] at h1
    constructor
    · intro h; exact absurd rfl h
    · intro h; omega
  · rw [if_neg h1]
    rw [Int32.lt_iff_toInt_lt] at h1
    by_cases h2 : b < v
    · rw [if_pos h2]
      rw [Int32.lt_iff_toInt_lt] at h2
      constructor
      · intro h; exact absurd rfl h
      · intro h; omega
    · rw [if_neg h2]
      rw [Int32.lt_iff_toInt_lt] at h2
      constructor
      · intro _; omega
      · intro _ h; exact absurd h (by decide)
theorem isIn_in {v : Int32} {N : Nat} {b : Int32} (hb : b.toInt = (N : Int)) (h : ¬ M_isIn v 0 b = 0) : vp_in v (N + 1) := by
  have := isIn_iff.mp h
  rw [Int32.toInt_zero, hb] at this
  exact vp_in_iff.mpr ⟨this.1, by omega⟩
theorem isIn_cnt {v c : Int32} {N : Nat} (hc : vp_in c (N + 1)) (hN : N < 1000000) (h : ¬ M_isIn v 0 (c - 1) = 0) : vp_in v N ∧ ix v < ix c := by
  obtain ⟨e, hle⟩ := cnt hc hN
  have h1 := isIn_iff.mp h
  have h2 : (c - 1).toInt = (ix c : Int) - 1 := by
    have := pk_sub_toInt (a := ix c) (b := 1) (by omega) (by decide)
    rw [← e] at this
    exact this
  rw [Int32.toInt_zero, h2] at h1
  have h3 : vp_in v (ix c) := vp_in_iff.mpr ⟨h1.1, by omega⟩
  exact ⟨vp_up h3 hle, vp_lt h3⟩
def M_isPlace (p1 : Int32) : Int32 := (M_isIn p1 (0 : Int32) (63 : Int32))
theorem M_isPlace_b (p1 : Int32) : (M_isPlace p1) = 0 ∨ (M_isPlace p1) = 1 := by
  unfold M_isPlace
  (repeat' split) <;> first | exact Or.inl rfl | exact Or.inr rfl | exact M_isIn_b ..
theorem cw_X11_isPlace : Cond.static yX11_isPlace ∈ GW ∧ Cond.initialized yX11_isPlace.cls ∈ GW ∧ Cond.code yX11_isPlace cX11_isPlace 1 (some .boolean) ∈ GW ∧ (yX11_isPlace.cls ≠ "java/lang/invoke/MethodHandle" ∧ yX11_isPlace.cls ≠ "java/lang/invoke/VarHandle") ∧ (parseMethodDescriptor yX11_isPlace.desc).map (fun d => d.parameters.length) = some 1 := ⟨gw_5_146, gw_1_14, gw_5_147, ⟨by decide, by decide⟩, by decide +kernel⟩
set_option maxRecDepth 100000 in
set_option maxHeartbeats 4000000 in
theorem c_M_isPlace {l : Launch} {D : va_G} {ca : Nat → Nat} {h : fH} (p1 : Int32) : FM l D ca yX11_isPlace (.code yX11_isPlace cX11_isPlace 1 (some .boolean)) { frames := 2, cells := 0, slots := 0, locals := 42 } [.int p1] h (pI (M_isPlace p1) h) noX := by
  refine FM.of [some (.int p1)] (by decide) (Nat.le_of_ble_eq_true rfl) rfl ?_
  rintro K X rfl rfl rfl
  have q_v : (M_isPlace p1) = (M_isIn p1 (0 : Int32) (63 : Int32)) := rfl
  refine J_iload_0 X dX11_isPlace_0 ?_
  refine J_iconst (v := 0) X dX11_isPlace_1 rfl ?_
  refine J_bipush (v := (63 : Int32)) X dX11_isPlace_2 (by decide) ?_
  refine J_callS X (c_M_isIn p1 (0 : Int32) (63 : Int32)) (And.intro gw_5_148 cw_X11_isIn) rfl rfl (Nat.le_of_ble_eq_true rfl) dX11_isPlace_4 rfl (J.pi ?_) JE.no
  exact J_zret X rfl (M_isIn_b ..) rfl ⟨by rw [q_v], rfl⟩ dX11_isPlace_7
def M_isZone (p1 : Int32) : Int32 := (M_isIn p1 (0 : Int32) (3 : Int32))
theorem M_isZone_b (p1 : Int32) : (M_isZone p1) = 0 ∨ (M_isZone p1) = 1 := by
  unfold M_isZone
  (repeat' split) <;> first | exact Or.inl rfl | exact Or.inr rfl | exact M_isIn_b ..
theorem cw_X11_isZone : Cond.static yX11_isZone ∈ GW ∧ Cond.initialized yX11_isZone.cls ∈ GW ∧ Cond.code yX11_isZone cX11_isZone 1 (some .boolean) ∈ GW ∧ (yX11_isZone.cls ≠ "java/lang/invoke/MethodHandle" ∧ yX11_isZone.cls ≠ "java/lang/invoke/VarHandle") ∧ (parseMethodDescriptor yX11_isZone.desc).map (fun d => d.parameters.length) = some 1 := ⟨gw_5_160, gw_1_14, gw_5_161, ⟨by decide, by decide⟩, by decide +kernel⟩
set_option maxRecDepth 100000 in
set_option maxHeartbeats 4000000 in
theorem c_M_isZone {l : Launch} {D : va_G} {ca : Nat → Nat} {h : fH} (p1 : Int32) : FM l D ca yX11_isZone (.code yX11_isZone cX11_isZone 1 (some .boolean)) { frames := 2, cells := 0, slots := 0, locals := 42 } [.int p1] h (pI (M_isZone p1) h) noX := by
  refine FM.of [some (.int p1)] (by decide) (Nat.le_of_ble_eq_true rfl) rfl ?_
  rintro K X rfl rfl rfl
  have q_v : (M_isZone p1) = (M_isIn p1 (0 : Int32) (3 : Int32)) := rfl
  refine J_iload_0 X dX11_isZone_0 ?_
  refine J_iconst (v := 0) X dX11_isZone_1 rfl ?_
  refine J_iconst (v := 3) X dX11_isZone_2 rfl ?_
  refine J_callS X (c_M_isIn p1 (0 : Int32) (3 : Int32)) (And.intro gw_5_148 cw_X11_isIn) rfl rfl (Nat.le_of_ble_eq_true rfl) dX11_isZone_3 rfl (J.pi ?_) JE.no
  exact J_zret X rfl (M_isIn_b ..) rfl ⟨by rw [q_v], rfl⟩ dX11_isZone_6
def M_isVillage (σ : St) (p1 : Int32) : Int32 := (M_isIn p1 (0 : Int32) ((σ 8 0) - (1 : Int32)))
theorem M_isVillage_b (σ : St) (p1 : Int32) : (M_isVillage σ p1) = 0 ∨ (M_isVillage σ p1) = 1 := by
  unfold M_isVillage
  (repeat' split) <;> first | exact Or.inl rfl | exact Or.inr rfl | exact M_isIn_b ..
theorem cw_X11_isVillage : Cond.instanceMethod yX11_isVillage ∈ GW ∧ Cond.selects RX11 yX11_isVillage yX11_isVillage ∈ GW ∧ Cond.initialized RX11 ∈ GW ∧ Cond.code yX11_isVillage cX11_isVillage 2 (some .boolean) ∈ GW ∧ yX11_isVillage.cls = RX11 ∧ (yX11_isVillage.cls ≠ "java/lang/invoke/MethodHandle" ∧ yX11_isVillage.cls ≠ "java/lang/invoke/VarHandle") ∧ (parseMethodDescriptor yX11_isVillage.desc).map (fun d => d.parameters.length) = some 1 := ⟨gw_5_192, gws_25, gw_1_14, gw_5_193, rfl, ⟨by decide, by decide⟩, by decide +kernel⟩
set_option maxRecDepth 100000 in
set_option maxHeartbeats 4000000 in
theorem c_M_isVillage {l : Launch} {D : va_G} {ca : Nat → Nat} {h : fH} {m : Nat} {ρ : Nat → Nat} {σ : St} (hR : RM ca h m ρ σ) (p1 : Int32) : FM l D ca yX11_isVillage (.code yX11_isVillage cX11_isVillage 2 (some .boolean)) { frames := 2, cells := 0, slots := 0, locals := 42 } [.ref m, .int p1] h (pI (M_isVillage σ p1) h) noX := by
  refine FM.of [some (.ref m), some (.int p1)] (by decide) (Nat.le_of_ble_eq_true rfl) rfl ?_
  rintro K X rfl rfl rfl
  have q_v : (M_isVillage σ p1) = (M_isIn p1 (0 : Int32) ((σ 8 0) - (1 : Int32))) := rfl
  refine J_iload_1 X dX11_isVillage_0 ?_
  refine J_iconst (v := 0) X dX11_isVillage_1 rfl ?_
  refine J_aload_0 X dX11_isVillage_2 ?_
  refine JM_get X hR 8 (by decide) rfl rfl gw_5_18 dX11_isVillage_3 ?_
  refine J_iconst (v := 1) X dX11_isVillage_6 rfl ?_
  refine J_isub X dX11_isVillage_7 ?_
  refine J_callS X (c_M_isIn p1 (0 : Int32) ((σ 8 0) - (1 : Int32))) (And.intro gw_5_148 cw_X11_isIn) rfl rfl (Nat.le_of_ble_eq_true rfl) dX11_isVillage_8 rfl (J.pi ?_) JE.no
  exact J_zret X rfl (M_isIn_b ..) rfl ⟨by rw [q_v], rfl⟩ dX11_isVillage_11
def M_isLamp (σ : St) (p1 : Int32) : Int32 := (M_isIn p1 (0 : Int32) ((σ 13 0) - (1 : Int32)))
theorem M_isLamp_b (σ : St) (p1 : Int32) : (M_isLamp σ p1) = 0 ∨ (M_isLamp σ p1) = 1 := by
  unfold M_isLamp
  (repeat' split) <;> first | exact Or.inl rfl | exact Or.inr rfl | exact M_isIn_b ..
theorem cw_X11_isLamp : Cond.instanceMethod yX11_isLamp ∈ GW ∧ Cond.selects RX11 yX11_isLamp yX11_isLamp ∈ GW ∧ Cond.initialized RX11 ∈ GW ∧ Cond.code yX11_isLamp cX11_isLamp 2 (some .boolean) ∈ GW ∧ yX11_isLamp.cls = RX11 ∧ (yX11_isLamp.cls ≠ "java/lang/invoke/MethodHandle" ∧ yX11_isLamp.cls ≠ "java/lang/invoke/VarHandle") ∧ (parseMethodDescriptor yX11_isLamp.desc).map (fun d => d.parameters.length) = some 1 := ⟨gw_5_205, gws_27, gw_1_14, gw_5_206, rfl, ⟨by decide, by decide⟩, by decide +kernel⟩
set_option maxRecDepth 100000 in
set_option maxHeartbeats 4000000 in
theorem c_M_isLamp {l : Launch} {D : va_G} {ca : Nat → Nat} {h : fH} {m : Nat} {ρ : Nat → Nat} {σ : St} (hR : RM ca h m ρ σ) (p1 : Int32) : FM l D ca yX11_isLamp (.code yX11_isLamp cX11_isLamp 2 (some .boolean)) { frames := 2, cells := 0, slots := 0, locals := 42 } [.ref m, .int p1] h (pI (M_isLamp σ p1) h) noX := by
  refine FM.of [some (.ref m), some (.int p1)] (by decide) (Nat.le_of_ble_eq_true rfl) rfl ?_
  rintro K X rfl rfl rfl
  have q_v : (M_isLamp σ p1) = (M_isIn p1 (0 : Int32) ((σ 13 0) - (1 : Int32))) := rfl
  refine J_iload_1 X dX11_isLamp_0 ?_
  refine J_iconst (v := 0) X dX11_isLamp_1 rfl ?_
  refine J_aload_0 X dX11_isLamp_2 ?_
  refine JM_get X hR 13 (by decide) rfl rfl gw_5_23 dX11_isLamp_3 ?_
  refine J_iconst (v := 1) X dX11_isLamp_6 rfl ?_
  refine J_isub X dX11_isLamp_7 ?_
  refine J_callS X (c_M_isIn p1 (0 : Int32) ((σ 13 0) - (1 : Int32))) (And.intro gw_5_148 cw_X11_isIn) rfl rfl (Nat.le_of_ble_eq_true rfl) dX11_isLamp_8 rfl (J.pi ?_) JE.no
  exact J_zret X rfl (M_isIn_b ..) rfl ⟨by rw [q_v], rfl⟩ dX11_isLamp_11
def M_isMeter (σ : St) (p1 : Int32) : Int32 := (M_isIn p1 (0 : Int32) ((σ 26 0) - (1 : Int32)))
theorem M_isMeter_b (σ : St) (p1 : Int32) : (M_isMeter σ p1) = 0 ∨ (M_isMeter σ p1) = 1 := by
  unfold M_isMeter
  (repeat' split) <;> first | exact Or.inl rfl | exact Or.inr rfl | exact M_isIn_b ..
theorem cw_X11_isMeter : Cond.instanceMethod yX11_isMeter ∈ GW ∧ Cond.selects RX11 yX11_isMeter yX11_isMeter ∈ GW ∧ Cond.initialized RX11 ∈ GW ∧ Cond.code yX11_isMeter cX11_isMeter 2 (some .boolean) ∈ GW ∧ yX11_isMeter.cls = RX11 ∧ (yX11_isMeter.cls ≠ "java/lang/invoke/MethodHandle" ∧ yX11_isMeter.cls ≠ "java/lang/invoke/VarHandle") ∧ (parseMethodDescriptor yX11_isMeter.desc).map (fun d => d.parameters.length) = some 1 := ⟨gw_6_1, gws_30, gw_1_14, gw_6_2, rfl, ⟨by decide, by decide⟩, by decide +kernel⟩
set_option maxRecDepth 100000 in
set_option maxHeartbeats 4000000 in
theorem c_M_isMeter {l : Launch} {D : va_G} {ca : Nat → Nat} {h : fH} {m : Nat} {ρ : Nat → Nat} {σ : St} (hR : RM ca h m ρ σ) (p1 : Int32) : FM l D ca yX11_isMeter (.code yX11_isMeter cX11_isMeter 2 (some .boolean)) { frames := 2, cells := 0, slots := 0, locals := 42 } [.ref m, .int p1] h (pI (M_isMeter σ p1) h) noX := by
  refine FM.of [some (.ref m), some (.int p1)] (by decide) (Nat.le_of_ble_eq_true rfl) rfl ?_
  rintro K X rfl rfl rfl
  have q_v : (M_isMeter σ p1) = (M_isIn p1 (0 : Int32) ((σ 26 0) - (1 : Int32))) := rfl
  refine J_iload_1 X dX11_isMeter_0 ?_
  refine J_iconst (v := 0) X dX11_isMeter_1 rfl ?_
  refine J_aload_0 X dX11_isMeter_2 ?_
  refine JM_get X hR 26 (by decide) rfl rfl gw_5_36 dX11_isMeter_3 ?_
  refine J_iconst (v := 1) X dX11_isMeter_6 rfl ?_
  refine J_isub X dX11_isMeter_7 ?_
  refine J_callS X (c_M_isIn p1 (0 : Int32) ((σ 26 0) - (1 : Int32))) (And.intro gw_5_148 cw_X11_isIn) rfl rfl (Nat.le_of_ble_eq_true rfl) dX11_isMeter_8 rfl (J.pi ?_) JE.no
  exact J_zret X rfl (M_isIn_b ..) rfl ⟨by rw [q_v], rfl⟩ dX11_isMeter_11
theorem isPlace_in {p : Int32} (h : ¬ M_isPlace p = 0) : vp_in p 64 := isIn_in (N := 63) (by decide) h
theorem isZone_in {p : Int32} (h : ¬ M_isZone p = 0) : vp_in p 4 := isIn_in (N := 3) (by decide) h
theorem isLamp_in {σ : St} (hI : Inv σ) {p : Int32} (h : ¬ M_isLamp σ p = 0) : vp_in p 40 := (isIn_cnt (N := 40) (hI 13 0) (by decide) h).1
theorem isVillage_in {σ : St} (hI : Inv σ) {p : Int32} (h : ¬ M_isVillage σ p = 0) : vp_in p 5 := (isIn_cnt (N := 5) (hI 8 0) (by decide) h).1
theorem isMeter_in {σ : St} (hI : Inv σ) {p : Int32} (h : ¬ M_isMeter σ p = 0) : vp_in p 8 := (isIn_cnt (N := 8) (hI 26 0) (by decide) h).1
def M_size_j1 (p1 : Int32) : Int32 := (if (0 : Int32) ≤ p1 then p1 else (-p1))
def M_size (p1 : Int32) : Int32 := (M_size_j1 p1)
theorem cw_X11_size : Cond.static yX11_size ∈ GW ∧ Cond.initialized yX11_size.cls ∈ GW ∧ Cond.code yX11_size cX11_size 1 (some .int) ∈ GW ∧ (yX11_size.cls ≠ "java/lang/invoke/MethodHandle" ∧ yX11_size.cls ≠ "java/lang/invoke/VarHandle") ∧ (parseMethodDescriptor yX11_size.desc).map (fun d => d.parameters.length) = some 1 := ⟨gw_6_24, gw_1_14, gw_6_25, ⟨by decide, by decide⟩, by decide +kernel⟩
set_option maxRecDepth 100000 in
set_option maxHeartbeats 4000000 in
theorem c_M_size {l : Launch} {D : va_G} {ca : Nat → Nat} {h : fH} (p1 : Int32) : FM l D ca yX11_size (.code yX11_size cX11_size 1 (some .int)) { frames := 1, cells := 0, slots := 0, locals := 20 } [.int p1] h (pI (M_size p1) h) noX := by
  refine FM.of [some (.int p1)] (by decide) (Nat.le_of_ble_eq_true rfl) rfl ?_
  rintro K X rfl rfl rfl
  have q_v : (M_size p1) = (M_size_j1 p1) := rfl
  refine J_iload_0 X dX11_size_0 ?_
  have K1_10 : ∀ (v1_0 : Int32), v1_0 = (M_size_j1 p1) → J K h [some (.int p1)] [.int v1_0] 10 0 0 := by
    intro v1_0 ev1_0
    try rw [ev1_0]
    clear ev1_0
    exact J_iret X rfl rfl ⟨by rw [q_v], rfl⟩ dX11_size_10
  have j1_0 : M_size_j1 p1 = (if (0 : Int32) ≤ p1 then p1 else (-p1)) := rfl
  refine J_if_ge (tgt := 9) X dX11_size_1 (by decide) (fun c1 => ?_) (fun c1 => ?_)
  · skip
    rw [if_pos c1] at j1_0
    refine J_iload_0 X dX11_size_9 ?_
    exact K1_10 _ j1_0.symm
  · skip
    rw [if_neg c1] at j1_0
    refine J_iload_0 X dX11_size_4 ?_
    refine J_ineg X dX11_size_5 ?_
    refine J_goto (tgt := 10) X dX11_size_6 (by decide) ?_
    exact K1_10 _ j1_0.symm
def M_isBound_j10 (σ : St) (p1 : Int32) : Int32 := (if (σ 24 (ix p1)) ≤ (σ 0 0) then (0 : Int32) else (1 : Int32))
theorem M_isBound_j10_b (σ : St) (p1 : Int32) : M_isBound_j10 σ p1 = 0 ∨ M_isBound_j10 σ p1 = 1 := by
  unfold M_isBound_j10
  (repeat' split) <;> first | exact Or.inl rfl | exact Or.inr rfl
def M_isBound (σ : St) (p1 : Int32) : Int32 := (M_isBound_j10 σ p1)
theorem M_isBound_b (σ : St) (p1 : Int32) : (M_isBound σ p1) = 0 ∨ (M_isBound σ p1) = 1 := by
  unfold M_isBound
  (repeat' split) <;> first | exact Or.inl rfl | exact Or.inr rfl | exact M_isBound_j10_b ..
theorem cw_X11_isBound : Cond.instanceMethod yX11_isBound ∈ GW ∧ Cond.selects RX11 yX11_isBound yX11_isBound ∈ GW ∧ Cond.initialized RX11 ∈ GW ∧ Cond.code yX11_isBound cX11_isBound 2 (some .boolean) ∈ GW ∧ yX11_isBound.cls = RX11 ∧ (yX11_isBound.cls ≠ "java/lang/invoke/MethodHandle" ∧ yX11_isBound.cls ≠ "java/lang/invoke/VarHandle") ∧ (parseMethodDescriptor yX11_isBound.desc).map (fun d => d.parameters.length) = some 1 := ⟨gw_5_209, gws_28, gw_1_14, gw_5_210, rfl, ⟨by decide, by decide⟩, by decide +kernel⟩
set_option maxRecDepth 100000 in
set_option maxHeartbeats 4000000 in
theorem c_M_isBound {l : Launch} {D : va_G} {ca : Nat → Nat} {h : fH} {m : Nat} {ρ : Nat → Nat} {σ : St} (hR : RM ca h m ρ σ) (p1 : Int32) (hp1 : vp_in p1 40) : FM l D ca yX11_isBound (.code yX11_isBound cX11_isBound 2 (some .boolean)) { frames := 1, cells := 0, slots := 0, locals := 20 } [.ref m, .int p1] h (pI (M_isBound σ p1) h) noX := by
  refine FM.of [some (.ref m), some (.int p1)] (by decide) (Nat.le_of_ble_eq_true rfl) rfl ?_
  rintro K X rfl rfl rfl
  have q_v : (M_isBound σ p1) = (M_isBound_j10 σ p1) := rfl
  refine J_aload_0 X dX11_isBound_0 ?_
  refine JM_get X hR 0 (by decide) rfl rfl gw_5_10 dX11_isBound_1 ?_
  refine J_aload_0 X dX11_isBound_4 ?_
  refine JM_get X hR 24 (by decide) rfl rfl gw_5_34 dX11_isBound_5 ?_
  refine J_iload_1 X dX11_isBound_8 ?_
  refine JM_ald X hR 24 rfl rfl hp1 dX11_isBound_9 ?_
  have K10_18 : ∀ (v10_0 : Int32), v10_0 = (M_isBound_j10 σ p1) → J K h [some (.ref m), some (.int p1)] [.int v10_0] 18 0 0 := by
    intro v10_0 ev10_0
    try rw [ev10_0]
    clear ev10_0
    exact J_zret X rfl (M_isBound_j10_b ..) rfl ⟨by rw [q_v], rfl⟩ dX11_isBound_18
  have j10_0 : M_isBound_j10 σ p1 = (if (σ 24 (ix p1)) ≤ (σ 0 0) then (0 : Int32) else (1 : Int32)) := rfl
  refine J_icmp_ge (tgt := 17) X dX11_isBound_10 (by decide) (fun c10 => ?_) (fun c10 => ?_)
  · skip
    rw [if_pos c10] at j10_0
    refine J_iconst (v := 0) X dX11_isBound_17 rfl ?_
    exact K10_18 _ j10_0.symm
  · skip
    rw [if_neg c10] at j10_0
    refine J_iconst (v := 1) X dX11_isBound_13 rfl ?_
    refine J_goto (tgt := 18) X dX11_isBound_14 (by decide) ?_
    exact K10_18 _ j10_0.symm
def M_fails_j6 (σ : St) (p1 : Int32) : Int32 := (if p1 ≤ (0 : Int32) then (0 : Int32) else (1 : Int32))
theorem M_fails_j6_b (σ : St) (p1 : Int32) : M_fails_j6 σ p1 = 0 ∨ M_fails_j6 σ p1 = 1 := by
  unfold M_fails_j6
  (repeat' split) <;> first | exact Or.inl rfl | exact Or.inr rfl
def M_fails (σ : St) (p1 : Int32) : Int32 := (M_fails_j6 σ p1)
def M_fails_s (σ : St) (p1 : Int32) : St := (sC σ 41 p1)
theorem M_fails_b (σ : St) (p1 : Int32) : (M_fails σ p1) = 0 ∨ (M_fails σ p1) = 1 := by
  unfold M_fails
  (repeat' split) <;> first | exact Or.inl rfl | exact Or.inr rfl | exact M_fails_j6_b ..
theorem cw_X11_fails : Cond.instanceMethod yX11_fails ∈ GW ∧ Cond.selects RX11 yX11_fails yX11_fails ∈ GW ∧ Cond.initialized RX11 ∈ GW ∧ Cond.code yX11_fails cX11_fails 2 (some .boolean) ∈ GW ∧ yX11_fails.cls = RX11 ∧ (yX11_fails.cls ≠ "java/lang/invoke/MethodHandle" ∧ yX11_fails.cls ≠ "java/lang/invoke/VarHandle") ∧ (parseMethodDescriptor yX11_fails.desc).map (fun d => d.parameters.length) = some 1 := ⟨gw_5_153, gws_23, gw_1_14, gw_5_154, rfl, ⟨by decide, by decide⟩, by decide +kernel⟩
set_option maxRecDepth 100000 in
set_option maxHeartbeats 4000000 in
theorem c_M_fails {l : Launch} {D : va_G} {ca : Nat → Nat} {h : fH} {m : Nat} {ρ : Nat → Nat} {σ : St} (hR : RM ca h m ρ σ) (p1 : Int32) : FM l D ca yX11_fails (.code yX11_fails cX11_fails 2 (some .boolean)) { frames := 1, cells := 0, slots := 0, locals := 20 } [.ref m, .int p1] h (pIM (M_fails σ p1) (fun h2 => RM ca h2 m ρ (M_fails_s σ p1))) noX := by
  refine FM.of [some (.ref m), some (.int p1)] (by decide) (Nat.le_of_ble_eq_true rfl) rfl ?_
  rintro K X rfl rfl rfl
  have q_v : (M_fails σ p1) = (M_fails_j6 σ p1) := rfl
  have q_s : (M_fails_s σ p1) = (sC σ 41 p1) := rfl
  refine J_aload_0 X dX11_fails_0 ?_
  refine J_iload_1 X dX11_fails_1 ?_
  refine JM_put X hR 41 (by decide) rfl rfl rfl rfl rfl rfl gw_5_51 dX11_fails_2 (fun h1 hR1 => ?_)
  refine J_iload_1 X dX11_fails_5 ?_
  have K6_14 : ∀ (v6_0 : Int32), v6_0 = (M_fails_j6 σ p1) → J K h1 [some (.ref m), some (.int p1)] [.int v6_0] 14 0 0 := by
    intro v6_0 ev6_0
    try rw [ev6_0]
    clear ev6_0
    exact J_zret X rfl (M_fails_j6_b ..) rfl ⟨by rw [q_v], by rw [q_s]; exact hR1⟩ dX11_fails_14
  have j6_0 : M_fails_j6 σ p1 = (if p1 ≤ (0 : Int32) then (0 : Int32) else (1 : Int32)) := rfl
  refine J_if_le (tgt := 13) X dX11_fails_6 (by decide) (fun c6 => ?_) (fun c6 => ?_)
  · skip
    rw [if_pos c6] at j6_0
    refine J_iconst (v := 0) X dX11_fails_13 rfl ?_
    exact K6_14 _ j6_0.symm
  · skip
    rw [if_neg c6] at j6_0
    refine J_iconst (v := 1) X dX11_fails_9 rfl ?_
    refine J_goto (tgt := 14) X dX11_fails_10 (by decide) ?_
    exact K6_14 _ j6_0.symm
theorem fails_0 (σ : St) : M_fails σ 0 = 0 := by unfold M_fails; (repeat unfold M_fails_j6); decide
theorem fails_1 (σ : St) : M_fails σ 1 = 1 := by unfold M_fails; (repeat unfold M_fails_j6); decide
theorem fails_2 (σ : St) : M_fails σ 2 = 1 := by unfold M_fails; (repeat unfold M_fails_j6); decide
theorem fails_3 (σ : St) : M_fails σ 3 = 1 := by unfold M_fails; (repeat unfold M_fails_j6); decide
theorem i10 : ¬ (1 : Int32) = 0 := by decide
theorem Inv_fails {σ : St} {w : Int32} (hI : Inv σ) : Inv (M_fails_s σ w) := Inv_sC hI trivial
theorem feastix {z t : Int32} (hz : vp_in z 4) (ht : vp_in t 1000) : vp_in (1000 * z + t) 4000 := by
  rw [vp_nI' hz (by decide), vp_nI' ht (by decide)]
  have h1 := vp_lt hz
  have h2 := vp_lt ht
  rw [show (1000 : Int32) = nI 1000 from rfl, pk_mul, nI_add]
  exact vp_in_nI (by omega) (by decide)
theorem div24 {t : Int32} (ht : vp_in t 20001) : vp_in (t / 24) 1000 := by
  rw [vp_nI' ht (by decide)]
  have h1 := vp_lt ht
  rw [show (24 : Int32) = nI 24 from rfl, pk_div (by omega) (by decide) (by decide)]
  exact vp_in_nI (by omega) (by decide)
theorem nIr {i : Int32} {N : Nat} (h : vp_in i N) (hN : N < 2 ^ 31) : i = nI (ix i) := vp_nI' h hN
end
