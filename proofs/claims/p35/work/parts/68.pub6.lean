noncomputable section
theorem valVil {σ : St} (hI : InvX σ) {p1 p2 : Int32} : nI (xL (newVil σ p1 p2) 2) - 1 = σ 8 0 := by
  show nI (ix (newVil σ p1 p2 8 0)) - 1 = σ 8 0
  rw [show newVil σ p1 p2 8 0 = σ 8 0 + 1 from sC_same .., cntb (N := 5) (hI.1 8 0) (by decide)]
theorem valMet {σ : St} (hI : InvX σ) {p1 p2 p3 : Int32} : nI (xL (newMet σ p1 p2 p3) 4) - 1 = σ 26 0 := by
  show nI (ix (newMet σ p1 p2 p3 26 0)) - 1 = σ 26 0
  rw [show newMet σ p1 p2 p3 26 0 = σ 26 0 + 1 from sC_same .., cntb (N := 8) (hI.1 26 0) (by decide)]
theorem valLamp {σ : St} (hI : InvX σ) {p1 p2 p3 p4 p5 : Int32} : nI (xL (newLamp σ p1 p2 p3 p4 p5) 3) - 1 = σ 13 0 := by
  show nI (ix (newLamp σ p1 p2 p3 p4 p5 13 0)) - 1 = σ 13 0
  rw [newLamp_13, cntb (N := 40) (hI.1 13 0) (by decide)]
def X_village_j24 (σ : St) (p1 : Int32) (p2 : Int32) : Int32 := (if (5 : Int32) ≤ (nI (xL σ 2)) then (0 : Int32) else (1 : Int32))
theorem X_village_j24_b (σ : St) (p1 : Int32) (p2 : Int32) : X_village_j24 σ p1 p2 = 0 ∨ X_village_j24 σ p1 p2 = 1 := by
  unfold X_village_j24
  (repeat' split) <;> first | exact Or.inl rfl | exact Or.inr rfl
def X_village (σ : St) (p1 : Int32) (p2 : Int32) : Int32 := (if M_isIn p1 (1 : Int32) (500 : Int32) = 0 then (0 : Int32) else (if M_isIn p2 (0 : Int32) (10000 : Int32) = 0 then (0 : Int32) else (if (X_village_j24 σ p1 p2) = 0 then (0 : Int32) else (σ 8 0))))
def X_village_s (σ : St) (p1 : Int32) (p2 : Int32) : St := (if M_isIn p1 (1 : Int32) (500 : Int32) = 0 then σ else (if M_isIn p2 (0 : Int32) (10000 : Int32) = 0 then σ else (if (X_village_j24 σ p1 p2) = 0 then σ else (newVil σ p1 p2))))
def X_village_c (σ : St) (p1 : Int32) (p2 : Int32) : Int32 := (if M_isIn p1 (1 : Int32) (500 : Int32) = 0 then (2 : Int32) else (if M_isIn p2 (0 : Int32) (10000 : Int32) = 0 then (2 : Int32) else (if (X_village_j24 σ p1 p2) = 0 then (3 : Int32) else (0 : Int32))))
theorem cw_X10_village : Cond.instanceMethod yX10_village ∈ GW ∧ Cond.selects RX10 yX10_village yX10_village ∈ GW ∧ Cond.initialized RX10 ∈ GW ∧ Cond.code yX10_village cX10_village 3 (some .int) ∈ GW ∧ yX10_village.cls = RX10 ∧ (yX10_village.cls ≠ "java/lang/invoke/MethodHandle" ∧ yX10_village.cls ≠ "java/lang/invoke/VarHandle") ∧ (parseMethodDescriptor yX10_village.desc).map (fun d => d.parameters.length) = some 2 := ⟨gw_3_15, gw_3_16, gw_1_1, gw_3_17, rfl, ⟨by decide, by decide⟩, by decide +kernel⟩
set_option maxRecDepth 100000 in
set_option maxHeartbeats 4000000 in
theorem c_X_village {l : Launch} {D : va_G} {ca : Nat → Nat} {h : fH} {ρ : Nat → Nat → Nat} {μ : Nat → Nat → Int32} {cap : Nat → Nat} {σ : St} (hR : RX ca h ρ μ cap σ) (hI : InvX σ) (p1 : Int32) (p2 : Int32) (hcap : ∀ k, cap k ≤ 100) : FM l D ca yX10_village (.code yX10_village cX10_village 3 (some .int)) { frames := 7, cells := 5, slots := 123, locals := 291 } [.ref (ρ 0 0), .int p1, .int p2] h (pPub (some (.int (X_village σ p1 p2))) (X_village_c σ p1 p2) (fun h2 => RA ca h2 (ρ 0 0) (X_village_s σ p1 p2))) (pxX (X_village_c σ p1 p2) (fun h2 => RA ca h2 (ρ 0 0) (X_village_s σ p1 p2))) := by
  refine FM.of [some (.ref (ρ 0 0)), some (.int p1), some (.int p2)] (by decide) (Nat.le_of_ble_eq_true rfl) rfl ?_
  rintro K X rfl rfl rfl
  have q_v : (X_village σ p1 p2) = (if M_isIn p1 (1 : Int32) (500 : Int32) = 0 then (0 : Int32) else (if M_isIn p2 (0 : Int32) (10000 : Int32) = 0 then (0 : Int32) else (if (X_village_j24 σ p1 p2) = 0 then (0 : Int32) else (σ 8 0)))) := rfl
  have q_s : (X_village_s σ p1 p2) = (if M_isIn p1 (1 : Int32) (500 : Int32) = 0 then σ else (if M_isIn p2 (0 : Int32) (10000 : Int32) = 0 then σ else (if (X_village_j24 σ p1 p2) = 0 then σ else (newVil σ p1 p2)))) := rfl
  have q_c : (X_village_c σ p1 p2) = (if M_isIn p1 (1 : Int32) (500 : Int32) = 0 then (2 : Int32) else (if M_isIn p2 (0 : Int32) (10000 : Int32) = 0 then (2 : Int32) else (if (X_village_j24 σ p1 p2) = 0 then (3 : Int32) else (0 : Int32)))) := rfl
  refine J_iload_1 X dX10_village_0 ?_
  refine J_iconst (v := 1) X dX10_village_1 rfl ?_
  refine J_sipush (v := (500 : Int32)) X dX10_village_2 (by decide) ?_
  refine J_callS X (c_needRange p1 (1 : Int32) (500 : Int32)) (And.intro gw_2_198 cw_X10_needRange) rfl rfl (Nat.le_of_ble_eq_true rfl) dX10_village_5 rfl (fun v h2 e => ?_) (fun E h2 e => ?_)
  · skip
    obtain ⟨e1, e2, c5⟩ := e
    subst e1
    rw [e2]
    clear e2
    rw [if_neg c5] at q_v
    rw [if_neg c5] at q_s
    rw [if_neg c5] at q_c
    show J K h [some (.ref (ρ 0 0)), some (.int p1), some (.int p2)] [] 8 1 6
    refine J_iload_2 X dX10_village_8 ?_
    refine J_iconst (v := 0) X dX10_village_9 rfl ?_
    refine J_sipush (v := (10000 : Int32)) X dX10_village_10 (by decide) ?_
    refine J_callS X (c_needRange p2 (0 : Int32) (10000 : Int32)) (And.intro gw_2_198 cw_X10_needRange) rfl rfl (Nat.le_of_ble_eq_true rfl) dX10_village_13 rfl (fun v h2 e => ?_) (fun E h2 e => ?_)
    · skip
      obtain ⟨e1, e2, c13⟩ := e
      subst e1
      rw [e2]
      clear e2
      rw [if_neg c13] at q_v
      rw [if_neg c13] at q_s
      rw [if_neg c13] at q_c
      show J K h [some (.ref (ρ 0 0)), some (.int p1), some (.int p2)] [] 16 2 12
      refine J_aload_0 X dX10_village_16 ?_
      refine J_get X (C := RX10) (T := TX10) (N := 11) (ref := "NightValley") hR.root rfl 2 (by decide) rfl in_X10 gw_1_234 (fun _ z => z) dX10_village_17 ?_
      refine J_callV X (c_Xsize hR (k := 2) (by omega)) (And.intro gw_2_34 cw_Jx4a65c_size_8abf5) (hR.list (by omega)) rfl rfl rfl (Nat.le_of_ble_eq_true rfl) dX10_village_20 rfl (J.pi ?_) JE.no
      refine J_iconst (v := 5) X dX10_village_23 rfl ?_
      have K24_32 : ∀ (v24_0 : Int32), v24_0 = (X_village_j24 σ p1 p2) → J K h [some (.ref (ρ 0 0)), some (.int p1), some (.int p2)] [.int v24_0] 32 2 12 := by
        intro v24_0 ev24_0
        try rw [ev24_0]
        clear ev24_0
        refine J_callS X (c_needState (X_village_j24 σ p1 p2)) (And.intro gw_2_232 cw_X10_needState) rfl rfl (Nat.le_of_ble_eq_true rfl) dX10_village_32 rfl (fun v h2 e => ?_) (fun E h2 e => ?_)
        · skip
          obtain ⟨e1, e2, c32⟩ := e
          subst e1
          rw [e2]
          clear e2
          rw [if_neg c32] at q_v
          rw [if_neg c32] at q_s
          rw [if_neg c32] at q_c
          show J K h [some (.ref (ρ 0 0)), some (.int p1), some (.int p2)] [] 35 3 18
          refine J_aload_0 X dX10_village_35 ?_
          refine J_get X (C := RX10) (T := TX10) (N := 11) (ref := "NightValley") hR.root rfl 2 (by decide) rfl in_X10 gw_1_234 (fun _ z => z) dX10_village_36 ?_
          refine J_new X (C := RX7) (T := TX7) (N := 5) (ci := 8) (fs := [.int 0, .int 0, .int 0, .int 0, .int 0]) rfl in_X7 tyX7 tyX7_ok gw_3_18 gw_3_19 gw_1_22 (by
                intro j hj
                match j with
                | 0 => rfl
                | 1 => rfl
                | 2 => rfl
                | 3 => rfl
                | 4 => rfl
                | k + 5 => exact absurd hj (by omega)) rfl dX10_village_39 (fun a ha => ?_)
          refine J_dup X dX10_village_42 rfl ?_
          refine J_iload_1 X dX10_village_43 ?_
          refine J_iload_2 X dX10_village_44 ?_
          refine J_callI X (c_newVillage (fU_same _ _ _)) (And.intro gw_3_20 cw_X7_init) rfl rfl (Nat.le_of_ble_eq_true rfl) dX10_village_45 rfl (J.pvmX (fun h2 e2 => ?_)) JE.no
          rw [e2, fU_fU]
          refine J_callV X (c_addX hR hI hcap (q := 2) (by omega) ha rfl (cst_in (i := 24) rfl)) (And.intro gw_1_145 cw_Jx4a65c_add_9ea2d) (add_list hR (q := 2) (by omega) ha) rfl rfl rfl (Nat.le_of_ble_eq_true rfl) dX10_village_48 rfl (fun v h3 qq => ?_) JE.no
          obtain ⟨e4, hA⟩ := qq
          subst e4
          show J K h3 [some (.ref (ρ 0 0)), some (.int p1), some (.int p2)] [.int 1] 51 5 123
          refine J_pop X dX10_village_51 rfl ?_
          obtain ⟨ρ2, μ2, cap2, hR2, hr2, hc2⟩ := RX.addVil hR hI hcap ha hA
          refine J_aload_0 X dX10_village_52 ?_
          refine J_get X (C := RX10) (T := TX10) (N := 11) (ref := "NightValley") (RX.rootAt hR2 hr2) rfl 2 (by decide) rfl in_X10 gw_1_234 (fun _ z => z) dX10_village_53 ?_
          refine J_callV X (c_Xsize hR2 (k := 2) (by omega)) (And.intro gw_2_34 cw_Jx4a65c_size_8abf5) (hR2.list (k := 2) (by omega)) rfl rfl rfl (Nat.le_of_ble_eq_true rfl) dX10_village_56 rfl (J.pi ?_) JE.no
          refine J_iconst (v := 1) X dX10_village_59 rfl ?_
          refine J_isub X dX10_village_60 ?_
          exact J_iret X rfl rfl ⟨by rw [q_v]; exact congrArg (fun x => some (Value.int x)) (valVil hI), by rw [q_c], by rw [q_s]; exact ⟨ρ2, μ2, cap2, hR2, hr2, hc2⟩⟩ dX10_village_61
        · skip
          obtain ⟨e1, e2, c32⟩ := e
          subst e1
          rw [e2]
          clear e2
          rw [if_pos c32] at q_v
          rw [if_pos c32] at q_s
          rw [if_pos c32] at q_c
          exact JE_out X rfl rfl ⟨by rw [q_c]; rfl, by rw [q_c]; decide, by rw [q_s]; exact ⟨_, _, _, hR, rfl, hcap⟩⟩
      have j24_0 : X_village_j24 σ p1 p2 = (if (5 : Int32) ≤ (nI (xL σ 2)) then (0 : Int32) else (1 : Int32)) := rfl
      refine J_icmp_ge (tgt := 31) X dX10_village_24 (by decide) (fun c24 => ?_) (fun c24 => ?_)
      · skip
        rw [if_pos c24] at j24_0
        refine J_iconst (v := 0) X dX10_village_31 rfl ?_
        exact K24_32 _ j24_0.symm
      · skip
        rw [if_neg c24] at j24_0
        refine J_iconst (v := 1) X dX10_village_27 rfl ?_
        refine J_goto (tgt := 32) X dX10_village_28 (by decide) ?_
        exact K24_32 _ j24_0.symm
    · skip
      obtain ⟨e1, e2, c13⟩ := e
      subst e1
      rw [e2]
      clear e2
      rw [if_pos c13] at q_v
      rw [if_pos c13] at q_s
      rw [if_pos c13] at q_c
      exact JE_out X rfl rfl ⟨by rw [q_c]; rfl, by rw [q_c]; decide, by rw [q_s]; exact ⟨_, _, _, hR, rfl, hcap⟩⟩
  · skip
    obtain ⟨e1, e2, c5⟩ := e
    subst e1
    rw [e2]
    clear e2
    rw [if_pos c5] at q_v
    rw [if_pos c5] at q_s
    rw [if_pos c5] at q_c
    exact JE_out X rfl rfl ⟨by rw [q_c]; rfl, by rw [q_c]; decide, by rw [q_s]; exact ⟨_, _, _, hR, rfl, hcap⟩⟩
end
