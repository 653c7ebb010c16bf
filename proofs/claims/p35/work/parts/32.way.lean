noncomputable section
theorem offer_cnt {σ μ : St} {a b : Int32} (h : vp_in (μ 2 0) 11) : vp_in (X_offer_s σ μ a b 2 0) 11 := by
  unfold X_offer_s X_offer_j4_s
  by_cases c : μ 2 0 < 0
  · rw [if_pos c]; exact h
  · rw [if_neg c]
    by_cases c2 : (10 : Int32) ≤ μ 2 0
    · rw [if_pos c2]; exact h
    · rw [if_neg c2]
      show vp_in (μ 2 0 + 1) 11
      obtain ⟨e, hle⟩ := cnt (N := 10) h (by decide)
      have h1 : ¬ ix (μ 2 0) = 10 := fun z => c2 (by rw [e, z]; decide)
      rw [e, nI_1]
      exact vp_in_nI (by omega) (by decide)
def X_way_j61_s (σ : St) (μ : St) (p1 : Int32) (p2 : Int32) (p3 : Int32) (k29 : Nat) (s29 : St) : St := (if (X_isBurning σ (ix (nI k29))) = (0 : Int32) then s29 else (X_shine_s σ s29 (X_light σ (ix (nI k29))) (ix (σ 15 (ix (nI k29))))))
def X_way_L29 (σ : St) (μ : St) (p1 : Int32) (p2 : Int32) (p3 : Int32) (K29 : St → Int32) : Nat → Nat → St → Int32
  | 0, _, s29 => K29 s29
  | n29 + 1, k29, s29 => (X_way_L29 σ μ p1 p2 p3 K29 n29 (k29 + 1) (X_way_j61_s σ μ p1 p2 p3 k29 s29))
def X_way_L29_s (σ : St) (μ : St) (p1 : Int32) (p2 : Int32) (p3 : Int32) (K29s : St → St) : Nat → Nat → St → St
  | 0, _, s29 => K29s s29
  | n29 + 1, k29, s29 => (X_way_L29_s σ μ p1 p2 p3 K29s n29 (k29 + 1) (X_way_j61_s σ μ p1 p2 p3 k29 s29))
def X_way_L29_c (σ : St) (μ : St) (p1 : Int32) (p2 : Int32) (p3 : Int32) (K29c : St → Int32) : Nat → Nat → St → Int32
  | 0, _, s29 => K29c s29
  | n29 + 1, k29, s29 => (X_way_L29_c σ μ p1 p2 p3 K29c n29 (k29 + 1) (X_way_j61_s σ μ p1 p2 p3 k29 s29))
def X_way (σ : St) (μ : St) (p1 : Int32) (p2 : Int32) (p3 : Int32) : Int32 := (@ite _ (vp_in p1 64) (Classical.propDecidable _) (@ite _ (vp_in p2 64) (Classical.propDecidable _) (if M_isIn p3 (0 : Int32) (100000 : Int32) = 0 then (0 : Int32) else (X_way_L29 σ μ p1 p2 p3 (fun s29 => (X_leastSteps σ s29 p1 p2 p3)) (xL σ 3) 0 (X_darken_s σ μ ))) (0 : Int32)) (0 : Int32))
def X_way_s (σ : St) (μ : St) (p1 : Int32) (p2 : Int32) (p3 : Int32) : St := (@ite _ (vp_in p1 64) (Classical.propDecidable _) (@ite _ (vp_in p2 64) (Classical.propDecidable _) (if M_isIn p3 (0 : Int32) (100000 : Int32) = 0 then μ else (X_way_L29_s σ μ p1 p2 p3 (fun s29 => (X_leastSteps_s σ s29 p1 p2 p3)) (xL σ 3) 0 (X_darken_s σ μ ))) μ) μ)
def X_way_c (σ : St) (μ : St) (p1 : Int32) (p2 : Int32) (p3 : Int32) : Int32 := (@ite _ (vp_in p1 64) (Classical.propDecidable _) (@ite _ (vp_in p2 64) (Classical.propDecidable _) (if M_isIn p3 (0 : Int32) (100000 : Int32) = 0 then (2 : Int32) else (X_way_L29_c σ μ p1 p2 p3 (fun s29 => (0 : Int32)) (xL σ 3) 0 (X_darken_s σ μ ))) (1 : Int32)) (1 : Int32))
theorem cw_X10_way : Cond.instanceMethod yX10_way ∈ GW ∧ Cond.selects RX10 yX10_way yX10_way ∈ GW ∧ Cond.initialized RX10 ∈ GW ∧ Cond.code yX10_way cX10_way 6 (some .int) ∈ GW ∧ yX10_way.cls = RX10 ∧ (yX10_way.cls ≠ "java/lang/invoke/MethodHandle" ∧ yX10_way.cls ≠ "java/lang/invoke/VarHandle") ∧ (parseMethodDescriptor yX10_way.desc).map (fun d => d.parameters.length) = some 3 := ⟨gw_4_11, gw_4_12, gw_1_1, gw_4_13, rfl, ⟨by decide, by decide⟩, by decide +kernel⟩
set_option maxRecDepth 100000 in
set_option maxHeartbeats 4000000 in
theorem c_X_way {l : Launch} {D : va_G} {ca : Nat → Nat} {h : fH} {ρ : Nat → Nat → Nat} {μ : St} {cap : Nat → Nat} {σ : St} (hR : RX ca h ρ μ cap σ) (hI : InvX σ) (p1 : Int32) (p2 : Int32) (p3 : Int32) : FM l D ca yX10_way (.code yX10_way cX10_way 6 (some .int)) { frames := 7, cells := 3, slots := 18, locals := 126 } [.ref (ρ 0 0), .int p1, .int p2, .int p3] h (pPub (some (.int (X_way σ μ p1 p2 p3))) (X_way_c σ μ p1 p2 p3) (fun h2 => RX ca h2 ρ (X_way_s σ μ p1 p2 p3) cap σ)) (pxX (X_way_c σ μ p1 p2 p3) (fun h2 => RX ca h2 ρ (X_way_s σ μ p1 p2 p3) cap σ)) := by
  refine FM.of [some (.ref (ρ 0 0)), some (.int p1), some (.int p2), some (.int p3), none, none] (by decide) (Nat.le_of_ble_eq_true rfl) rfl ?_
  rintro K X rfl rfl rfl
  have q_v : (X_way σ μ p1 p2 p3) = (@ite _ (vp_in p1 64) (Classical.propDecidable _) (@ite _ (vp_in p2 64) (Classical.propDecidable _) (if M_isIn p3 (0 : Int32) (100000 : Int32) = 0 then (0 : Int32) else (X_way_L29 σ μ p1 p2 p3 (fun s29 => (X_leastSteps σ s29 p1 p2 p3)) (xL σ 3) 0 (X_darken_s σ μ ))) (0 : Int32)) (0 : Int32)) := rfl
  have q_s : (X_way_s σ μ p1 p2 p3) = (@ite _ (vp_in p1 64) (Classical.propDecidable _) (@ite _ (vp_in p2 64) (Classical.propDecidable _) (if M_isIn p3 (0 : Int32) (100000 : Int32) = 0 then μ else (X_way_L29_s σ μ p1 p2 p3 (fun s29 => (X_leastSteps_s σ s29 p1 p2 p3)) (xL σ 3) 0 (X_darken_s σ μ ))) μ) μ) := rfl
  have q_c : (X_way_c σ μ p1 p2 p3) = (@ite _ (vp_in p1 64) (Classical.propDecidable _) (@ite _ (vp_in p2 64) (Classical.propDecidable _) (if M_isIn p3 (0 : Int32) (100000 : Int32) = 0 then (2 : Int32) else (X_way_L29_c σ μ p1 p2 p3 (fun s29 => (0 : Int32)) (xL σ 3) 0 (X_darken_s σ μ ))) (1 : Int32)) (1 : Int32)) := rfl
  refine J_iload_1 X dX10_way_0 ?_
  refine J_bipush (v := (64 : Int32)) X dX10_way_1 (by decide) ?_
  refine J_callS X (c_needNumber p1 (64 : Int32)) (And.intro gw_2_38 cw_X10_needNumber) rfl rfl (Nat.le_of_ble_eq_true rfl) dX10_way_3 rfl (fun v h2 e => ?_) (fun E h2 e => ?_)
  · skip
    obtain ⟨e1, e2, c3⟩ := e
    subst e1
    rw [e2]
    clear e2
    have c3 := (vp_iff_c (N := 64) (by decide)).mp c3
    rw [if_pos c3] at q_v
    rw [if_pos c3] at q_s
    rw [if_pos c3] at q_c
    show J K h [some (.ref (ρ 0 0)), some (.int p1), some (.int p2), some (.int p3), none, none] [] 6 1 6
    refine J_iload_2 X dX10_way_6 ?_
    refine J_bipush (v := (64 : Int32)) X dX10_way_7 (by decide) ?_
    refine J_callS X (c_needNumber p2 (64 : Int32)) (And.intro gw_2_38 cw_X10_needNumber) rfl rfl (Nat.le_of_ble_eq_true rfl) dX10_way_9 rfl (fun v h2 e => ?_) (fun E h2 e => ?_)
    · skip
      obtain ⟨e1, e2, c9⟩ := e
      subst e1
      rw [e2]
      clear e2
      have c9 := (vp_iff_c (N := 64) (by decide)).mp c9
      rw [if_pos c9] at q_v
      rw [if_pos c9] at q_s
      rw [if_pos c9] at q_c
      show J K h [some (.ref (ρ 0 0)), some (.int p1), some (.int p2), some (.int p3), none, none] [] 12 2 12
      refine J_iload_3 X dX10_way_12 ?_
      refine J_iconst (v := 0) X dX10_way_13 rfl ?_
      refine J_ldc (v := (100000 : Int32)) X dX10_way_14 gw_4_14 ?_
      refine J_callS X (c_needRange p3 (0 : Int32) (100000 : Int32)) (And.intro gw_2_198 cw_X10_needRange) rfl rfl (Nat.le_of_ble_eq_true rfl) dX10_way_16 rfl (fun v h2 e => ?_) (fun E h2 e => ?_)
      · skip
        obtain ⟨e1, e2, c16⟩ := e
        subst e1
        rw [e2]
        clear e2
        rw [if_neg c16] at q_v
        rw [if_neg c16] at q_s
        rw [if_neg c16] at q_c
        show J K h [some (.ref (ρ 0 0)), some (.int p1), some (.int p2), some (.int p3), none, none] [] 19 3 18
        refine J_aload_0 X dX10_way_19 ?_
        refine J_get X (C := RX10) (T := TX10) (N := 11) (ref := "NightValley") hR.root rfl 7 (by decide) rfl in_X10 gw_1_239 (fun _ z => z) dX10_way_20 ?_
        refine J_callV X (c_X_darken hR ) (And.intro gw_4_15 cw_X8_darken) hR.walk rfl rfl rfl (Nat.le_of_ble_eq_true rfl) dX10_way_23 rfl (J.pvm (fun h1 hR1 => ?_)) JE.no
        refine J_iconst (v := 0) X dX10_way_26 rfl ?_
        refine J_istore_4 X dX10_way_27 rfl (by decide) ?_
        have hle := IX_L hI 3
        obtain ⟨K29, hK29⟩ : ∃ f : St → Int32, f = (fun s29 => (X_leastSteps σ s29 p1 p2 p3)) := ⟨_, rfl⟩
        obtain ⟨K29s, hK29s⟩ : ∃ f : St → St, f = (fun s29 => (X_leastSteps_s σ s29 p1 p2 p3)) := ⟨_, rfl⟩
        obtain ⟨K29c, hK29c⟩ : ∃ f : St → Int32, f = (fun s29 => (0 : Int32)) := ⟨_, rfl⟩
        have X29 : ∀ (s29 : St) (h29_ : fH) (_ : True), RX (kca K) h29_ ρ s29 cap σ → (X_way σ μ p1 p2 p3) = (X_leastSteps σ s29 p1 p2 p3) → (X_way_s σ μ p1 p2 p3) = (X_leastSteps_s σ s29 p1 p2 p3) → (X_way_c σ μ p1 p2 p3) = (0 : Int32) → J K h29_ [some (.ref (ρ 0 0)), some (.int p1), some (.int p2), some (.int p3), none, none] [] 87 3 18 := by
          intro s29 h29_ _ hR29_ q_v q_s q_c
          refine J_aload_0 X dX10_way_87 ?_
          refine J_get X (C := RX10) (T := TX10) (N := 11) (ref := "NightValley") hR29_.root rfl 7 (by decide) rfl in_X10 gw_1_239 (fun _ z => z) dX10_way_88 ?_
          refine J_iload_1 X dX10_way_91 ?_
          refine J_iload_2 X dX10_way_92 ?_
          refine J_iload_3 X dX10_way_93 ?_
          refine J_callV X (c_X_leastSteps hR29_ p1 p2 p3) (And.intro gw_4_27 cw_X8_leastSteps) hR29_.walk rfl rfl rfl (Nat.le_of_ble_eq_true rfl) dX10_way_94 rfl (J.pim (fun h2 hR2 => ?_)) JE.no
          exact J_iret X rfl rfl ⟨by rw [q_v], by rw [q_c], by rw [q_s]; exact hR2⟩ dX10_way_97
        have L29 : ∀ (n29 k29 : Nat) (s29 : St) (h29_ : fH), k29 + n29 = (xL σ 3) → RX (kca K) h29_ ρ s29 cap σ → (X_way σ μ p1 p2 p3) = (X_way_L29 σ μ p1 p2 p3 K29 n29 k29 s29) → (X_way_s σ μ p1 p2 p3) = (X_way_L29_s σ μ p1 p2 p3 K29s n29 k29 s29) → (X_way_c σ μ p1 p2 p3) = (X_way_L29_c σ μ p1 p2 p3 K29c n29 k29 s29) → J K h29_ [some (.ref (ρ 0 0)), some (.int p1), some (.int p2), some (.int p3), some (.int (nI k29)), none] [] 29 3 18 := by
          intro n29
          induction n29 with
          | zero =>
            intro k29 s29 h29_ hk29 hR29_ q_v q_s q_c
            rw [X_way_L29] at q_v
            rw [X_way_L29_s] at q_s
            rw [X_way_L29_c] at q_c
            refine J_iload_4 X dX10_way_29 ?_
            refine J_aload_0 X dX10_way_31 ?_
            refine J_get X (C := RX10) (T := TX10) (N := 11) (ref := "NightValley") hR29_.root rfl 3 (by decide) rfl in_X10 gw_1_235 (fun _ z => z) dX10_way_32 ?_
            refine J_callV X (c_Xsize hR29_ (k := 3) (by omega)) (And.intro gw_2_34 cw_Jx4a65c_size_8abf5) (hR29_.list (by omega)) rfl rfl rfl (Nat.le_of_ble_eq_true rfl) dX10_way_35 rfl (J.pi ?_) JE.no
            refine J_icmp_ge (tgt := 87) X dX10_way_38 (by decide) (fun _ => ?_) (fun c => absurd (lp_exit rfl (by omega) hk29) c)
            rw [hK29] at q_v
            rw [hK29s] at q_s
            rw [hK29c] at q_c
            refine J.subL (lv' := [some (.ref (ρ 0 0)), some (.int p1), some (.int p2), some (.int p3), none, none]) (And.intro rfl (And.intro rfl (And.intro rfl (And.intro rfl trivial)))) ?_
            exact X29 s29 h29_ trivial hR29_ q_v q_s q_c
          | succ n29 ih29 =>
            intro k29 s29 h29_ hk29 hR29_ q_v q_s q_c
            rw [X_way_L29] at q_v
            rw [X_way_L29_s] at q_s
            rw [X_way_L29_c] at q_c
            have hlt29 : k29 < (xL σ 3) := by omega
            refine J_iload_4 X dX10_way_29 ?_
            refine J_aload_0 X dX10_way_31 ?_
            refine J_get X (C := RX10) (T := TX10) (N := 11) (ref := "NightValley") hR29_.root rfl 3 (by decide) rfl in_X10 gw_1_235 (fun _ z => z) dX10_way_32 ?_
            refine J_callV X (c_Xsize hR29_ (k := 3) (by omega)) (And.intro gw_2_34 cw_Jx4a65c_size_8abf5) (hR29_.list (by omega)) rfl rfl rfl (Nat.le_of_ble_eq_true rfl) dX10_way_35 rfl (J.pi ?_) JE.no
            refine J_icmp_ge (tgt := 87) X dX10_way_38 (by decide) (fun c => absurd c (lp_stay rfl (by omega) hk29)) (fun _ => ?_)
            refine J_aload_0 X dX10_way_41 ?_
            refine J_get X (C := RX10) (T := TX10) (N := 11) (ref := "NightValley") hR29_.root rfl 3 (by decide) rfl in_X10 gw_1_235 (fun _ z => z) dX10_way_42 ?_
            refine J_iload_4 X dX10_way_45 ?_
            refine J_callV X (c_Xget hR29_ (k := 3) (by omega) (vp_in_nI (N := (xL σ 3)) (by omega) (by omega))) (And.intro gw_2_104 cw_Jx4a65c_get_915e3) (hR29_.list (by omega)) rfl rfl rfl (Nat.le_of_ble_eq_true rfl) dX10_way_47 rfl (J.pa ?_) JE.no
            refine J_cast X (C := RX2) (T := TX2) (N := 12) (hR29_.lamp (vp_lt (vp_in_nI (N := (xL σ 3)) (by omega) (by omega)))) rfl gw_2_118 dX10_way_50 ?_
            refine J_astore_5 X dX10_way_53 rfl (by decide) ?_
            refine J_aload_0 X dX10_way_55 ?_
            refine J_aload_5 X dX10_way_56 ?_
            refine J_callV X (c_X_isBurning hR29_ hI (ix (nI k29)) (vp_lt (vp_in_nI (N := (xL σ 3)) (by omega) (by omega)))) (And.intro gw_2_123 cw_X10_isBurning) hR29_.root rfl rfl rfl (Nat.le_of_ble_eq_true rfl) dX10_way_58 rfl (J.pi ?_) JE.no
            have K61_81 : ∀ hj3 : fH, RX (kca K) hj3 ρ (X_way_j61_s σ μ p1 p2 p3 k29 s29) cap σ → J K hj3 [some (.ref (ρ 0 0)), some (.int p1), some (.int p2), some (.int p3), some (.int (nI k29)), some (.ref (ρ 10 (ix (nI k29))))] [] 81 3 18 := by
              intro hj3 hRj3
              refine J_iinc_4 (v := (nI (k29 + 1))) X dX10_way_81 (nI_1 _) rfl (by decide) ?_
              refine J_goto (tgt := 29) X dX10_way_84 (by decide) ?_
              refine J.subL (lv' := [some (.ref (ρ 0 0)), some (.int p1), some (.int p2), some (.int p3), some (.int (nI (k29 + 1))), none]) (And.intro rfl (And.intro rfl (And.intro rfl (And.intro rfl (And.intro rfl trivial))))) ?_
              exact ih29 (k29 + 1) (X_way_j61_s σ μ p1 p2 p3 k29 s29) hj3 (by omega) hRj3 q_v q_s q_c
            have j61_0 : X_way_j61_s σ μ p1 p2 p3 k29 s29 = (if (X_isBurning σ (ix (nI k29))) = (0 : Int32) then s29 else (X_shine_s σ s29 (X_light σ (ix (nI k29))) (ix (σ 15 (ix (nI k29)))))) := rfl
            refine J_if_eq (tgt := 81) X dX10_way_61 (by decide) (fun c61 => ?_) (fun c61 => ?_)
            · skip
              rw [if_pos c61] at j61_0
              exact K61_81 _ (by rw [j61_0]; exact hR29_)
            · skip
              rw [if_neg c61] at j61_0
              refine J_aload_0 X dX10_way_64 ?_
              refine J_get X (C := RX10) (T := TX10) (N := 11) (ref := "NightValley") hR29_.root rfl 7 (by decide) rfl in_X10 gw_1_239 (fun _ z => z) dX10_way_65 ?_
              refine J_aload_5 X dX10_way_68 ?_
              refine J_callV X (c_X_light hR29_ (ix (nI k29)) (vp_lt (vp_in_nI (N := (xL σ 3)) (by omega) (by omega)))) (And.intro gw_4_1 cw_X2_light) (hR29_.lamp (vp_lt (vp_in_nI (N := (xL σ 3)) (by omega) (by omega)))) rfl rfl rfl (Nat.le_of_ble_eq_true rfl) dX10_way_70 rfl (J.pi ?_) JE.no
              refine J_aload_5 X dX10_way_73 ?_
              refine J_get X (C := RX2) (T := TX2) (N := 12) (ref := "NightValley$Lamp") (hR29_.lamp (vp_lt (vp_in_nI (N := (xL σ 3)) (by omega) (by omega)))) rfl 1 (by decide) rfl in_X2 gw_3_59 (fun _ z => z) dX10_way_75 ?_
              refine J_callV X (c_X_shine hR29_ (X_light σ (ix (nI k29))) (ix (σ 15 (ix (nI k29)))) (IX_place hI _)) (And.intro gw_4_22 cw_X8_shine) hR29_.walk rfl rfl rfl (Nat.le_of_ble_eq_true rfl) dX10_way_78 rfl (J.pvm (fun h4 hR4 => ?_)) JE.no
              exact K61_81 _ (by rw [j61_0]; exact hR4)
        have q_v : (X_way σ μ p1 p2 p3) = (X_way_L29 σ μ p1 p2 p3 K29 (xL σ 3) 0 (X_darken_s σ μ )) := by rw [hK29]; exact q_v
        have q_s : (X_way_s σ μ p1 p2 p3) = (X_way_L29_s σ μ p1 p2 p3 K29s (xL σ 3) 0 (X_darken_s σ μ )) := by rw [hK29s]; exact q_s
        have q_c : (X_way_c σ μ p1 p2 p3) = (X_way_L29_c σ μ p1 p2 p3 K29c (xL σ 3) 0 (X_darken_s σ μ )) := by rw [hK29c]; exact q_c
        exact L29 (xL σ 3) 0 (X_darken_s σ μ ) h1 (Nat.zero_add _) hR1 q_v q_s q_c
      · skip
        obtain ⟨e1, e2, c16⟩ := e
        subst e1
        rw [e2]
        clear e2
        rw [if_pos c16] at q_v
        rw [if_pos c16] at q_s
        rw [if_pos c16] at q_c
        exact JE_out X rfl rfl ⟨by rw [q_c]; rfl, by rw [q_c]; decide, by rw [q_s]; exact hR⟩
    · skip
      obtain ⟨e1, e2, c9⟩ := e
      subst e1
      rw [e2]
      clear e2
      have c9 := fun z => c9 ((vp_iff_c (N := 64) (by decide)).mpr z)
      rw [if_neg c9] at q_v
      rw [if_neg c9] at q_s
      rw [if_neg c9] at q_c
      exact JE_out X rfl rfl ⟨by rw [q_c]; rfl, by rw [q_c]; decide, by rw [q_s]; exact hR⟩
  · skip
    obtain ⟨e1, e2, c3⟩ := e
    subst e1
    rw [e2]
    clear e2
    have c3 := fun z => c3 ((vp_iff_c (N := 64) (by decide)).mpr z)
    rw [if_neg c3] at q_v
    rw [if_neg c3] at q_s
    rw [if_neg c3] at q_c
    exact JE_out X rfl rfl ⟨by rw [q_c]; rfl, by rw [q_c]; decide, by rw [q_s]; exact hR⟩
def X_plan_j65_s (σ : St) (μ : St) (p1 : Int32) (p2 : Int32) (p3 : Int32) (k32 : Nat) (s32 : St) : St := (if (ix (σ 14 (ix (nI k32)))) = (ix p1) then (X_offer_s σ s32 (X_planCost σ (ix (nI k32))) (X_givenBy σ (ix (nI k32)) (ix p2))) else s32)
def X_plan_L32 (σ : St) (μ : St) (p1 : Int32) (p2 : Int32) (p3 : Int32) (K32 : St → Int32) : Nat → Nat → St → Int32
  | 0, _, s32 => K32 s32
  | n32 + 1, k32, s32 => (X_plan_L32 σ μ p1 p2 p3 K32 n32 (k32 + 1) (X_plan_j65_s σ μ p1 p2 p3 k32 s32))
def X_plan_L32_s (σ : St) (μ : St) (p1 : Int32) (p2 : Int32) (p3 : Int32) (K32s : St → St) : Nat → Nat → St → St
  | 0, _, s32 => K32s s32
  | n32 + 1, k32, s32 => (X_plan_L32_s σ μ p1 p2 p3 K32s n32 (k32 + 1) (X_plan_j65_s σ μ p1 p2 p3 k32 s32))
def X_plan_L32_c (σ : St) (μ : St) (p1 : Int32) (p2 : Int32) (p3 : Int32) (K32c : St → Int32) : Nat → Nat → St → Int32
  | 0, _, s32 => K32c s32
  | n32 + 1, k32, s32 => (X_plan_L32_c σ μ p1 p2 p3 K32c n32 (k32 + 1) (X_plan_j65_s σ μ p1 p2 p3 k32 s32))
def X_plan (σ : St) (μ : St) (p1 : Int32) (p2 : Int32) (p3 : Int32) : Int32 := (@ite _ (vp_in p1 (ix (σ 8 0))) (Classical.propDecidable _) (@ite _ (vp_in p2 64) (Classical.propDecidable _) (if M_isIn p3 (0 : Int32) (10000 : Int32) = 0 then (0 : Int32) else (X_plan_L32 σ μ p1 p2 p3 (fun s32 => (X_best σ s32 p3)) (xL σ 3) 0 (X_clear_s σ μ ))) (0 : Int32)) (0 : Int32))
def X_plan_s (σ : St) (μ : St) (p1 : Int32) (p2 : Int32) (p3 : Int32) : St := (@ite _ (vp_in p1 (ix (σ 8 0))) (Classical.propDecidable _) (@ite _ (vp_in p2 64) (Classical.propDecidable _) (if M_isIn p3 (0 : Int32) (10000 : Int32) = 0 then μ else (X_plan_L32_s σ μ p1 p2 p3 (fun s32 => s32) (xL σ 3) 0 (X_clear_s σ μ ))) μ) μ)
def X_plan_c (σ : St) (μ : St) (p1 : Int32) (p2 : Int32) (p3 : Int32) : Int32 := (@ite _ (vp_in p1 (ix (σ 8 0))) (Classical.propDecidable _) (@ite _ (vp_in p2 64) (Classical.propDecidable _) (if M_isIn p3 (0 : Int32) (10000 : Int32) = 0 then (2 : Int32) else (X_plan_L32_c σ μ p1 p2 p3 (fun s32 => (0 : Int32)) (xL σ 3) 0 (X_clear_s σ μ ))) (1 : Int32)) (1 : Int32))
theorem cw_X10_plan : Cond.instanceMethod yX10_plan ∈ GW ∧ Cond.selects RX10 yX10_plan yX10_plan ∈ GW ∧ Cond.initialized RX10 ∈ GW ∧ Cond.code yX10_plan cX10_plan 8 (some .int) ∈ GW ∧ yX10_plan.cls = RX10 ∧ (yX10_plan.cls ≠ "java/lang/invoke/MethodHandle" ∧ yX10_plan.cls ≠ "java/lang/invoke/VarHandle") ∧ (parseMethodDescriptor yX10_plan.desc).map (fun d => d.parameters.length) = some 3 := ⟨gw_4_49, gw_4_50, gw_1_1, gw_4_51, rfl, ⟨by decide, by decide⟩, by decide +kernel⟩
set_option maxRecDepth 100000 in
set_option maxHeartbeats 4000000 in
theorem c_X_plan {l : Launch} {D : va_G} {ca : Nat → Nat} {h : fH} {ρ : Nat → Nat → Nat} {μ : St} {cap : Nat → Nat} {σ : St} (hR : RX ca h ρ μ cap σ) (hI : InvX σ) (p1 : Int32) (p2 : Int32) (p3 : Int32) : FM l D ca yX10_plan (.code yX10_plan cX10_plan 8 (some .int)) { frames := 8, cells := 3, slots := 18, locals := 149 } [.ref (ρ 0 0), .int p1, .int p2, .int p3] h (pPub (some (.int (X_plan σ μ p1 p2 p3))) (X_plan_c σ μ p1 p2 p3) (fun h2 => RX ca h2 ρ (X_plan_s σ μ p1 p2 p3) cap σ)) (pxX (X_plan_c σ μ p1 p2 p3) (fun h2 => RX ca h2 ρ (X_plan_s σ μ p1 p2 p3) cap σ)) := by
  refine FM.of [some (.ref (ρ 0 0)), some (.int p1), some (.int p2), some (.int p3), none, none, none, none] (by decide) (Nat.le_of_ble_eq_true rfl) rfl ?_
  rintro K X rfl rfl rfl
  have q_v : (X_plan σ μ p1 p2 p3) = (@ite _ (vp_in p1 (ix (σ 8 0))) (Classical.propDecidable _) (@ite _ (vp_in p2 64) (Classical.propDecidable _) (if M_isIn p3 (0 : Int32) (10000 : Int32) = 0 then (0 : Int32) else (X_plan_L32 σ μ p1 p2 p3 (fun s32 => (X_best σ s32 p3)) (xL σ 3) 0 (X_clear_s σ μ ))) (0 : Int32)) (0 : Int32)) := rfl
  have q_s : (X_plan_s σ μ p1 p2 p3) = (@ite _ (vp_in p1 (ix (σ 8 0))) (Classical.propDecidable _) (@ite _ (vp_in p2 64) (Classical.propDecidable _) (if M_isIn p3 (0 : Int32) (10000 : Int32) = 0 then μ else (X_plan_L32_s σ μ p1 p2 p3 (fun s32 => s32) (xL σ 3) 0 (X_clear_s σ μ ))) μ) μ) := rfl
  have q_c : (X_plan_c σ μ p1 p2 p3) = (@ite _ (vp_in p1 (ix (σ 8 0))) (Classical.propDecidable _) (@ite _ (vp_in p2 64) (Classical.propDecidable _) (if M_isIn p3 (0 : Int32) (10000 : Int32) = 0 then (2 : Int32) else (X_plan_L32_c σ μ p1 p2 p3 (fun s32 => (0 : Int32)) (xL σ 3) 0 (X_clear_s σ μ ))) (1 : Int32)) (1 : Int32)) := rfl
  refine J_aload_0 X dX10_plan_0 ?_
  refine J_iload_1 X dX10_plan_1 ?_
  refine J_callV X (c_villageOf hR hI p1) (And.intro gw_3_47 cw_X10_villageOf) hR.root rfl rfl rfl (Nat.le_of_ble_eq_true rfl) dX10_plan_2 rfl (fun v h2 e => ?_) (fun E h2 e => ?_)
  · skip
    obtain ⟨e1, e2, c2⟩ := e
    subst e1
    rw [e2]
    clear e2
    rw [if_pos c2] at q_v
    rw [if_pos c2] at q_s
    rw [if_pos c2] at q_c
    show J K h [some (.ref (ρ 0 0)), some (.int p1), some (.int p2), some (.int p3), none, none, none, none] [.ref (ρ 9 (ix p1))] 5 1 6
    refine J_astore_4 X dX10_plan_5 rfl (by decide) ?_
    refine J_aload_0 X dX10_plan_7 ?_
    refine J_iload_2 X dX10_plan_8 ?_
    refine J_callV X (c_placeOf hR hI p2) (And.intro gw_2_30 cw_X10_placeOf) hR.root rfl rfl rfl (Nat.le_of_ble_eq_true rfl) dX10_plan_9 rfl (fun v h2 e => ?_) (fun E h2 e => ?_)
    · skip
      obtain ⟨e1, e2, c9⟩ := e
      subst e1
      rw [e2]
      clear e2
      rw [if_pos c9] at q_v
      rw [if_pos c9] at q_s
      rw [if_pos c9] at q_c
      show J K h [some (.ref (ρ 0 0)), some (.int p1), some (.int p2), some (.int p3), some (.ref (ρ 9 (ix p1))), none, none, none] [.ref (ρ 8 (ix p2))] 12 2 12
      refine J_astore_5 X dX10_plan_12 rfl (by decide) ?_
      refine J_iload_3 X dX10_plan_14 ?_
      refine J_iconst (v := 0) X dX10_plan_15 rfl ?_
      refine J_sipush (v := (10000 : Int32)) X dX10_plan_16 (by decide) ?_
      refine J_callS X (c_needRange p3 (0 : Int32) (10000 : Int32)) (And.intro gw_2_198 cw_X10_needRange) rfl rfl (Nat.le_of_ble_eq_true rfl) dX10_plan_19 rfl (fun v h2 e => ?_) (fun E h2 e => ?_)
      · skip
        obtain ⟨e1, e2, c19⟩ := e
        subst e1
        rw [e2]
        clear e2
        rw [if_neg c19] at q_v
        rw [if_neg c19] at q_s
        rw [if_neg c19] at q_c
        show J K h [some (.ref (ρ 0 0)), some (.int p1), some (.int p2), some (.int p3), some (.ref (ρ 9 (ix p1))), some (.ref (ρ 8 (ix p2))), none, none] [] 22 3 18
        refine J_aload_0 X dX10_plan_22 ?_
        refine J_get X (C := RX10) (T := TX10) (N := 11) (ref := "NightValley") hR.root rfl 8 (by decide) rfl in_X10 gw_2_0 (fun _ z => z) dX10_plan_23 ?_
        refine J_callV X (c_X_clear hR ) (And.intro gw_4_52 cw_X0_clear) hR.choice rfl rfl rfl (Nat.le_of_ble_eq_true rfl) dX10_plan_26 rfl (J.pvm (fun h1 hR1 => ?_)) JE.no
        refine J_iconst (v := 0) X dX10_plan_29 rfl ?_
        refine J_istore_6 X dX10_plan_30 rfl (by decide) ?_
        have hle := IX_L hI 3
        obtain ⟨K32, hK32⟩ : ∃ f : St → Int32, f = (fun s32 => (X_best σ s32 p3)) := ⟨_, rfl⟩
        obtain ⟨K32s, hK32s⟩ : ∃ f : St → St, f = (fun s32 => s32) := ⟨_, rfl⟩
        obtain ⟨K32c, hK32c⟩ : ∃ f : St → Int32, f = (fun s32 => (0 : Int32)) := ⟨_, rfl⟩
        have X32 : ∀ (s32 : St) (h32_ : fH) (_ : True), RX (kca K) h32_ ρ s32 cap σ → vp_in (s32 2 0) 11 → (X_plan σ μ p1 p2 p3) = (X_best σ s32 p3) → (X_plan_s σ μ p1 p2 p3) = s32 → (X_plan_c σ μ p1 p2 p3) = (0 : Int32) → J K h32_ [some (.ref (ρ 0 0)), some (.int p1), some (.int p2), some (.int p3), some (.ref (ρ 9 (ix p1))), some (.ref (ρ 8 (ix p2))), none, none] [] 95 3 18 := by
          intro s32 h32_ _ hR32_ hc32 q_v q_s q_c
          refine J_aload_0 X dX10_plan_95 ?_
          refine J_get X (C := RX10) (T := TX10) (N := 11) (ref := "NightValley") hR32_.root rfl 8 (by decide) rfl in_X10 gw_2_0 (fun _ z => z) dX10_plan_96 ?_
          refine J_iload_3 X dX10_plan_99 ?_
          refine J_callV X (c_X_best hR32_ p3 hc32) (And.intro gw_4_64 cw_X0_best) hR32_.choice rfl rfl rfl (Nat.le_of_ble_eq_true rfl) dX10_plan_100 rfl (J.pi ?_) JE.no
          exact J_iret X rfl rfl ⟨by rw [q_v], by rw [q_c], by rw [q_s]; exact hR32_⟩ dX10_plan_103
        have L32 : ∀ (n32 k32 : Nat) (s32 : St) (h32_ : fH), k32 + n32 = (xL σ 3) → RX (kca K) h32_ ρ s32 cap σ → vp_in (s32 2 0) 11 → (X_plan σ μ p1 p2 p3) = (X_plan_L32 σ μ p1 p2 p3 K32 n32 k32 s32) → (X_plan_s σ μ p1 p2 p3) = (X_plan_L32_s σ μ p1 p2 p3 K32s n32 k32 s32) → (X_plan_c σ μ p1 p2 p3) = (X_plan_L32_c σ μ p1 p2 p3 K32c n32 k32 s32) → J K h32_ [some (.ref (ρ 0 0)), some (.int p1), some (.int p2), some (.int p3), some (.ref (ρ 9 (ix p1))), some (.ref (ρ 8 (ix p2))), some (.int (nI k32)), none] [] 32 3 18 := by
          intro n32
          induction n32 with
          | zero =>
            intro k32 s32 h32_ hk32 hR32_ hc32 q_v q_s q_c
            rw [X_plan_L32] at q_v
            rw [X_plan_L32_s] at q_s
            rw [X_plan_L32_c] at q_c
            refine J_iload_6 X dX10_plan_32 ?_
            refine J_aload_0 X dX10_plan_34 ?_
            refine J_get X (C := RX10) (T := TX10) (N := 11) (ref := "NightValley") hR32_.root rfl 3 (by decide) rfl in_X10 gw_1_235 (fun _ z => z) dX10_plan_35 ?_
            refine J_callV X (c_Xsize hR32_ (k := 3) (by omega)) (And.intro gw_2_34 cw_Jx4a65c_size_8abf5) (hR32_.list (by omega)) rfl rfl rfl (Nat.le_of_ble_eq_true rfl) dX10_plan_38 rfl (J.pi ?_) JE.no
            refine J_icmp_ge (tgt := 95) X dX10_plan_41 (by decide) (fun _ => ?_) (fun c => absurd (lp_exit rfl (by omega) hk32) c)
            rw [hK32] at q_v
            rw [hK32s] at q_s
            rw [hK32c] at q_c
            refine J.subL (lv' := [some (.ref (ρ 0 0)), some (.int p1), some (.int p2), some (.int p3), some (.ref (ρ 9 (ix p1))), some (.ref (ρ 8 (ix p2))), none, none]) (And.intro rfl (And.intro rfl (And.intro rfl (And.intro rfl (And.intro rfl (And.intro rfl trivial)))))) ?_
            exact X32 s32 h32_ trivial hR32_ hc32 q_v q_s q_c
          | succ n32 ih32 =>
            intro k32 s32 h32_ hk32 hR32_ hc32 q_v q_s q_c
            rw [X_plan_L32] at q_v
            rw [X_plan_L32_s] at q_s
            rw [X_plan_L32_c] at q_c
            have hlt32 : k32 < (xL σ 3) := by omega
            refine J_iload_6 X dX10_plan_32 ?_
            refine J_aload_0 X dX10_plan_34 ?_
            refine J_get X (C := RX10) (T := TX10) (N := 11) (ref := "NightValley") hR32_.root rfl 3 (by decide) rfl in_X10 gw_1_235 (fun _ z => z) dX10_plan_35 ?_
            refine J_callV X (c_Xsize hR32_ (k := 3) (by omega)) (And.intro gw_2_34 cw_Jx4a65c_size_8abf5) (hR32_.list (by omega)) rfl rfl rfl (Nat.le_of_ble_eq_true rfl) dX10_plan_38 rfl (J.pi ?_) JE.no
            refine J_icmp_ge (tgt := 95) X dX10_plan_41 (by decide) (fun c => absurd c (lp_stay rfl (by omega) hk32)) (fun _ => ?_)
            refine J_aload_0 X dX10_plan_44 ?_
            refine J_get X (C := RX10) (T := TX10) (N := 11) (ref := "NightValley") hR32_.root rfl 3 (by decide) rfl in_X10 gw_1_235 (fun _ z => z) dX10_plan_45 ?_
            refine J_iload_6 X dX10_plan_48 ?_
            refine J_callV X (c_Xget hR32_ (k := 3) (by omega) (vp_in_nI (N := (xL σ 3)) (by omega) (by omega))) (And.intro gw_2_104 cw_Jx4a65c_get_915e3) (hR32_.list (by omega)) rfl rfl rfl (Nat.le_of_ble_eq_true rfl) dX10_plan_50 rfl (J.pa ?_) JE.no
            refine J_cast X (C := RX2) (T := TX2) (N := 12) (hR32_.lamp (vp_lt (vp_in_nI (N := (xL σ 3)) (by omega) (by omega)))) rfl gw_2_118 dX10_plan_53 ?_
            refine J_astore_7 X dX10_plan_56 rfl (by decide) ?_
            refine J_aload_7 X dX10_plan_58 ?_
            refine J_get X (C := RX2) (T := TX2) (N := 12) (ref := "NightValley$Lamp") (hR32_.lamp (vp_lt (vp_in_nI (N := (xL σ 3)) (by omega) (by omega)))) rfl 0 (by decide) rfl in_X2 gw_3_57 (fun _ z => z) dX10_plan_60 ?_
            refine J_aload_4 X dX10_plan_63 ?_
            have K65_89 : ∀ hj3 : fH, RX (kca K) hj3 ρ (X_plan_j65_s σ μ p1 p2 p3 k32 s32) cap σ → J K hj3 [some (.ref (ρ 0 0)), some (.int p1), some (.int p2), some (.int p3), some (.ref (ρ 9 (ix p1))), some (.ref (ρ 8 (ix p2))), some (.int (nI k32)), some (.ref (ρ 10 (ix (nI k32))))] [] 89 3 18 := by
              intro hj3 hRj3
              refine J_iinc_6 (v := (nI (k32 + 1))) X dX10_plan_89 (nI_1 _) rfl (by decide) ?_
              refine J_goto (tgt := 32) X dX10_plan_92 (by decide) ?_
              refine J.subL (lv' := [some (.ref (ρ 0 0)), some (.int p1), some (.int p2), some (.int p3), some (.ref (ρ 9 (ix p1))), some (.ref (ρ 8 (ix p2))), some (.int (nI (k32 + 1))), none]) (And.intro rfl (And.intro rfl (And.intro rfl (And.intro rfl (And.intro rfl (And.intro rfl (And.intro rfl trivial))))))) ?_
              exact ih32 (k32 + 1) (X_plan_j65_s σ μ p1 p2 p3 k32 s32) hj3 (by omega) hRj3 (by unfold X_plan_j65_s; (repeat' split) <;> first | exact hc32 | exact offer_cnt hc32) q_v q_s q_c
            have j65_0 : X_plan_j65_s σ μ p1 p2 p3 k32 s32 = (if (ix (σ 14 (ix (nI k32)))) = (ix p1) then (X_offer_s σ s32 (X_planCost σ (ix (nI k32))) (X_givenBy σ (ix (nI k32)) (ix p2))) else s32) := rfl
            refine J_acmp_ne (tgt := 89) X dX10_plan_65 (by decide) (fun c65 => ?_) (fun c65 => ?_)
            · skip
              have c65 : ¬ ((ix (σ 14 (ix (nI k32)))) = (ix p1)) := fun z => c65 ((hR32_.village_eq (IX_own hI (vp_lt (vp_in_nI (N := (xL σ 3)) (by omega) (by omega)))) (vp_lt c2)).mpr z)
              rw [if_neg c65] at j65_0
              exact K65_89 _ (by rw [j65_0]; exact hR32_)
            · skip
              have c65 := (hR32_.village_eq (IX_own hI (vp_lt (vp_in_nI (N := (xL σ 3)) (by omega) (by omega)))) (vp_lt c2)).mp c65
              rw [if_pos c65] at j65_0
              refine J_aload_0 X dX10_plan_68 ?_
              refine J_get X (C := RX10) (T := TX10) (N := 11) (ref := "NightValley") hR32_.root rfl 8 (by decide) rfl in_X10 gw_2_0 (fun _ z => z) dX10_plan_69 ?_
              refine J_aload_0 X dX10_plan_72 ?_
              refine J_aload_7 X dX10_plan_73 ?_
              refine J_callV X (c_X_planCost hR32_ hI (ix (nI k32)) (vp_lt (vp_in_nI (N := (xL σ 3)) (by omega) (by omega)))) (And.intro gw_4_56 cw_X10_planCost) hR32_.root rfl rfl rfl (Nat.le_of_ble_eq_true rfl) dX10_plan_75 rfl (J.pi ?_) JE.no
              refine J_aload_0 X dX10_plan_78 ?_
              refine J_aload_7 X dX10_plan_79 ?_
              refine J_aload_5 X dX10_plan_81 ?_
              refine J_callV X (c_X_givenBy hR32_ hI (ix (nI k32)) (ix p2) (vp_lt (vp_in_nI (N := (xL σ 3)) (by omega) (by omega))) (vp_lt c9)) (And.intro gw_2_119 cw_X10_givenBy) hR32_.root rfl rfl rfl (Nat.le_of_ble_eq_true rfl) dX10_plan_83 rfl (J.pi ?_) JE.no
              refine J_callV X (c_X_offer hR32_ (X_planCost σ (ix (nI k32))) (X_givenBy σ (ix (nI k32)) (ix p2))) (And.intro gw_4_60 cw_X0_offer) hR32_.choice rfl rfl rfl (Nat.le_of_ble_eq_true rfl) dX10_plan_86 rfl (J.pvm (fun h4 hR4 => ?_)) JE.no
              exact K65_89 _ (by rw [j65_0]; exact hR4)
        have q_v : (X_plan σ μ p1 p2 p3) = (X_plan_L32 σ μ p1 p2 p3 K32 (xL σ 3) 0 (X_clear_s σ μ )) := by rw [hK32]; exact q_v
        have q_s : (X_plan_s σ μ p1 p2 p3) = (X_plan_L32_s σ μ p1 p2 p3 K32s (xL σ 3) 0 (X_clear_s σ μ )) := by rw [hK32s]; exact q_s
        have q_c : (X_plan_c σ μ p1 p2 p3) = (X_plan_L32_c σ μ p1 p2 p3 K32c (xL σ 3) 0 (X_clear_s σ μ )) := by rw [hK32c]; exact q_c
        exact L32 (xL σ 3) 0 (X_clear_s σ μ ) h1 (Nat.zero_add _) hR1 (vp_in_nI (n := 0) (N := 11) (by decide) (by decide)) q_v q_s q_c
      · skip
        obtain ⟨e1, e2, c19⟩ := e
        subst e1
        rw [e2]
        clear e2
        rw [if_pos c19] at q_v
        rw [if_pos c19] at q_s
        rw [if_pos c19] at q_c
        exact JE_out X rfl rfl ⟨by rw [q_c]; rfl, by rw [q_c]; decide, by rw [q_s]; exact hR⟩
    · skip
      obtain ⟨e1, e2, c9⟩ := e
      subst e1
      rw [e2]
      clear e2
      rw [if_neg c9] at q_v
      rw [if_neg c9] at q_s
      rw [if_neg c9] at q_c
      exact JE_out X rfl rfl ⟨by rw [q_c]; rfl, by rw [q_c]; decide, by rw [q_s]; exact hR⟩
  · skip
    obtain ⟨e1, e2, c2⟩ := e
    subst e1
    rw [e2]
    clear e2
    rw [if_neg c2] at q_v
    rw [if_neg c2] at q_s
    rw [if_neg c2] at q_c
    exact JE_out X rfl rfl ⟨by rw [q_c]; rfl, by rw [q_c]; decide, by rw [q_s]; exact hR⟩
end
