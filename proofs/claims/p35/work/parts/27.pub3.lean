noncomputable section
def X_ageLamps_j30_s (σ : St) (k2 : Nat) (s2 : St) : St := (if (X_isBurning s2 (ix (nI k2))) = (0 : Int32) then s2 else (sS s2 23 (ix (nI k2)) ((s2 23 (ix (nI k2))) + (1 : Int32))))
def X_ageLamps_L2_s (σ : St) (K2s : St → St) : Nat → Nat → St → St
  | 0, _, s2 => K2s s2
  | n2 + 1, k2, s2 => (X_ageLamps_L2_s σ K2s n2 (k2 + 1) (X_ageLamps_j30_s σ k2 s2))
def X_ageLamps_s (σ : St) : St := (X_ageLamps_L2_s σ (fun s2 => s2) (xL σ 3) 0 σ)
theorem cw_X10_ageLamps : Cond.instanceMethod yX10_ageLamps ∈ GW ∧ Cond.selects RX10 yX10_ageLamps yX10_ageLamps ∈ GW ∧ Cond.initialized RX10 ∈ GW ∧ Cond.code yX10_ageLamps cX10_ageLamps 3 none ∈ GW ∧ yX10_ageLamps.cls = RX10 ∧ (yX10_ageLamps.cls ≠ "java/lang/invoke/MethodHandle" ∧ yX10_ageLamps.cls ≠ "java/lang/invoke/VarHandle") ∧ (parseMethodDescriptor yX10_ageLamps.desc).map (fun d => d.parameters.length) = some 0 := ⟨gw_3_12, gws_11, gw_1_1, gw_3_13, rfl, ⟨by decide, by decide⟩, by decide +kernel⟩
set_option maxRecDepth 100000 in
set_option maxHeartbeats 4000000 in
theorem c_X_ageLamps {l : Launch} {D : va_G} {ca : Nat → Nat} {h : fH} {ρ : Nat → Nat → Nat} {μ : Nat → Nat → Int32} {cap : Nat → Nat} {σ : St} (hR : RX ca h ρ μ cap σ) (hI : InvX σ) : FM l D ca yX10_ageLamps (.code yX10_ageLamps cX10_ageLamps 3 none) { frames := 4, cells := 0, slots := 0, locals := 84 } [.ref (ρ 0 0)] h (pVM (fun h2 => RX ca h2 ρ μ cap (X_ageLamps_s σ))) noX := by
  refine FM.of [some (.ref (ρ 0 0)), none, none] (by decide) (Nat.le_of_ble_eq_true rfl) rfl ?_
  rintro K X rfl rfl rfl
  have q_s : (X_ageLamps_s σ) = (X_ageLamps_L2_s σ (fun s2 => s2) (xL σ 3) 0 σ) := rfl
  refine J_iconst (v := 0) X dX10_ageLamps_0 rfl ?_
  refine J_istore_1 X dX10_ageLamps_1 rfl (by decide) ?_
  have hle := IX_L hI 3
  obtain ⟨K2s, hK2s⟩ : ∃ f : St → St, f = (fun s2 => s2) := ⟨_, rfl⟩
  have X2 : ∀ (s2 : St) (h2_ : fH) (_ : True), RX (kca K) h2_ ρ μ cap s2 → InvX s2 → s2 13 0 = σ 13 0 → (X_ageLamps_s σ) = s2 → J K h2_ [some (.ref (ρ 0 0)), none, none] [] 49 0 0 := by
    intro s2 h2_ _ hR2_ hI2_ hn2 q_s
    exact J_vret X rfl rfl ⟨rfl, by rw [q_s]; exact hR2_⟩ dX10_ageLamps_49
  have L2 : ∀ (n2 k2 : Nat) (s2 : St) (h2_ : fH), k2 + n2 = (xL σ 3) → RX (kca K) h2_ ρ μ cap s2 → InvX s2 → s2 13 0 = σ 13 0 → (X_ageLamps_s σ) = (X_ageLamps_L2_s σ K2s n2 k2 s2) → J K h2_ [some (.ref (ρ 0 0)), some (.int (nI k2)), none] [] 2 0 0 := by
    intro n2
    induction n2 with
    | zero =>
      intro k2 s2 h2_ hk2 hR2_ hI2_ hn2 q_s
      rw [X_ageLamps_L2_s] at q_s
      refine J_iload_1 X dX10_ageLamps_2 ?_
      refine J_aload_0 X dX10_ageLamps_3 ?_
      refine J_get X (C := RX10) (T := TX10) (N := 11) (ref := "NightValley") hR2_.root rfl 3 (by decide) rfl in_X10 gw_1_235 (fun _ z => z) dX10_ageLamps_4 ?_
      refine J_callV X (c_Xsize hR2_ (k := 3) (by omega)) (And.intro gw_2_34 cw_Jx4a65c_size_8abf5) (hR2_.list (by omega)) rfl rfl rfl (Nat.le_of_ble_eq_true rfl) dX10_ageLamps_7 rfl (J.pi ?_) JE.no
      refine J_icmp_ge (tgt := 49) X dX10_ageLamps_10 (by decide) (fun _ => ?_) (fun c => absurd (lp_exit (by show nI (ix (s2 13 0)) = nI (ix (σ 13 0)); rw [hn2]) (by omega) hk2) c)
      rw [hK2s] at q_s
      refine J.subL (lv' := [some (.ref (ρ 0 0)), none, none]) (And.intro rfl trivial) ?_
      exact X2 s2 h2_ trivial hR2_ hI2_ hn2 q_s
    | succ n2 ih2 =>
      intro k2 s2 h2_ hk2 hR2_ hI2_ hn2 q_s
      rw [X_ageLamps_L2_s] at q_s
      have hlt2 : k2 < (xL σ 3) := by omega
      refine J_iload_1 X dX10_ageLamps_2 ?_
      refine J_aload_0 X dX10_ageLamps_3 ?_
      refine J_get X (C := RX10) (T := TX10) (N := 11) (ref := "NightValley") hR2_.root rfl 3 (by decide) rfl in_X10 gw_1_235 (fun _ z => z) dX10_ageLamps_4 ?_
      refine J_callV X (c_Xsize hR2_ (k := 3) (by omega)) (And.intro gw_2_34 cw_Jx4a65c_size_8abf5) (hR2_.list (by omega)) rfl rfl rfl (Nat.le_of_ble_eq_true rfl) dX10_ageLamps_7 rfl (J.pi ?_) JE.no
      refine J_icmp_ge (tgt := 49) X dX10_ageLamps_10 (by decide) (fun c => absurd c (lp_stay (by show nI (ix (s2 13 0)) = nI (ix (σ 13 0)); rw [hn2]) (by omega) hk2)) (fun _ => ?_)
      have hx2 : xL s2 3 = xL σ 3 := by show ix (s2 13 0) = ix (σ 13 0); rw [hn2]
      refine J_aload_0 X dX10_ageLamps_13 ?_
      refine J_get X (C := RX10) (T := TX10) (N := 11) (ref := "NightValley") hR2_.root rfl 3 (by decide) rfl in_X10 gw_1_235 (fun _ z => z) dX10_ageLamps_14 ?_
      refine J_iload_1 X dX10_ageLamps_17 ?_
      refine J_callV X (c_Xget hR2_ (k := 3) (by omega) (vp_in_nI (N := (xL s2 3)) (by omega) (by omega))) (And.intro gw_2_104 cw_Jx4a65c_get_915e3) (hR2_.list (by omega)) rfl rfl rfl (Nat.le_of_ble_eq_true rfl) dX10_ageLamps_18 rfl (J.pa ?_) JE.no
      refine J_cast X (C := RX2) (T := TX2) (N := 12) (hR2_.lamp (vp_lt (vp_in_nI (N := (xL s2 3)) (by omega) (by omega)))) rfl gw_2_118 dX10_ageLamps_21 ?_
      refine J_astore_2 X dX10_ageLamps_24 rfl (by decide) ?_
      refine J_aload_0 X dX10_ageLamps_25 ?_
      refine J_aload_2 X dX10_ageLamps_26 ?_
      refine J_callV X (c_X_isBurning hR2_ hI2_ (ix (nI k2)) (vp_lt (vp_in_nI (N := (xL s2 3)) (by omega) (by omega)))) (And.intro gw_2_123 cw_X10_isBurning) hR2_.root rfl rfl rfl (Nat.le_of_ble_eq_true rfl) dX10_ageLamps_27 rfl (J.pi ?_) JE.no
      have K30_43 : ∀ hj1 : fH, RX (kca K) hj1 ρ μ cap (X_ageLamps_j30_s σ k2 s2) → J K hj1 [some (.ref (ρ 0 0)), some (.int (nI k2)), some (.ref (ρ 10 (ix (nI k2))))] [] 43 0 0 := by
        intro hj1 hRj1
        have hI1 : InvX (X_ageLamps_j30_s σ k2 s2) := (by unfold X_ageLamps_j30_s; (repeat' split) <;> first | exact hI2_ | exact InvX_sS hI2_ trivial (vp_lt (vp_in_nI (N := xL s2 3) (by omega) (by omega))))
        refine J_iinc_1 (v := (nI (k2 + 1))) X dX10_ageLamps_43 (nI_1 _) rfl (by decide) ?_
        refine J_goto (tgt := 2) X dX10_ageLamps_46 (by decide) ?_
        refine J.subL (lv' := [some (.ref (ρ 0 0)), some (.int (nI (k2 + 1))), none]) (And.intro rfl (And.intro rfl trivial)) ?_
        exact ih2 (k2 + 1) (X_ageLamps_j30_s σ k2 s2) hj1 (by omega) hRj1 hI1 (by unfold X_ageLamps_j30_s; (repeat' split) <;> exact hn2) q_s
      have j30_0 : X_ageLamps_j30_s σ k2 s2 = (if (X_isBurning s2 (ix (nI k2))) = (0 : Int32) then s2 else (sS s2 23 (ix (nI k2)) ((s2 23 (ix (nI k2))) + (1 : Int32)))) := rfl
      refine J_if_eq (tgt := 43) X dX10_ageLamps_30 (by decide) (fun c30 => ?_) (fun c30 => ?_)
      · skip
        rw [if_pos c30] at j30_0
        exact K30_43 _ (by rw [j30_0]; exact hR2_)
      · skip
        rw [if_neg c30] at j30_0
        refine J_aload_2 X dX10_ageLamps_33 ?_
        refine J_dup X dX10_ageLamps_34 rfl ?_
        refine J_get X (C := RX2) (T := TX2) (N := 12) (ref := "NightValley$Lamp") (hR2_.lamp (vp_lt (vp_in_nI (N := (xL s2 3)) (by omega) (by omega)))) rfl 9 (by decide) rfl in_X2 gw_3_73 (fun _ z => z) dX10_ageLamps_35 ?_
        refine J_iconst (v := 1) X dX10_ageLamps_38 rfl ?_
        refine J_iadd X dX10_ageLamps_39 ?_
        refine JX_p10_9 X hR2_ (i := (ix (nI k2))) (vp_lt (vp_in_nI (N := (xL s2 3)) (by omega) (by omega))) (v := ((s2 23 (ix (nI k2))) + (1 : Int32))) gw_3_73 dX10_ageLamps_40 (fun h2 hR2 => ?_)
        exact K30_43 _ (by rw [j30_0]; exact hR2)
  have q_s : (X_ageLamps_s σ) = (X_ageLamps_L2_s σ K2s (xL σ 3) 0 σ) := by rw [hK2s]; exact q_s
  exact L2 (xL σ 3) 0 σ h (Nat.zero_add _) hR hI rfl q_s
theorem X_ageL (σ : St) : ∀ (n k : Nat) (s : St), k + n = ix (σ 13 0) → InvX s → (∀ c, c ≠ 23 → s c = σ c) → InvX (X_ageLamps_L2_s σ (fun s2 => s2) n k s) ∧ ∀ c, c ≠ 23 → X_ageLamps_L2_s σ (fun s2 => s2) n k s c = σ c := by
  intro n
  induction n with
  | zero =>
    intro k s _ hI hc
    rw [X_ageLamps_L2_s]
    exact ⟨hI, hc⟩
  | succ n ih =>
    intro k s hk hI hc
    rw [X_ageLamps_L2_s]
    have e13 : s 13 0 = σ 13 0 := by rw [hc 13 (by decide)]
    have hx := IX_lamps hI
    have e : ix (nI k) = k := ixn (by rw [e13] at hx; omega)
    refine ih (k + 1) _ (by omega) ?_ ?_
    · unfold X_ageLamps_j30_s
      split
      · exact hI
      · exact InvX_sS hI trivial (by show ix (nI k) < ix (s 13 0); rw [e, e13]; omega)
    · intro c h
      unfold X_ageLamps_j30_s
      split
      · exact hc c h
      · rw [sS_col h]
        exact hc c h
theorem X_age_inv {σ : St} (hI : InvX σ) : InvX (X_ageLamps_s σ) := (X_ageL σ _ 0 σ (Nat.zero_add _) hI (fun _ _ => rfl)).1
theorem X_age_col {σ : St} (hI : InvX σ) {c : Nat} (h : c ≠ 23) : X_ageLamps_s σ c = σ c := (X_ageL σ _ 0 σ (Nat.zero_add _) hI (fun _ _ => rfl)).2 c h
theorem X_pay_inv {σ : St} {i : Nat} (hI : InvX σ) (hi : i < ix (σ 8 0)) : InvX (X_payFine_s σ i) := by
  unfold X_payFine_s
  exact InvX_sS (InvX_sS hI trivial trivial) trivial hi
def X_pass_j17 (σ : St) (p1 : Int32) : Int32 := (if (20000 : Int32) < ((σ 0 0) + p1) then (0 : Int32) else (1 : Int32))
theorem X_pass_j17_b (σ : St) (p1 : Int32) : X_pass_j17 σ p1 = 0 ∨ X_pass_j17 σ p1 = 1 := by
  unfold X_pass_j17
  (repeat' split) <;> first | exact Or.inl rfl | exact Or.inr rfl
def X_pass_L30 (σ : St) (p1 : Int32) (K30 : St → Int32) : Nat → Nat → St → Int32
  | 0, _, s30 => K30 s30
  | n30 + 1, k30, s30 => (X_pass_L30 σ p1 K30 n30 (k30 + 1) (sC (X_ageLamps_s s30 ) 0 (((X_ageLamps_s s30 ) 0 0) + (1 : Int32))))
def X_pass_L30_s (σ : St) (p1 : Int32) (K30s : St → St) : Nat → Nat → St → St
  | 0, _, s30 => K30s s30
  | n30 + 1, k30, s30 => (X_pass_L30_s σ p1 K30s n30 (k30 + 1) (sC (X_ageLamps_s s30 ) 0 (((X_ageLamps_s s30 ) 0 0) + (1 : Int32))))
def X_pass_L30_c (σ : St) (p1 : Int32) (K30c : St → Int32) : Nat → Nat → St → Int32
  | 0, _, s30 => K30c s30
  | n30 + 1, k30, s30 => (X_pass_L30_c σ p1 K30c n30 (k30 + 1) (sC (X_ageLamps_s s30 ) 0 (((X_ageLamps_s s30 ) 0 0) + (1 : Int32))))
def X_pass (σ : St) (p1 : Int32) : Int32 := (if M_isIn p1 (1 : Int32) (500 : Int32) = 0 then (0 : Int32) else (if (X_pass_j17 σ p1) = 0 then (0 : Int32) else (X_pass_L30 σ p1 (fun s30 => (s30 0 0)) (ix p1) 0 σ)))
def X_pass_s (σ : St) (p1 : Int32) : St := (if M_isIn p1 (1 : Int32) (500 : Int32) = 0 then σ else (if (X_pass_j17 σ p1) = 0 then σ else (X_pass_L30_s σ p1 (fun s30 => s30) (ix p1) 0 σ)))
def X_pass_c (σ : St) (p1 : Int32) : Int32 := (if M_isIn p1 (1 : Int32) (500 : Int32) = 0 then (2 : Int32) else (if (X_pass_j17 σ p1) = 0 then (3 : Int32) else (X_pass_L30_c σ p1 (fun s30 => (0 : Int32)) (ix p1) 0 σ)))
theorem cw_X10_pass : Cond.instanceMethod yX10_pass ∈ GW ∧ Cond.selects RX10 yX10_pass yX10_pass ∈ GW ∧ Cond.initialized RX10 ∈ GW ∧ Cond.code yX10_pass cX10_pass 3 (some .int) ∈ GW ∧ yX10_pass.cls = RX10 ∧ (yX10_pass.cls ≠ "java/lang/invoke/MethodHandle" ∧ yX10_pass.cls ≠ "java/lang/invoke/VarHandle") ∧ (parseMethodDescriptor yX10_pass.desc).map (fun d => d.parameters.length) = some 1 := ⟨gw_2_229, gw_2_230, gw_1_1, gw_2_231, rfl, ⟨by decide, by decide⟩, by decide +kernel⟩
set_option maxRecDepth 100000 in
set_option maxHeartbeats 4000000 in
theorem c_X_pass {l : Launch} {D : va_G} {ca : Nat → Nat} {h : fH} {ρ : Nat → Nat → Nat} {μ : Nat → Nat → Int32} {cap : Nat → Nat} {σ : St} (hR : RX ca h ρ μ cap σ) (hI : InvX σ) (p1 : Int32) : FM l D ca yX10_pass (.code yX10_pass cX10_pass 3 (some .int)) { frames := 7, cells := 2, slots := 12, locals := 123 } [.ref (ρ 0 0), .int p1] h (pPub (some (.int (X_pass σ p1))) (X_pass_c σ p1) (fun h2 => RX ca h2 ρ μ cap (X_pass_s σ p1))) (pxX (X_pass_c σ p1) (fun h2 => RX ca h2 ρ μ cap (X_pass_s σ p1))) := by
  refine FM.of [some (.ref (ρ 0 0)), some (.int p1), none] (by decide) (Nat.le_of_ble_eq_true rfl) rfl ?_
  rintro K X rfl rfl rfl
  have q_v : (X_pass σ p1) = (if M_isIn p1 (1 : Int32) (500 : Int32) = 0 then (0 : Int32) else (if (X_pass_j17 σ p1) = 0 then (0 : Int32) else (X_pass_L30 σ p1 (fun s30 => (s30 0 0)) (ix p1) 0 σ))) := rfl
  have q_s : (X_pass_s σ p1) = (if M_isIn p1 (1 : Int32) (500 : Int32) = 0 then σ else (if (X_pass_j17 σ p1) = 0 then σ else (X_pass_L30_s σ p1 (fun s30 => s30) (ix p1) 0 σ))) := rfl
  have q_c : (X_pass_c σ p1) = (if M_isIn p1 (1 : Int32) (500 : Int32) = 0 then (2 : Int32) else (if (X_pass_j17 σ p1) = 0 then (3 : Int32) else (X_pass_L30_c σ p1 (fun s30 => (0 : Int32)) (ix p1) 0 σ))) := rfl
  refine J_iload_1 X dX10_pass_0 ?_
  refine J_iconst (v := 1) X dX10_pass_1 rfl ?_
  refine J_sipush (v := (500 : Int32)) X dX10_pass_2 (by decide) ?_
  refine J_callS X (c_needRange p1 (1 : Int32) (500 : Int32)) (And.intro gw_2_198 cw_X10_needRange) rfl rfl (Nat.le_of_ble_eq_true rfl) dX10_pass_5 rfl (fun v h2 e => ?_) (fun E h2 e => ?_)
  · skip
    obtain ⟨e1, e2, c5⟩ := e
    subst e1
    rw [e2]
    clear e2
    rw [if_neg c5] at q_v
    rw [if_neg c5] at q_s
    rw [if_neg c5] at q_c
    show J K h [some (.ref (ρ 0 0)), some (.int p1), none] [] 8 1 6
    refine J_aload_0 X dX10_pass_8 ?_
    refine J_get X (C := RX10) (T := TX10) (N := 11) (ref := "NightValley") hR.root rfl 9 (by decide) rfl in_X10 gw_2_1 (fun _ z => z) dX10_pass_9 ?_
    refine J_iload_1 X dX10_pass_12 ?_
    refine J_iadd X dX10_pass_13 ?_
    refine J_sipush (v := (20000 : Int32)) X dX10_pass_14 (by decide) ?_
    have K17_25 : ∀ (v17_0 : Int32), v17_0 = (X_pass_j17 σ p1) → J K h [some (.ref (ρ 0 0)), some (.int p1), none] [.int v17_0] 25 1 6 := by
      intro v17_0 ev17_0
      try rw [ev17_0]
      clear ev17_0
      refine J_callS X (c_needState (X_pass_j17 σ p1)) (And.intro gw_2_232 cw_X10_needState) rfl rfl (Nat.le_of_ble_eq_true rfl) dX10_pass_25 rfl (fun v h2 e => ?_) (fun E h2 e => ?_)
      · skip
        obtain ⟨e1, e2, c25⟩ := e
        subst e1
        rw [e2]
        clear e2
        rw [if_neg c25] at q_v
        rw [if_neg c25] at q_s
        rw [if_neg c25] at q_c
        show J K h [some (.ref (ρ 0 0)), some (.int p1), none] [] 28 2 12
        refine J_iconst (v := 0) X dX10_pass_28 rfl ?_
        refine J_istore_2 X dX10_pass_29 rfl (by decide) ?_
        have h2 := isIn_iff.mp c5
        rw [show (1 : Int32).toInt = 1 from rfl, show (500 : Int32).toInt = 500 from rfl] at h2
        have hp : vp_in p1 501 := vp_in_iff.mpr ⟨by omega, by omega⟩
        have h4 : σ 0 0 + p1 ≤ 20000 := not_lt32.mp (fun q => c25 (by unfold X_pass_j17; rw [if_pos q]))
        obtain ⟨e1, l1⟩ := cnt (N := 20000) (hI.1 0 0) (by decide)
        obtain ⟨e2, l2⟩ := cnt (N := 500) hp (by decide)
        have hsum : ix (σ 0 0) + ix p1 ≤ 20000 := by rw [e1, e2, nI_add, show (20000 : Int32) = nI 20000 from rfl] at h4; exact (nI_leI (by omega) (by decide)).mp h4
        obtain ⟨K30, hK30⟩ : ∃ f : St → Int32, f = (fun s30 => (s30 0 0)) := ⟨_, rfl⟩
        obtain ⟨K30s, hK30s⟩ : ∃ f : St → St, f = (fun s30 => s30) := ⟨_, rfl⟩
        obtain ⟨K30c, hK30c⟩ : ∃ f : St → Int32, f = (fun s30 => (0 : Int32)) := ⟨_, rfl⟩
        have X30 : ∀ (s30 : St) (h30_ : fH) (_ : True), RX (kca K) h30_ ρ μ cap s30 → InvX s30 → s30 0 0 = nI (ix (σ 0 0) + (ix p1)) → (X_pass σ p1) = (s30 0 0) → (X_pass_s σ p1) = s30 → (X_pass_c σ p1) = (0 : Int32) → J K h30_ [some (.ref (ρ 0 0)), some (.int p1), none] [] 55 2 12 := by
          intro s30 h30_ _ hR30_ hI30_ ht30 q_v q_s q_c
          refine J_aload_0 X dX10_pass_55 ?_
          refine J_get X (C := RX10) (T := TX10) (N := 11) (ref := "NightValley") hR30_.root rfl 9 (by decide) rfl in_X10 gw_2_1 (fun _ z => z) dX10_pass_56 ?_
          exact J_iret X rfl rfl ⟨by rw [q_v], by rw [q_c], by rw [q_s]; exact hR30_⟩ dX10_pass_59
        have L30 : ∀ (n30 k30 : Nat) (s30 : St) (h30_ : fH), k30 + n30 = ix p1 → RX (kca K) h30_ ρ μ cap s30 → InvX s30 → s30 0 0 = nI (ix (σ 0 0) + k30) → (X_pass σ p1) = (X_pass_L30 σ p1 K30 n30 k30 s30) → (X_pass_s σ p1) = (X_pass_L30_s σ p1 K30s n30 k30 s30) → (X_pass_c σ p1) = (X_pass_L30_c σ p1 K30c n30 k30 s30) → J K h30_ [some (.ref (ρ 0 0)), some (.int p1), some (.int (nI k30))] [] 30 2 12 := by
          intro n30
          induction n30 with
          | zero =>
            intro k30 s30 h30_ hk30 hR30_ hI30_ ht30 q_v q_s q_c
            rw [X_pass_L30] at q_v
            rw [X_pass_L30_s] at q_s
            rw [X_pass_L30_c] at q_c
            have ek30 : k30 = ix p1 := by omega
            subst ek30
            refine J_iload_2 X dX10_pass_30 ?_
            refine J_iload_1 X dX10_pass_31 ?_
            refine J_icmp_ge (tgt := 55) X dX10_pass_32 (by decide) (fun _ => ?_) (fun c => absurd (lp_exit (vp_nI' hp (by decide)) (by omega) hk30) c)
            rw [hK30] at q_v
            rw [hK30s] at q_s
            rw [hK30c] at q_c
            refine J.subL (lv' := [some (.ref (ρ 0 0)), some (.int p1), none]) (And.intro rfl (And.intro rfl trivial)) ?_
            exact X30 s30 h30_ trivial hR30_ hI30_ ht30 q_v q_s q_c
          | succ n30 ih30 =>
            intro k30 s30 h30_ hk30 hR30_ hI30_ ht30 q_v q_s q_c
            rw [X_pass_L30] at q_v
            rw [X_pass_L30_s] at q_s
            rw [X_pass_L30_c] at q_c
            have hlt30 : k30 < ix p1 := by omega
            refine J_iload_2 X dX10_pass_30 ?_
            refine J_iload_1 X dX10_pass_31 ?_
            refine J_icmp_ge (tgt := 55) X dX10_pass_32 (by decide) (fun c => absurd c (lp_stay (vp_nI' hp (by decide)) (by omega) hk30)) (fun _ => ?_)
            refine J_aload_0 X dX10_pass_35 ?_
            refine J_callV X (c_X_ageLamps hR30_ hI30_ ) (And.intro gw_3_10 cw_X10_ageLamps) hR30_.root rfl rfl rfl (Nat.le_of_ble_eq_true rfl) dX10_pass_36 rfl (J.pvm (fun h1 hR1 => ?_)) JE.no
            have hI1 : InvX (X_ageLamps_s s30 ) := (X_age_inv hI30_)
            refine J_aload_0 X dX10_pass_39 ?_
            refine J_dup X dX10_pass_40 rfl ?_
            refine J_get X (C := RX10) (T := TX10) (N := 11) (ref := "NightValley") hR1.root rfl 9 (by decide) rfl in_X10 gw_2_1 (fun _ z => z) dX10_pass_41 ?_
            refine J_iconst (v := 1) X dX10_pass_44 rfl ?_
            refine J_iadd X dX10_pass_45 ?_
            refine JX_p0_9 X hR1 (v := (((X_ageLamps_s s30 ) 0 0) + (1 : Int32))) gw_2_1 dX10_pass_46 (fun h2 hR2 => ?_)
            have hI2 : InvX (sC (X_ageLamps_s s30 ) 0 (((X_ageLamps_s s30 ) 0 0) + (1 : Int32))) := (InvX_sC hI1 (by show vp_in (X_ageLamps_s s30 0 0 + 1) 20001; rw [X_age_col hI30_ (by decide), ht30, nI_1]; exact vp_in_nI (by omega) (by decide)) (Or.inl rfl))
            refine J_iinc_2 (v := (nI (k30 + 1))) X dX10_pass_49 (nI_1 _) rfl (by decide) ?_
            refine J_goto (tgt := 30) X dX10_pass_52 (by decide) ?_
            exact ih30 (k30 + 1) (sC (X_ageLamps_s s30 ) 0 (((X_ageLamps_s s30 ) 0 0) + (1 : Int32))) h2 (by omega) hR2 hI2 (by show X_ageLamps_s s30 0 0 + 1 = _; rw [X_age_col hI30_ (by decide), ht30, nI_1]; rfl) q_v q_s q_c
        have q_v : (X_pass σ p1) = (X_pass_L30 σ p1 K30 (ix p1) 0 σ) := by rw [hK30]; exact q_v
        have q_s : (X_pass_s σ p1) = (X_pass_L30_s σ p1 K30s (ix p1) 0 σ) := by rw [hK30s]; exact q_s
        have q_c : (X_pass_c σ p1) = (X_pass_L30_c σ p1 K30c (ix p1) 0 σ) := by rw [hK30c]; exact q_c
        exact L30 (ix p1) 0 σ h (Nat.zero_add _) hR hI e1 q_v q_s q_c
      · skip
        obtain ⟨e1, e2, c25⟩ := e
        subst e1
        rw [e2]
        clear e2
        rw [if_pos c25] at q_v
        rw [if_pos c25] at q_s
        rw [if_pos c25] at q_c
        exact JE_out X rfl rfl ⟨by rw [q_c]; rfl, by rw [q_c]; decide, by rw [q_s]; exact hR⟩
    have j17_0 : X_pass_j17 σ p1 = (if (20000 : Int32) < ((σ 0 0) + p1) then (0 : Int32) else (1 : Int32)) := rfl
    refine J_icmp_gt (tgt := 24) X dX10_pass_17 (by decide) (fun c17 => ?_) (fun c17 => ?_)
    · skip
      rw [if_pos c17] at j17_0
      refine J_iconst (v := 0) X dX10_pass_24 rfl ?_
      exact K17_25 _ j17_0.symm
    · skip
      rw [if_neg c17] at j17_0
      refine J_iconst (v := 1) X dX10_pass_20 rfl ?_
      refine J_goto (tgt := 25) X dX10_pass_21 (by decide) ?_
      exact K17_25 _ j17_0.symm
  · skip
    obtain ⟨e1, e2, c5⟩ := e
    subst e1
    rw [e2]
    clear e2
    rw [if_pos c5] at q_v
    rw [if_pos c5] at q_s
    rw [if_pos c5] at q_c
    exact JE_out X rfl rfl ⟨by rw [q_c]; rfl, by rw [q_c]; decide, by rw [q_s]; exact hR⟩
def X_vote_j77 (σ : St) (p1 : Int32) (p2 : Int32) (p3 : Int32) (p4 : Int32) (p5 : Int32) : Int32 := (if (X_boundHours σ (ix p1) (σ 0 0)) = (0 : Int32) then (1 : Int32) else (0 : Int32))
theorem X_vote_j77_b (σ : St) (p1 : Int32) (p2 : Int32) (p3 : Int32) (p4 : Int32) (p5 : Int32) : X_vote_j77 σ p1 p2 p3 p4 p5 = 0 ∨ X_vote_j77 σ p1 p2 p3 p4 p5 = 1 := by
  unfold X_vote_j77
  (repeat' split) <;> first | exact Or.inl rfl | exact Or.inr rfl
def X_vote_j94 (σ : St) (p1 : Int32) (p2 : Int32) (p3 : Int32) (p4 : Int32) (p5 : Int32) : Int32 := (if (σ 18 (ix p1)) < p2 then (1 : Int32) else (if p3 ≤ (σ 19 (ix p1)) then (0 : Int32) else (1 : Int32)))
theorem X_vote_j94_b (σ : St) (p1 : Int32) (p2 : Int32) (p3 : Int32) (p4 : Int32) (p5 : Int32) : X_vote_j94 σ p1 p2 p3 p4 p5 = 0 ∨ X_vote_j94 σ p1 p2 p3 p4 p5 = 1 := by
  unfold X_vote_j94
  (repeat' split) <;> first | exact Or.inl rfl | exact Or.inr rfl
def X_vote (σ : St) (p1 : Int32) (p2 : Int32) (p3 : Int32) (p4 : Int32) (p5 : Int32) : Int32 := (@ite _ (vp_in p1 (ix (σ 13 0))) (Classical.propDecidable _) (if M_isIn p2 (σ 18 (ix p1)) (10 : Int32) = 0 then (0 : Int32) else (if M_isIn p3 (σ 19 (ix p1)) (10 : Int32) = 0 then (0 : Int32) else (if M_isIn p4 (0 : Int32) (500 : Int32) = 0 then (0 : Int32) else (if M_isIn p5 (0 : Int32) (500 : Int32) = 0 then (0 : Int32) else (if M_isIn (p4 + p5) (0 : Int32) (σ 9 (ix (σ 14 (ix p1)))) = 0 then (0 : Int32) else (if (X_vote_j77 σ p1 p2 p3 p4 p5) = 0 then (0 : Int32) else (if (X_vote_j94 σ p1 p2 p3 p4 p5) = 0 then (0 : Int32) else (if (X_agrees σ (ix (σ 14 (ix p1))) p4 p5) = (0 : Int32) then (-1 : Int32) else (if ((X_refitCost σ (ix p1) p2 p3) - ((X_refitCost σ (ix p1) p2 p3) / (2 : Int32))) ≤ (σ 10 (ix (σ 14 (ix p1)))) then ((X_refitCost σ (ix p1) p2 p3) - ((X_refitCost σ (ix p1) p2 p3) / (2 : Int32))) else (-1 : Int32)))))))))) (0 : Int32))
def X_vote_s (σ : St) (p1 : Int32) (p2 : Int32) (p3 : Int32) (p4 : Int32) (p5 : Int32) : St := (@ite _ (vp_in p1 (ix (σ 13 0))) (Classical.propDecidable _) (if M_isIn p2 (σ 18 (ix p1)) (10 : Int32) = 0 then σ else (if M_isIn p3 (σ 19 (ix p1)) (10 : Int32) = 0 then σ else (if M_isIn p4 (0 : Int32) (500 : Int32) = 0 then σ else (if M_isIn p5 (0 : Int32) (500 : Int32) = 0 then σ else (if M_isIn (p4 + p5) (0 : Int32) (σ 9 (ix (σ 14 (ix p1)))) = 0 then σ else (if (X_vote_j77 σ p1 p2 p3 p4 p5) = 0 then σ else (if (X_vote_j94 σ p1 p2 p3 p4 p5) = 0 then σ else (if (X_agrees σ (ix (σ 14 (ix p1))) p4 p5) = (0 : Int32) then σ else (if ((X_refitCost σ (ix p1) p2 p3) - ((X_refitCost σ (ix p1) p2 p3) / (2 : Int32))) ≤ (σ 10 (ix (σ 14 (ix p1)))) then (sS (X_refit_s σ (ix p1) p2 p3 (σ 0 0)) 10 (ix (σ 14 (ix p1))) (((X_refit_s σ (ix p1) p2 p3 (σ 0 0)) 10 (ix (σ 14 (ix p1)))) - ((X_refitCost σ (ix p1) p2 p3) - ((X_refitCost σ (ix p1) p2 p3) / (2 : Int32))))) else σ))))))))) σ)
def X_vote_c (σ : St) (p1 : Int32) (p2 : Int32) (p3 : Int32) (p4 : Int32) (p5 : Int32) : Int32 := (@ite _ (vp_in p1 (ix (σ 13 0))) (Classical.propDecidable _) (if M_isIn p2 (σ 18 (ix p1)) (10 : Int32) = 0 then (2 : Int32) else (if M_isIn p3 (σ 19 (ix p1)) (10 : Int32) = 0 then (2 : Int32) else (if M_isIn p4 (0 : Int32) (500 : Int32) = 0 then (2 : Int32) else (if M_isIn p5 (0 : Int32) (500 : Int32) = 0 then (2 : Int32) else (if M_isIn (p4 + p5) (0 : Int32) (σ 9 (ix (σ 14 (ix p1)))) = 0 then (2 : Int32) else (if (X_vote_j77 σ p1 p2 p3 p4 p5) = 0 then (3 : Int32) else (if (X_vote_j94 σ p1 p2 p3 p4 p5) = 0 then (3 : Int32) else (if (X_agrees σ (ix (σ 14 (ix p1))) p4 p5) = (0 : Int32) then (0 : Int32) else (if ((X_refitCost σ (ix p1) p2 p3) - ((X_refitCost σ (ix p1) p2 p3) / (2 : Int32))) ≤ (σ 10 (ix (σ 14 (ix p1)))) then (0 : Int32) else (0 : Int32)))))))))) (1 : Int32))
theorem cw_X10_vote : Cond.instanceMethod yX10_vote ∈ GW ∧ Cond.selects RX10 yX10_vote yX10_vote ∈ GW ∧ Cond.initialized RX10 ∈ GW ∧ Cond.code yX10_vote cX10_vote 10 (some .int) ∈ GW ∧ yX10_vote.cls = RX10 ∧ (yX10_vote.cls ≠ "java/lang/invoke/MethodHandle" ∧ yX10_vote.cls ≠ "java/lang/invoke/VarHandle") ∧ (parseMethodDescriptor yX10_vote.desc).map (fun d => d.parameters.length) = some 5 := ⟨gw_3_122, gw_3_123, gw_1_1, gw_3_124, rfl, ⟨by decide, by decide⟩, by decide +kernel⟩
set_option maxRecDepth 100000 in
set_option maxHeartbeats 4000000 in
theorem c_X_vote {l : Launch} {D : va_G} {ca : Nat → Nat} {h : fH} {ρ : Nat → Nat → Nat} {μ : Nat → Nat → Int32} {cap : Nat → Nat} {σ : St} (hR : RX ca h ρ μ cap σ) (hI : InvX σ) (p1 : Int32) (p2 : Int32) (p3 : Int32) (p4 : Int32) (p5 : Int32) : FM l D ca yX10_vote (.code yX10_vote cX10_vote 10 (some .int)) { frames := 8, cells := 8, slots := 48, locals := 151 } [.ref (ρ 0 0), .int p1, .int p2, .int p3, .int p4, .int p5] h (pPub (some (.int (X_vote σ p1 p2 p3 p4 p5))) (X_vote_c σ p1 p2 p3 p4 p5) (fun h2 => RX ca h2 ρ μ cap (X_vote_s σ p1 p2 p3 p4 p5))) (pxX (X_vote_c σ p1 p2 p3 p4 p5) (fun h2 => RX ca h2 ρ μ cap (X_vote_s σ p1 p2 p3 p4 p5))) := by
  refine FM.of [some (.ref (ρ 0 0)), some (.int p1), some (.int p2), some (.int p3), some (.int p4), some (.int p5), none, none, none, none] (by decide) (Nat.le_of_ble_eq_true rfl) rfl ?_
  rintro K X rfl rfl rfl
  have q_v : (X_vote σ p1 p2 p3 p4 p5) = (@ite _ (vp_in p1 (ix (σ 13 0))) (Classical.propDecidable _) (if M_isIn p2 (σ 18 (ix p1)) (10 : Int32) = 0 then (0 : Int32) else (if M_isIn p3 (σ 19 (ix p1)) (10 : Int32) = 0 then (0 : Int32) else (if M_isIn p4 (0 : Int32) (500 : Int32) = 0 then (0 : Int32) else (if M_isIn p5 (0 : Int32) (500 : Int32) = 0 then (0 : Int32) else (if M_isIn (p4 + p5) (0 : Int32) (σ 9 (ix (σ 14 (ix p1)))) = 0 then (0 : Int32) else (if (X_vote_j77 σ p1 p2 p3 p4 p5) = 0 then (0 : Int32) else (if (X_vote_j94 σ p1 p2 p3 p4 p5) = 0 then (0 : Int32) else (if (X_agrees σ (ix (σ 14 (ix p1))) p4 p5) = (0 : Int32) then (-1 : Int32) else (if ((X_refitCost σ (ix p1) p2 p3) - ((X_refitCost σ (ix p1) p2 p3) / (2 : Int32))) ≤ (σ 10 (ix (σ 14 (ix p1)))) then ((X_refitCost σ (ix p1) p2 p3) - ((X_refitCost σ (ix p1) p2 p3) / (2 : Int32))) else (-1 : Int32)))))))))) (0 : Int32)) := rfl
  have q_s : (X_vote_s σ p1 p2 p3 p4 p5) = (@ite _ (vp_in p1 (ix (σ 13 0))) (Classical.propDecidable _) (if M_isIn p2 (σ 18 (ix p1)) (10 : Int32) = 0 then σ else (if M_isIn p3 (σ 19 (ix p1)) (10 : Int32) = 0 then σ else (if M_isIn p4 (0 : Int32) (500 : Int32) = 0 then σ else (if M_isIn p5 (0 : Int32) (500 : Int32) = 0 then σ else (if M_isIn (p4 + p5) (0 : Int32) (σ 9 (ix (σ 14 (ix p1)))) = 0 then σ else (if (X_vote_j77 σ p1 p2 p3 p4 p5) = 0 then σ else (if (X_vote_j94 σ p1 p2 p3 p4 p5) = 0 then σ else (if (X_agrees σ (ix (σ 14 (ix p1))) p4 p5) = (0 : Int32) then σ else (if ((X_refitCost σ (ix p1) p2 p3) - ((X_refitCost σ (ix p1) p2 p3) / (2 : Int32))) ≤ (σ 10 (ix (σ 14 (ix p1)))) then (sS (X_refit_s σ (ix p1) p2 p3 (σ 0 0)) 10 (ix (σ 14 (ix p1))) (((X_refit_s σ (ix p1) p2 p3 (σ 0 0)) 10 (ix (σ 14 (ix p1)))) - ((X_refitCost σ (ix p1) p2 p3) - ((X_refitCost σ (ix p1) p2 p3) / (2 : Int32))))) else σ))))))))) σ) := rfl
  have q_c : (X_vote_c σ p1 p2 p3 p4 p5) = (@ite _ (vp_in p1 (ix (σ 13 0))) (Classical.propDecidable _) (if M_isIn p2 (σ 18 (ix p1)) (10 : Int32) = 0 then (2 : Int32) else (if M_isIn p3 (σ 19 (ix p1)) (10 : Int32) = 0 then (2 : Int32) else (if M_isIn p4 (0 : Int32) (500 : Int32) = 0 then (2 : Int32) else (if M_isIn p5 (0 : Int32) (500 : Int32) = 0 then (2 : Int32) else (if M_isIn (p4 + p5) (0 : Int32) (σ 9 (ix (σ 14 (ix p1)))) = 0 then (2 : Int32) else (if (X_vote_j77 σ p1 p2 p3 p4 p5) = 0 then (3 : Int32) else (if (X_vote_j94 σ p1 p2 p3 p4 p5) = 0 then (3 : Int32) else (if (X_agrees σ (ix (σ 14 (ix p1))) p4 p5) = (0 : Int32) then (0 : Int32) else (if ((X_refitCost σ (ix p1) p2 p3) - ((X_refitCost σ (ix p1) p2 p3) / (2 : Int32))) ≤ (σ 10 (ix (σ 14 (ix p1)))) then (0 : Int32) else (0 : Int32)))))))))) (1 : Int32)) := rfl
  refine J_aload_0 X dX10_vote_0 ?_
  refine J_iload_1 X dX10_vote_1 ?_
  refine J_callV X (c_lampOf hR hI p1) (And.intro gw_3_108 cw_X10_lampOf) hR.root rfl rfl rfl (Nat.le_of_ble_eq_true rfl) dX10_vote_2 rfl (fun v h2 e => ?_) (fun E h2 e => ?_)
  · skip
    obtain ⟨e1, e2, c2⟩ := e
    subst e1
    rw [e2]
    clear e2
    rw [if_pos c2] at q_v
    rw [if_pos c2] at q_s
    rw [if_pos c2] at q_c
    show J K h [some (.ref (ρ 0 0)), some (.int p1), some (.int p2), some (.int p3), some (.int p4), some (.int p5), none, none, none, none] [.ref (ρ 10 (ix p1))] 5 1 6
    refine J_astore_6 X dX10_vote_5 rfl (by decide) ?_
    refine J_aload_6 X dX10_vote_7 ?_
    refine J_get X (C := RX2) (T := TX2) (N := 12) (ref := "NightValley$Lamp") (hR.lamp (vp_lt c2)) rfl 0 (by decide) rfl in_X2 gw_3_57 (fun _ z => z) dX10_vote_9 ?_
    refine J_astore_7 X dX10_vote_12 rfl (by decide) ?_
    refine J_iload_2 X dX10_vote_14 ?_
    refine J_aload_6 X dX10_vote_15 ?_
    refine J_get X (C := RX2) (T := TX2) (N := 12) (ref := "NightValley$Lamp") (hR.lamp (vp_lt c2)) rfl 4 (by decide) rfl in_X2 gw_3_63 (fun _ z => z) dX10_vote_17 ?_
    refine J_bipush (v := (10 : Int32)) X dX10_vote_20 (by decide) ?_
    refine J_callS X (c_needRange p2 (σ 18 (ix p1)) (10 : Int32)) (And.intro gw_2_198 cw_X10_needRange) rfl rfl (Nat.le_of_ble_eq_true rfl) dX10_vote_22 rfl (fun v h2 e => ?_) (fun E h2 e => ?_)
    · skip
      obtain ⟨e1, e2, c22⟩ := e
      subst e1
      rw [e2]
      clear e2
      rw [if_neg c22] at q_v
      rw [if_neg c22] at q_s
      rw [if_neg c22] at q_c
      show J K h [some (.ref (ρ 0 0)), some (.int p1), some (.int p2), some (.int p3), some (.int p4), some (.int p5), some (.ref (ρ 10 (ix p1))), some (.ref (ρ 9 (ix (σ 14 (ix p1))))), none, none] [] 25 2 12
      refine J_iload_3 X dX10_vote_25 ?_
      refine J_aload_6 X dX10_vote_26 ?_
      refine J_get X (C := RX2) (T := TX2) (N := 12) (ref := "NightValley$Lamp") (hR.lamp (vp_lt c2)) rfl 5 (by decide) rfl in_X2 gw_3_65 (fun _ z => z) dX10_vote_28 ?_
      refine J_bipush (v := (10 : Int32)) X dX10_vote_31 (by decide) ?_
      refine J_callS X (c_needRange p3 (σ 19 (ix p1)) (10 : Int32)) (And.intro gw_2_198 cw_X10_needRange) rfl rfl (Nat.le_of_ble_eq_true rfl) dX10_vote_33 rfl (fun v h2 e => ?_) (fun E h2 e => ?_)
      · skip
        obtain ⟨e1, e2, c33⟩ := e
        subst e1
        rw [e2]
        clear e2
        rw [if_neg c33] at q_v
        rw [if_neg c33] at q_s
        rw [if_neg c33] at q_c
        show J K h [some (.ref (ρ 0 0)), some (.int p1), some (.int p2), some (.int p3), some (.int p4), some (.int p5), some (.ref (ρ 10 (ix p1))), some (.ref (ρ 9 (ix (σ 14 (ix p1))))), none, none] [] 36 3 18
        refine J_iload_4 X dX10_vote_36 ?_
        refine J_iconst (v := 0) X dX10_vote_38 rfl ?_
        refine J_sipush (v := (500 : Int32)) X dX10_vote_39 (by decide) ?_
        refine J_callS X (c_needRange p4 (0 : Int32) (500 : Int32)) (And.intro gw_2_198 cw_X10_needRange) rfl rfl (Nat.le_of_ble_eq_true rfl) dX10_vote_42 rfl (fun v h2 e => ?_) (fun E h2 e => ?_)
        · skip
          obtain ⟨e1, e2, c42⟩ := e
          subst e1
          rw [e2]
          clear e2
          rw [if_neg c42] at q_v
          rw [if_neg c42] at q_s
          rw [if_neg c42] at q_c
          show J K h [some (.ref (ρ 0 0)), some (.int p1), some (.int p2), some (.int p3), some (.int p4), some (.int p5), some (.ref (ρ 10 (ix p1))), some (.ref (ρ 9 (ix (σ 14 (ix p1))))), none, none] [] 45 4 24
          refine J_iload_5 X dX10_vote_45 ?_
          refine J_iconst (v := 0) X dX10_vote_47 rfl ?_
          refine J_sipush (v := (500 : Int32)) X dX10_vote_48 (by decide) ?_
          refine J_callS X (c_needRange p5 (0 : Int32) (500 : Int32)) (And.intro gw_2_198 cw_X10_needRange) rfl rfl (Nat.le_of_ble_eq_true rfl) dX10_vote_51 rfl (fun v h2 e => ?_) (fun E h2 e => ?_)
          · skip
            obtain ⟨e1, e2, c51⟩ := e
            subst e1
            rw [e2]
            clear e2
            rw [if_neg c51] at q_v
            rw [if_neg c51] at q_s
            rw [if_neg c51] at q_c
            show J K h [some (.ref (ρ 0 0)), some (.int p1), some (.int p2), some (.int p3), some (.int p4), some (.int p5), some (.ref (ρ 10 (ix p1))), some (.ref (ρ 9 (ix (σ 14 (ix p1))))), none, none] [] 54 5 30
            refine J_iload_4 X dX10_vote_54 ?_
            refine J_iload_5 X dX10_vote_56 ?_
            refine J_iadd X dX10_vote_58 ?_
            refine J_iconst (v := 0) X dX10_vote_59 rfl ?_
            refine J_aload_7 X dX10_vote_60 ?_
            refine J_get X (C := RX7) (T := TX7) (N := 5) (ref := "NightValley$Village") (hR.village (IX_own hI (vp_lt c2))) rfl 0 (by decide) rfl in_X7 gw_3_25 (fun _ z => z) dX10_vote_62 ?_
            refine J_callS X (c_needRange (p4 + p5) (0 : Int32) (σ 9 (ix (σ 14 (ix p1))))) (And.intro gw_2_198 cw_X10_needRange) rfl rfl (Nat.le_of_ble_eq_true rfl) dX10_vote_65 rfl (fun v h2 e => ?_) (fun E h2 e => ?_)
            · skip
              obtain ⟨e1, e2, c65⟩ := e
              subst e1
              rw [e2]
              clear e2
              rw [if_neg c65] at q_v
              rw [if_neg c65] at q_s
              rw [if_neg c65] at q_c
              show J K h [some (.ref (ρ 0 0)), some (.int p1), some (.int p2), some (.int p3), some (.int p4), some (.int p5), some (.ref (ρ 10 (ix p1))), some (.ref (ρ 9 (ix (σ 14 (ix p1))))), none, none] [] 68 6 36
              refine J_aload_6 X dX10_vote_68 ?_
              refine J_aload_0 X dX10_vote_70 ?_
              refine J_get X (C := RX10) (T := TX10) (N := 11) (ref := "NightValley") hR.root rfl 9 (by decide) rfl in_X10 gw_2_1 (fun _ z => z) dX10_vote_71 ?_
              refine J_callV X (c_X_boundHours hR (ix p1) (σ 0 0) (vp_lt c2)) (And.intro gw_3_112 cw_X2_boundHours) (hR.lamp (vp_lt c2)) rfl rfl rfl (Nat.le_of_ble_eq_true rfl) dX10_vote_74 rfl (J.pi ?_) JE.no
              have K77_85 : ∀ (v77_0 : Int32), v77_0 = (X_vote_j77 σ p1 p2 p3 p4 p5) → J K h [some (.ref (ρ 0 0)), some (.int p1), some (.int p2), some (.int p3), some (.int p4), some (.int p5), some (.ref (ρ 10 (ix p1))), some (.ref (ρ 9 (ix (σ 14 (ix p1))))), none, none] [.int v77_0] 85 6 36 := by
                intro v77_0 ev77_0
                try rw [ev77_0]
                clear ev77_0
                refine J_callS X (c_needState (X_vote_j77 σ p1 p2 p3 p4 p5)) (And.intro gw_2_232 cw_X10_needState) rfl rfl (Nat.le_of_ble_eq_true rfl) dX10_vote_85 rfl (fun v h2 e => ?_) (fun E h2 e => ?_)
                · skip
                  obtain ⟨e1, e2, c85⟩ := e
                  subst e1
                  rw [e2]
                  clear e2
                  rw [if_neg c85] at q_v
                  rw [if_neg c85] at q_s
                  rw [if_neg c85] at q_c
                  show J K h [some (.ref (ρ 0 0)), some (.int p1), some (.int p2), some (.int p3), some (.int p4), some (.int p5), some (.ref (ρ 10 (ix p1))), some (.ref (ρ 9 (ix (σ 14 (ix p1))))), none, none] [] 88 7 42
                  refine J_iload_2 X dX10_vote_88 ?_
                  refine J_aload_6 X dX10_vote_89 ?_
                  refine J_get X (C := RX2) (T := TX2) (N := 12) (ref := "NightValley$Lamp") (hR.lamp (vp_lt c2)) rfl 4 (by decide) rfl in_X2 gw_3_63 (fun _ z => z) dX10_vote_91 ?_
                  have K94_111 : ∀ (v94_0 : Int32), v94_0 = (X_vote_j94 σ p1 p2 p3 p4 p5) → J K h [some (.ref (ρ 0 0)), some (.int p1), some (.int p2), some (.int p3), some (.int p4), some (.int p5), some (.ref (ρ 10 (ix p1))), some (.ref (ρ 9 (ix (σ 14 (ix p1))))), none, none] [.int v94_0] 111 7 42 := by
                    intro v94_0 ev94_0
                    try rw [ev94_0]
                    clear ev94_0
                    refine J_callS X (c_needState (X_vote_j94 σ p1 p2 p3 p4 p5)) (And.intro gw_2_232 cw_X10_needState) rfl rfl (Nat.le_of_ble_eq_true rfl) dX10_vote_111 rfl (fun v h2 e => ?_) (fun E h2 e => ?_)
                    · skip
                      obtain ⟨e1, e2, c111⟩ := e
                      subst e1
                      rw [e2]
                      clear e2
                      rw [if_neg c111] at q_v
                      rw [if_neg c111] at q_s
                      rw [if_neg c111] at q_c
                      show J K h [some (.ref (ρ 0 0)), some (.int p1), some (.int p2), some (.int p3), some (.int p4), some (.int p5), some (.ref (ρ 10 (ix p1))), some (.ref (ρ 9 (ix (σ 14 (ix p1))))), none, none] [] 114 8 48
                      refine J_aload_6 X dX10_vote_114 ?_
                      refine J_iload_2 X dX10_vote_116 ?_
                      refine J_iload_3 X dX10_vote_117 ?_
                      refine J_callV X (c_X_refitCost hR (ix p1) p2 p3 (vp_lt c2)) (And.intro gw_3_125 cw_X2_refitCost) (hR.lamp (vp_lt c2)) rfl rfl rfl (Nat.le_of_ble_eq_true rfl) dX10_vote_118 rfl (J.pi ?_) JE.no
                      refine J_istore_8 X dX10_vote_121 rfl (by decide) ?_
                      refine J_iload_8 X dX10_vote_123 ?_
                      refine J_iload_8 X dX10_vote_125 ?_
                      refine J_iconst (v := 2) X dX10_vote_127 rfl ?_
                      refine J_idiv X dX10_vote_128 (by decide) ?_
                      refine J_isub X dX10_vote_129 ?_
                      refine J_istore_9 X dX10_vote_130 rfl (by decide) ?_
                      refine J_aload_7 X dX10_vote_132 ?_
                      refine J_iload_4 X dX10_vote_134 ?_
                      refine J_iload_5 X dX10_vote_136 ?_
                      refine J_callV X (c_X_agrees hR (ix (σ 14 (ix p1))) p4 p5 (IX_own hI (vp_lt c2))) (And.intro gw_3_129 cw_X7_agrees) (hR.village (IX_own hI (vp_lt c2))) rfl rfl rfl (Nat.le_of_ble_eq_true rfl) dX10_vote_138 rfl (J.pi ?_) JE.no
                      refine J_if_eq (tgt := 154) X dX10_vote_141 (by decide) (fun c141 => ?_) (fun c141 => ?_)
                      · skip
                        rw [if_pos c141] at q_v
                        rw [if_pos c141] at q_s
                        rw [if_pos c141] at q_c
                        refine J_iconst (v := -1) X dX10_vote_154 rfl ?_
                        exact J_iret X rfl rfl ⟨by rw [q_v], by rw [q_c], by rw [q_s]; exact hR⟩ dX10_vote_155
                      · skip
                        rw [if_neg c141] at q_v
                        rw [if_neg c141] at q_s
                        rw [if_neg c141] at q_c
                        refine J_aload_7 X dX10_vote_144 ?_
                        refine J_get X (C := RX7) (T := TX7) (N := 5) (ref := "NightValley$Village") (hR.village (IX_own hI (vp_lt c2))) rfl 1 (by decide) rfl in_X7 gw_3_27 (fun _ z => z) dX10_vote_146 ?_
                        refine J_iload_9 X dX10_vote_149 ?_
                        refine J_icmp_ge (tgt := 156) X dX10_vote_151 (by decide) (fun c151 => ?_) (fun c151 => ?_)
                        · skip
                          rw [if_pos c151] at q_v
                          rw [if_pos c151] at q_s
                          rw [if_pos c151] at q_c
                          refine J_aload_6 X dX10_vote_156 ?_
                          refine J_iload_2 X dX10_vote_158 ?_
                          refine J_iload_3 X dX10_vote_159 ?_
                          refine J_aload_0 X dX10_vote_160 ?_
                          refine J_get X (C := RX10) (T := TX10) (N := 11) (ref := "NightValley") hR.root rfl 9 (by decide) rfl in_X10 gw_2_1 (fun _ z => z) dX10_vote_161 ?_
                          refine J_callV X (c_X_refit hR (ix p1) p2 p3 (σ 0 0) (vp_lt c2)) (And.intro gw_3_133 cw_X2_refit) (hR.lamp (vp_lt c2)) rfl rfl rfl (Nat.le_of_ble_eq_true rfl) dX10_vote_164 rfl (J.pvm (fun h1 hR1 => ?_)) JE.no
                          refine J_aload_7 X dX10_vote_167 ?_
                          refine J_dup X dX10_vote_169 rfl ?_
                          refine J_get X (C := RX7) (T := TX7) (N := 5) (ref := "NightValley$Village") (hR1.village (IX_own hI (vp_lt c2))) rfl 1 (by decide) rfl in_X7 gw_3_27 (fun _ z => z) dX10_vote_170 ?_
                          refine J_iload_9 X dX10_vote_173 ?_
                          refine J_isub X dX10_vote_175 ?_
                          refine JX_p9_1 X hR1 (i := (ix (σ 14 (ix p1)))) (IX_own hI (vp_lt c2)) (v := (((X_refit_s σ (ix p1) p2 p3 (σ 0 0)) 10 (ix (σ 14 (ix p1)))) - ((X_refitCost σ (ix p1) p2 p3) - ((X_refitCost σ (ix p1) p2 p3) / (2 : Int32))))) gw_3_27 dX10_vote_176 (fun h2 hR2 => ?_)
                          refine J_iload_9 X dX10_vote_179 ?_
                          exact J_iret X rfl rfl ⟨by rw [q_v], by rw [q_c], by rw [q_s]; exact hR2⟩ dX10_vote_181
                        · skip
                          rw [if_neg c151] at q_v
                          rw [if_neg c151] at q_s
                          rw [if_neg c151] at q_c
                          refine J_iconst (v := -1) X dX10_vote_154 rfl ?_
                          exact J_iret X rfl rfl ⟨by rw [q_v], by rw [q_c], by rw [q_s]; exact hR⟩ dX10_vote_155
                    · skip
                      obtain ⟨e1, e2, c111⟩ := e
                      subst e1
                      rw [e2]
                      clear e2
                      rw [if_pos c111] at q_v
                      rw [if_pos c111] at q_s
                      rw [if_pos c111] at q_c
                      exact JE_out X rfl rfl ⟨by rw [q_c]; rfl, by rw [q_c]; decide, by rw [q_s]; exact hR⟩
                  have j94_0 : X_vote_j94 σ p1 p2 p3 p4 p5 = (if (σ 18 (ix p1)) < p2 then (1 : Int32) else (if p3 ≤ (σ 19 (ix p1)) then (0 : Int32) else (1 : Int32))) := rfl
                  refine J_icmp_gt (tgt := 106) X dX10_vote_94 (by decide) (fun c94 => ?_) (fun c94 => ?_)
                  · skip
                    rw [if_pos c94] at j94_0
                    refine J_iconst (v := 1) X dX10_vote_106 rfl ?_
                    refine J_goto (tgt := 111) X dX10_vote_107 (by decide) ?_
                    exact K94_111 _ j94_0.symm
                  · skip
                    rw [if_neg c94] at j94_0
                    refine J_iload_3 X dX10_vote_97 ?_
                    refine J_aload_6 X dX10_vote_98 ?_
                    refine J_get X (C := RX2) (T := TX2) (N := 12) (ref := "NightValley$Lamp") (hR.lamp (vp_lt c2)) rfl 5 (by decide) rfl in_X2 gw_3_65 (fun _ z => z) dX10_vote_100 ?_
                    refine J_icmp_le (tgt := 110) X dX10_vote_103 (by decide) (fun c103 => ?_) (fun c103 => ?_)
                    · skip
                      rw [if_pos c103] at j94_0
                      refine J_iconst (v := 0) X dX10_vote_110 rfl ?_
                      exact K94_111 _ j94_0.symm
                    · skip
                      rw [if_neg c103] at j94_0
                      refine J_iconst (v := 1) X dX10_vote_106 rfl ?_
                      refine J_goto (tgt := 111) X dX10_vote_107 (by decide) ?_
                      exact K94_111 _ j94_0.symm
                · skip
                  obtain ⟨e1, e2, c85⟩ := e
                  subst e1
                  rw [e2]
                  clear e2
                  rw [if_pos c85] at q_v
                  rw [if_pos c85] at q_s
                  rw [if_pos c85] at q_c
                  exact JE_out X rfl rfl ⟨by rw [q_c]; rfl, by rw [q_c]; decide, by rw [q_s]; exact hR⟩
              have j77_0 : X_vote_j77 σ p1 p2 p3 p4 p5 = (if (X_boundHours σ (ix p1) (σ 0 0)) = (0 : Int32) then (1 : Int32) else (0 : Int32)) := rfl
              refine J_if_ne (tgt := 84) X dX10_vote_77 (by decide) (fun c77 => ?_) (fun c77 => ?_)
              · skip
                rw [if_neg c77] at j77_0
                refine J_iconst (v := 0) X dX10_vote_84 rfl ?_
                exact K77_85 _ j77_0.symm
              · skip
                rw [if_pos c77] at j77_0
                refine J_iconst (v := 1) X dX10_vote_80 rfl ?_
                refine J_goto (tgt := 85) X dX10_vote_81 (by decide) ?_
                exact K77_85 _ j77_0.symm
            · skip
              obtain ⟨e1, e2, c65⟩ := e
              subst e1
              rw [e2]
              clear e2
              rw [if_pos c65] at q_v
              rw [if_pos c65] at q_s
              rw [if_pos c65] at q_c
              exact JE_out X rfl rfl ⟨by rw [q_c]; rfl, by rw [q_c]; decide, by rw [q_s]; exact hR⟩
          · skip
            obtain ⟨e1, e2, c51⟩ := e
            subst e1
            rw [e2]
            clear e2
            rw [if_pos c51] at q_v
            rw [if_pos c51] at q_s
            rw [if_pos c51] at q_c
            exact JE_out X rfl rfl ⟨by rw [q_c]; rfl, by rw [q_c]; decide, by rw [q_s]; exact hR⟩
        · skip
          obtain ⟨e1, e2, c42⟩ := e
          subst e1
          rw [e2]
          clear e2
          rw [if_pos c42] at q_v
          rw [if_pos c42] at q_s
          rw [if_pos c42] at q_c
          exact JE_out X rfl rfl ⟨by rw [q_c]; rfl, by rw [q_c]; decide, by rw [q_s]; exact hR⟩
      · skip
        obtain ⟨e1, e2, c33⟩ := e
        subst e1
        rw [e2]
        clear e2
        rw [if_pos c33] at q_v
        rw [if_pos c33] at q_s
        rw [if_pos c33] at q_c
        exact JE_out X rfl rfl ⟨by rw [q_c]; rfl, by rw [q_c]; decide, by rw [q_s]; exact hR⟩
    · skip
      obtain ⟨e1, e2, c22⟩ := e
      subst e1
      rw [e2]
      clear e2
      rw [if_pos c22] at q_v
      rw [if_pos c22] at q_s
      rw [if_pos c22] at q_c
      exact JE_out X rfl rfl ⟨by rw [q_c]; rfl, by rw [q_c]; decide, by rw [q_s]; exact hR⟩
  · skip
    obtain ⟨e1, e2, c2⟩ := e
    subst e1
    rw [e2]
    clear e2
    rw [if_neg c2] at q_v
    rw [if_neg c2] at q_s
    rw [if_neg c2] at q_c
    exact JE_out X rfl rfl ⟨by rw [q_c]; rfl, by rw [q_c]; decide, by rw [q_s]; exact hR⟩
def X_inspect_j46l3 (σ : St) (p1 : Int32) (k11 : Nat) (a11_3 : Int32) (s11 : St) : Int32 := (if (ix (s11 3 (ix (s11 15 (ix (nI k11)))))) = (ix p1) then (if (X_isUnlawful s11 (ix (nI k11))) = (0 : Int32) then a11_3 else (if (s11 0 0) < (nextFine (s11 25 (ix (nI k11)))) then a11_3 else (a11_3 + 1))) else a11_3)
def X_inspect_j46_s (σ : St) (p1 : Int32) (k11 : Nat) (a11_3 : Int32) (s11 : St) : St := (if (ix (s11 3 (ix (s11 15 (ix (nI k11)))))) = (ix p1) then (if (X_isUnlawful s11 (ix (nI k11))) = (0 : Int32) then s11 else (if (s11 0 0) < (nextFine (s11 25 (ix (nI k11)))) then s11 else (X_payFine_s (sS s11 25 (ix (nI k11)) (s11 0 0)) (ix ((sS s11 25 (ix (nI k11)) (s11 0 0)) 14 (ix (nI k11))))))) else s11)
def X_inspect_L11 (σ : St) (p1 : Int32) (K11 : Int32 → St → Int32) : Nat → Nat → Int32 → St → Int32
  | 0, _, a11_3, s11 => K11 a11_3 s11
  | n11 + 1, k11, a11_3, s11 => (X_inspect_L11 σ p1 K11 n11 (k11 + 1) (X_inspect_j46l3 σ p1 k11 a11_3 s11) (X_inspect_j46_s σ p1 k11 a11_3 s11))
def X_inspect_L11_s (σ : St) (p1 : Int32) (K11s : Int32 → St → St) : Nat → Nat → Int32 → St → St
  | 0, _, a11_3, s11 => K11s a11_3 s11
  | n11 + 1, k11, a11_3, s11 => (X_inspect_L11_s σ p1 K11s n11 (k11 + 1) (X_inspect_j46l3 σ p1 k11 a11_3 s11) (X_inspect_j46_s σ p1 k11 a11_3 s11))
def X_inspect_L11_c (σ : St) (p1 : Int32) (K11c : Int32 → St → Int32) : Nat → Nat → Int32 → St → Int32
  | 0, _, a11_3, s11 => K11c a11_3 s11
  | n11 + 1, k11, a11_3, s11 => (X_inspect_L11_c σ p1 K11c n11 (k11 + 1) (X_inspect_j46l3 σ p1 k11 a11_3 s11) (X_inspect_j46_s σ p1 k11 a11_3 s11))
def X_inspect (σ : St) (p1 : Int32) : Int32 := (@ite _ (vp_in p1 4) (Classical.propDecidable _) (X_inspect_L11 σ p1 (fun a11_3 s11 => a11_3) (xL σ 3) 0 (0 : Int32) σ) (0 : Int32))
def X_inspect_s (σ : St) (p1 : Int32) : St := (@ite _ (vp_in p1 4) (Classical.propDecidable _) (X_inspect_L11_s σ p1 (fun a11_3 s11 => s11) (xL σ 3) 0 (0 : Int32) σ) σ)
def X_inspect_c (σ : St) (p1 : Int32) : Int32 := (@ite _ (vp_in p1 4) (Classical.propDecidable _) (X_inspect_L11_c σ p1 (fun a11_3 s11 => (0 : Int32)) (xL σ 3) 0 (0 : Int32) σ) (1 : Int32))
theorem cw_X10_inspect : Cond.instanceMethod yX10_inspect ∈ GW ∧ Cond.selects RX10 yX10_inspect yX10_inspect ∈ GW ∧ Cond.initialized RX10 ∈ GW ∧ Cond.code yX10_inspect cX10_inspect 6 (some .int) ∈ GW ∧ yX10_inspect.cls = RX10 ∧ (yX10_inspect.cls ≠ "java/lang/invoke/MethodHandle" ∧ yX10_inspect.cls ≠ "java/lang/invoke/VarHandle") ∧ (parseMethodDescriptor yX10_inspect.desc).map (fun d => d.parameters.length) = some 1 := ⟨gw_3_138, gw_3_139, gw_1_1, gw_3_140, rfl, ⟨by decide, by decide⟩, by decide +kernel⟩
set_option maxRecDepth 100000 in
set_option maxHeartbeats 4000000 in
theorem c_X_inspect {l : Launch} {D : va_G} {ca : Nat → Nat} {h : fH} {ρ : Nat → Nat → Nat} {μ : Nat → Nat → Int32} {cap : Nat → Nat} {σ : St} (hR : RX ca h ρ μ cap σ) (hI : InvX σ) (p1 : Int32) : FM l D ca yX10_inspect (.code yX10_inspect cX10_inspect 6 (some .int)) { frames := 8, cells := 1, slots := 6, locals := 147 } [.ref (ρ 0 0), .int p1] h (pPub (some (.int (X_inspect σ p1))) (X_inspect_c σ p1) (fun h2 => RX ca h2 ρ μ cap (X_inspect_s σ p1))) (pxX (X_inspect_c σ p1) (fun h2 => RX ca h2 ρ μ cap (X_inspect_s σ p1))) := by
  refine FM.of [some (.ref (ρ 0 0)), some (.int p1), none, none, none, none] (by decide) (Nat.le_of_ble_eq_true rfl) rfl ?_
  rintro K X rfl rfl rfl
  have q_v : (X_inspect σ p1) = (@ite _ (vp_in p1 4) (Classical.propDecidable _) (X_inspect_L11 σ p1 (fun a11_3 s11 => a11_3) (xL σ 3) 0 (0 : Int32) σ) (0 : Int32)) := rfl
  have q_s : (X_inspect_s σ p1) = (@ite _ (vp_in p1 4) (Classical.propDecidable _) (X_inspect_L11_s σ p1 (fun a11_3 s11 => s11) (xL σ 3) 0 (0 : Int32) σ) σ) := rfl
  have q_c : (X_inspect_c σ p1) = (@ite _ (vp_in p1 4) (Classical.propDecidable _) (X_inspect_L11_c σ p1 (fun a11_3 s11 => (0 : Int32)) (xL σ 3) 0 (0 : Int32) σ) (1 : Int32)) := rfl
  refine J_aload_0 X dX10_inspect_0 ?_
  refine J_iload_1 X dX10_inspect_1 ?_
  refine J_callV X (c_zoneOf hR hI p1) (And.intro gw_2_187 cw_X10_zoneOf) hR.root rfl rfl rfl (Nat.le_of_ble_eq_true rfl) dX10_inspect_2 rfl (fun v h2 e => ?_) (fun E h2 e => ?_)
  · skip
    obtain ⟨e1, e2, c2⟩ := e
    subst e1
    rw [e2]
    clear e2
    rw [if_pos c2] at q_v
    rw [if_pos c2] at q_s
    rw [if_pos c2] at q_c
    show J K h [some (.ref (ρ 0 0)), some (.int p1), none, none, none, none] [.ref (ρ 6 (ix p1))] 5 1 6
    refine J_astore_2 X dX10_inspect_5 rfl (by decide) ?_
    refine J_iconst (v := 0) X dX10_inspect_6 rfl ?_
    refine J_istore_3 X dX10_inspect_7 rfl (by decide) ?_
    refine J_iconst (v := 0) X dX10_inspect_8 rfl ?_
    refine J_istore_4 X dX10_inspect_9 rfl (by decide) ?_
    have hle := IX_L hI 3
    obtain ⟨K11, hK11⟩ : ∃ f : Int32 → St → Int32, f = (fun a11_3 s11 => a11_3) := ⟨_, rfl⟩
    obtain ⟨K11s, hK11s⟩ : ∃ f : Int32 → St → St, f = (fun a11_3 s11 => s11) := ⟨_, rfl⟩
    obtain ⟨K11c, hK11c⟩ : ∃ f : Int32 → St → Int32, f = (fun a11_3 s11 => (0 : Int32)) := ⟨_, rfl⟩
    have X11 : ∀ (a11_3 : Int32) (s11 : St) (h11_ : fH) (_ : True), RX (kca K) h11_ ρ μ cap s11 → InvX s11 → s11 13 0 = σ 13 0 → (X_inspect σ p1) = a11_3 → (X_inspect_s σ p1) = s11 → (X_inspect_c σ p1) = (0 : Int32) → J K h11_ [some (.ref (ρ 0 0)), some (.int p1), some (.ref (ρ 6 (ix p1))), some (.int a11_3), none, none] [] 99 1 6 := by
      intro a11_3 s11 h11_ _ hR11_ hI11_ hn11 q_v q_s q_c
      refine J_iload_3 X dX10_inspect_99 ?_
      exact J_iret X rfl rfl ⟨by rw [q_v], by rw [q_c], by rw [q_s]; exact hR11_⟩ dX10_inspect_100
    have L11 : ∀ (n11 k11 : Nat) (a11_3 : Int32) (s11 : St) (h11_ : fH), k11 + n11 = (xL σ 3) → RX (kca K) h11_ ρ μ cap s11 → InvX s11 → s11 13 0 = σ 13 0 → (X_inspect σ p1) = (X_inspect_L11 σ p1 K11 n11 k11 a11_3 s11) → (X_inspect_s σ p1) = (X_inspect_L11_s σ p1 K11s n11 k11 a11_3 s11) → (X_inspect_c σ p1) = (X_inspect_L11_c σ p1 K11c n11 k11 a11_3 s11) → J K h11_ [some (.ref (ρ 0 0)), some (.int p1), some (.ref (ρ 6 (ix p1))), some (.int a11_3), some (.int (nI k11)), none] [] 11 1 6 := by
      intro n11
      induction n11 with
      | zero =>
        intro k11 a11_3 s11 h11_ hk11 hR11_ hI11_ hn11 q_v q_s q_c
        rw [X_inspect_L11] at q_v
        rw [X_inspect_L11_s] at q_s
        rw [X_inspect_L11_c] at q_c
        refine J_iload_4 X dX10_inspect_11 ?_
        refine J_aload_0 X dX10_inspect_13 ?_
        refine J_get X (C := RX10) (T := TX10) (N := 11) (ref := "NightValley") hR11_.root rfl 3 (by decide) rfl in_X10 gw_1_235 (fun _ z => z) dX10_inspect_14 ?_
        refine J_callV X (c_Xsize hR11_ (k := 3) (by omega)) (And.intro gw_2_34 cw_Jx4a65c_size_8abf5) (hR11_.list (by omega)) rfl rfl rfl (Nat.le_of_ble_eq_true rfl) dX10_inspect_17 rfl (J.pi ?_) JE.no
        refine J_icmp_ge (tgt := 99) X dX10_inspect_20 (by decide) (fun _ => ?_) (fun c => absurd (lp_exit (by show nI (ix (s11 13 0)) = nI (ix (σ 13 0)); rw [hn11]) (by omega) hk11) c)
        rw [hK11] at q_v
        rw [hK11s] at q_s
        rw [hK11c] at q_c
        refine J.subL (lv' := [some (.ref (ρ 0 0)), some (.int p1), some (.ref (ρ 6 (ix p1))), some (.int a11_3), none, none]) (And.intro rfl (And.intro rfl (And.intro rfl (And.intro rfl trivial)))) ?_
        exact X11 a11_3 s11 h11_ trivial hR11_ hI11_ hn11 q_v q_s q_c
      | succ n11 ih11 =>
        intro k11 a11_3 s11 h11_ hk11 hR11_ hI11_ hn11 q_v q_s q_c
        rw [X_inspect_L11] at q_v
        rw [X_inspect_L11_s] at q_s
        rw [X_inspect_L11_c] at q_c
        have hlt11 : k11 < (xL σ 3) := by omega
        refine J_iload_4 X dX10_inspect_11 ?_
        refine J_aload_0 X dX10_inspect_13 ?_
        refine J_get X (C := RX10) (T := TX10) (N := 11) (ref := "NightValley") hR11_.root rfl 3 (by decide) rfl in_X10 gw_1_235 (fun _ z => z) dX10_inspect_14 ?_
        refine J_callV X (c_Xsize hR11_ (k := 3) (by omega)) (And.intro gw_2_34 cw_Jx4a65c_size_8abf5) (hR11_.list (by omega)) rfl rfl rfl (Nat.le_of_ble_eq_true rfl) dX10_inspect_17 rfl (J.pi ?_) JE.no
        refine J_icmp_ge (tgt := 99) X dX10_inspect_20 (by decide) (fun c => absurd c (lp_stay (by show nI (ix (s11 13 0)) = nI (ix (σ 13 0)); rw [hn11]) (by omega) hk11)) (fun _ => ?_)
        have hx11 : xL s11 3 = xL σ 3 := by show ix (s11 13 0) = ix (σ 13 0); rw [hn11]
        refine J_aload_0 X dX10_inspect_23 ?_
        refine J_get X (C := RX10) (T := TX10) (N := 11) (ref := "NightValley") hR11_.root rfl 3 (by decide) rfl in_X10 gw_1_235 (fun _ z => z) dX10_inspect_24 ?_
        refine J_iload_4 X dX10_inspect_27 ?_
        refine J_callV X (c_Xget hR11_ (k := 3) (by omega) (vp_in_nI (N := (xL s11 3)) (by omega) (by omega))) (And.intro gw_2_104 cw_Jx4a65c_get_915e3) (hR11_.list (by omega)) rfl rfl rfl (Nat.le_of_ble_eq_true rfl) dX10_inspect_29 rfl (J.pa ?_) JE.no
        refine J_cast X (C := RX2) (T := TX2) (N := 12) (hR11_.lamp (vp_lt (vp_in_nI (N := (xL s11 3)) (by omega) (by omega)))) rfl gw_2_118 dX10_inspect_32 ?_
        refine J_astore_5 X dX10_inspect_35 rfl (by decide) ?_
        refine J_aload_5 X dX10_inspect_37 ?_
        refine J_get X (C := RX2) (T := TX2) (N := 12) (ref := "NightValley$Lamp") (hR11_.lamp (vp_lt (vp_in_nI (N := (xL s11 3)) (by omega) (by omega)))) rfl 1 (by decide) rfl in_X2 gw_3_59 (fun _ z => z) dX10_inspect_39 ?_
        refine J_get X (C := RX4) (T := TX4) (N := 4) (ref := "NightValley$Place") (hR11_.place (IX_place hI11_ _)) rfl 2 (by decide) rfl in_X4 gw_1_219 (fun _ z => z) dX10_inspect_42 ?_
        refine J_aload_2 X dX10_inspect_45 ?_
        have K46_93 : ∀ (v46_0 : Int32), v46_0 = (X_inspect_j46l3 σ p1 k11 a11_3 s11) → ∀ hj1 : fH, RX (kca K) hj1 ρ μ cap (X_inspect_j46_s σ p1 k11 a11_3 s11) → J K hj1 [some (.ref (ρ 0 0)), some (.int p1), some (.ref (ρ 6 (ix p1))), some (.int v46_0), some (.int (nI k11)), some (.ref (ρ 10 (ix (nI k11))))] [] 93 1 6 := by
          intro v46_0 ev46_0
          try rw [ev46_0]
          clear ev46_0
          intro hj1 hRj1
          have hI1 : InvX (X_inspect_j46_s σ p1 k11 a11_3 s11) := (by unfold X_inspect_j46_s; (repeat' split) <;> first | exact hI11_ | exact X_pay_inv (InvX_sS hI11_ (Or.inr (hI11_.1 0 0)) trivial) (IX_own hI11_ (vp_lt (vp_in_nI (N := xL s11 3) (by omega) (by omega)))))
          refine J_iinc_4 (v := (nI (k11 + 1))) X dX10_inspect_93 (nI_1 _) rfl (by decide) ?_
          refine J_goto (tgt := 11) X dX10_inspect_96 (by decide) ?_
          refine J.subL (lv' := [some (.ref (ρ 0 0)), some (.int p1), some (.ref (ρ 6 (ix p1))), some (.int (X_inspect_j46l3 σ p1 k11 a11_3 s11)), some (.int (nI (k11 + 1))), none]) (And.intro rfl (And.intro rfl (And.intro rfl (And.intro rfl (And.intro rfl trivial))))) ?_
          exact ih11 (k11 + 1) (X_inspect_j46l3 σ p1 k11 a11_3 s11) (X_inspect_j46_s σ p1 k11 a11_3 s11) hj1 (by omega) hRj1 hI1 (by unfold X_inspect_j46_s; (repeat' split) <;> exact hn11) q_v q_s q_c
        have j46_0 : X_inspect_j46l3 σ p1 k11 a11_3 s11 = (if (ix (s11 3 (ix (s11 15 (ix (nI k11)))))) = (ix p1) then (if (X_isUnlawful s11 (ix (nI k11))) = (0 : Int32) then a11_3 else (if (s11 0 0) < (nextFine (s11 25 (ix (nI k11)))) then a11_3 else (a11_3 + 1))) else a11_3) := rfl
        have j46_1 : X_inspect_j46_s σ p1 k11 a11_3 s11 = (if (ix (s11 3 (ix (s11 15 (ix (nI k11)))))) = (ix p1) then (if (X_isUnlawful s11 (ix (nI k11))) = (0 : Int32) then s11 else (if (s11 0 0) < (nextFine (s11 25 (ix (nI k11)))) then s11 else (X_payFine_s (sS s11 25 (ix (nI k11)) (s11 0 0)) (ix ((sS s11 25 (ix (nI k11)) (s11 0 0)) 14 (ix (nI k11))))))) else s11) := rfl
        refine J_acmp_ne (tgt := 93) X dX10_inspect_46 (by decide) (fun c46 => ?_) (fun c46 => ?_)
        · skip
          have c46 : ¬ ((ix (s11 3 (ix (s11 15 (ix (nI k11)))))) = (ix p1)) := fun z => c46 ((hR11_.zone_eq (IX_zone hI11_ _) (vp_lt c2)).mpr z)
          rw [if_neg c46] at j46_0
          rw [if_neg c46] at j46_1
          exact K46_93 _ j46_0.symm _ (by rw [j46_1]; exact hR11_)
        · skip
          have c46 := (hR11_.zone_eq (IX_zone hI11_ _) (vp_lt c2)).mp c46
          rw [if_pos c46] at j46_0
          rw [if_pos c46] at j46_1
          refine J_aload_5 X dX10_inspect_49 ?_
          refine J_callV X (c_X_isUnlawful hR11_ hI11_ (ix (nI k11)) (vp_lt (vp_in_nI (N := (xL s11 3)) (by omega) (by omega)))) (And.intro gw_3_141 cw_X2_isUnlawful) (hR11_.lamp (vp_lt (vp_in_nI (N := (xL s11 3)) (by omega) (by omega)))) rfl rfl rfl (Nat.le_of_ble_eq_true rfl) dX10_inspect_51 rfl (J.pi ?_) JE.no
          refine J_if_eq (tgt := 93) X dX10_inspect_54 (by decide) (fun c54 => ?_) (fun c54 => ?_)
          · skip
            rw [if_pos c54] at j46_0
            rw [if_pos c54] at j46_1
            exact K46_93 _ j46_0.symm _ (by rw [j46_1]; exact hR11_)
          · skip
            rw [if_neg c54] at j46_0
            rw [if_neg c54] at j46_1
            refine J_aload_0 X dX10_inspect_57 ?_
            refine J_get X (C := RX10) (T := TX10) (N := 11) (ref := "NightValley") hR11_.root rfl 9 (by decide) rfl in_X10 gw_2_1 (fun _ z => z) dX10_inspect_58 ?_
            refine J_aload_5 X dX10_inspect_61 ?_
            refine J_get X (C := RX2) (T := TX2) (N := 12) (ref := "NightValley$Lamp") (hR11_.lamp (vp_lt (vp_in_nI (N := (xL s11 3)) (by omega) (by omega)))) rfl 11 (by decide) rfl in_X2 gw_3_75 (fun _ z => z) dX10_inspect_63 ?_
            refine J_icmp_lt (tgt := 93) X dX10_inspect_66 (by decide) (fun c66 => ?_) (fun c66 => ?_)
            · skip
              rw [if_pos c66] at j46_0
              rw [if_pos c66] at j46_1
              exact K46_93 _ j46_0.symm _ (by rw [j46_1]; exact hR11_)
            · skip
              rw [if_neg c66] at j46_0
              rw [if_neg c66] at j46_1
              refine J_aload_5 X dX10_inspect_69 ?_
              refine J_aload_0 X dX10_inspect_71 ?_
              refine J_get X (C := RX10) (T := TX10) (N := 11) (ref := "NightValley") hR11_.root rfl 9 (by decide) rfl in_X10 gw_2_1 (fun _ z => z) dX10_inspect_72 ?_
              refine J_sipush (v := (720 : Int32)) X dX10_inspect_75 (by decide) ?_
              refine J_iadd X dX10_inspect_78 ?_
              refine JX_p10_11 X hR11_ (i := (ix (nI k11))) (vp_lt (vp_in_nI (N := (xL s11 3)) (by omega) (by omega))) (v := (s11 0 0)) (IX_nf hI11_) gw_3_75 dX10_inspect_79 (fun h2 hR2 => ?_)
              have hI2 : InvX (sS s11 25 (ix (nI k11)) (s11 0 0)) := (InvX_sS hI11_ (Or.inr (hI11_.1 0 0)) trivial)
              refine J_aload_5 X dX10_inspect_82 ?_
              refine J_get X (C := RX2) (T := TX2) (N := 12) (ref := "NightValley$Lamp") (hR2.lamp (vp_lt (vp_in_nI (N := (xL s11 3)) (by omega) (by omega)))) rfl 0 (by decide) rfl in_X2 gw_3_57 (fun _ z => z) dX10_inspect_84 ?_
              refine J_callV X (c_X_payFine hR2 (ix ((sS s11 25 (ix (nI k11)) (s11 0 0)) 14 (ix (nI k11)))) (IX_own hI2 (vp_lt (vp_in_nI (N := (xL s11 3)) (by omega) (by omega))))) (And.intro gw_3_145 cw_X7_payFine) (hR2.village (IX_own hI2 (vp_lt (vp_in_nI (N := (xL s11 3)) (by omega) (by omega))))) rfl rfl rfl (Nat.le_of_ble_eq_true rfl) dX10_inspect_87 rfl (J.pvm (fun h3 hR3 => ?_)) JE.no
              refine J_iinc_3 (v := (a11_3 + 1)) X dX10_inspect_90 rfl rfl (by decide) ?_
              exact K46_93 _ j46_0.symm _ (by rw [j46_1]; exact hR3)
    have q_v : (X_inspect σ p1) = (X_inspect_L11 σ p1 K11 (xL σ 3) 0 (0 : Int32) σ) := by rw [hK11]; exact q_v
    have q_s : (X_inspect_s σ p1) = (X_inspect_L11_s σ p1 K11s (xL σ 3) 0 (0 : Int32) σ) := by rw [hK11s]; exact q_s
    have q_c : (X_inspect_c σ p1) = (X_inspect_L11_c σ p1 K11c (xL σ 3) 0 (0 : Int32) σ) := by rw [hK11c]; exact q_c
    exact L11 (xL σ 3) 0 (0 : Int32) σ h (Nat.zero_add _) hR hI rfl q_v q_s q_c
  · skip
    obtain ⟨e1, e2, c2⟩ := e
    subst e1
    rw [e2]
    clear e2
    rw [if_neg c2] at q_v
    rw [if_neg c2] at q_s
    rw [if_neg c2] at q_c
    exact JE_out X rfl rfl ⟨by rw [q_c]; rfl, by rw [q_c]; decide, by rw [q_s]; exact hR⟩
end
