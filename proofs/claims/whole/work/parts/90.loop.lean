noncomputable section
theorem and31 (x : Int32) : ∃ k, k < 32 ∧ x &&& 31 = nI k := by
  refine ⟨x.toBitVec.toNat % 32, Nat.mod_lt _ (by decide), ?_⟩
  apply Int32.toBitVec_inj.mp
  apply BitVec.eq_of_toNat_eq
  have h1 : (x &&& 31).toBitVec = x.toBitVec &&& 31#32 := rfl
  have h2 : (nI (x.toBitVec.toNat % 32)).toBitVec = BitVec.ofNat 32 (x.toBitVec.toNat % 32) := rfl
  rw [h1, h2, BitVec.toNat_and, show (31#32).toNat = 2 ^ 5 - 1 from rfl, Nat.and_two_pow_sub_one_eq_mod, BitVec.toNat_ofNat]
  omega
theorem len6 {L i : Nat} (hL : L ≤ 3072) (hi : i ≤ 3072) : nI L - 6 < nI i ↔ L < i + 6 := by
  rw [Int32.lt_iff_toInt_lt, show (6 : Int32) = nI 6 from rfl, pk_sub_toInt (by omega) (by omega), nI_toInt (by omega)]
  omega
theorem isInit_σI : isInit σI := by
  refine ⟨fun k _ h4 h5 => ?_, fun z hz => ?_⟩
  · unfold σI
    rw [sS_col h5, sS_col h4, sS_col h5, sS_col h4, sS_col h5, sS_col h4, sS_col h5, sS_col h4]
    rfl
  · match z with
    | 0 => exact ⟨by decide, by decide⟩
    | 1 => exact ⟨by decide, by decide⟩
    | 2 => exact ⟨by decide, by decide⟩
    | 3 => exact ⟨by decide, by decide⟩
    | z + 4 => omega
theorem InvX_σz : InvX σz := by
  have h0 : ∀ n, 0 < n → vp_in (0 : Int32) n := fun n hn z => z.elim (fun w => absurd w (by decide)) (fun w => by
    have : (0 : Int32).toNatClampNeg = 0 := rfl
    omega)
  refine ⟨fun k i => ?_, fun i hi => absurd hi (Nat.not_lt_zero i), fun i hi => absurd hi (Nat.not_lt_zero i), fun _ _ => ⟨rfl, rfl, rfl, rfl⟩, fun _ _ => ⟨rfl, rfl⟩, fun _ _ => ⟨rfl, rfl⟩⟩
  show cOK k 0
  unfold cOK
  split <;> first | exact h0 _ (by decide) | exact Or.inl rfl | exact Or.inr (h0 _ (by decide)) | trivial
theorem InvX_σI : InvX σI := by
  have a : cOK 4 24 := vp_in_nI (n := 24) (N := 25) (by decide) (by decide)
  have b : cOK 5 2 := vp_in_nI (n := 2) (N := 3) (by decide) (by decide)
  unfold σI
  exact InvX_sS (InvX_sS (InvX_sS (InvX_sS (InvX_sS (InvX_sS (InvX_sS (InvX_sS InvX_σz a trivial) b trivial) a trivial) b trivial) a trivial) b trivial) a trivial) b trivial
theorem InvO_σI : InvO σI := fun v => by
  have h : σI 13 = fun _ => 0 := isInit_σI.1 13 (by decide) (by decide) (by decide)
  rw [h]
  exact Nat.le_of_ble_eq_true rfl
theorem fU_un {h : fH} {a : Nat} {e : va_E} (ha : h a = none) : fU h a e = un (one a e) h := by
  funext q
  by_cases w : q = a
  · rw [w, fU_same, un_l (one_same a e)]
  · rw [fU_ne w, un_r (one_ne w)]
theorem law_begin {K : KT} {mn : String} {tb : List ExceptionTableEntry} {w0 : Cond} {h0 : fH} (X : JX K mn "NightValleyLaw" cL_law_ 8 (some .boolean) tb w0 room_1 h0 (fun v _ => v = some (.int 1)) noX) {b : Nat} (k : ∀ (r m o : Nat) (hx hm : fH) (g : Nat → Int64), LI (kca K) r m o hx hm σI → J K (un hx (un hm (one o (oc (kca K) g)))) [some (.ref b), some (.ref r), some (.ref m), some (.ref o), some (.int (nI 0)), none, none, none] [] 23 189 16298) : J K (fun _ => none) [some (.ref b), none, none, none, none, none, none, none] [] 0 0 0 := by
  refine J_new X (C := RX10) (T := TX10) (N := 11) (ci := 11) (fs := [.null, .null, .null, .null, .null, .null, .null, .null, .null, .int 0, .int 0]) rfl in_X10 tyX10 tyX10_ok gw_1_28 gw_1_29 gw_1_1 (by
      intro j hj
      match j with
      | 0 => rfl
      | 1 => rfl
      | 2 => rfl
      | 3 => rfl
      | 4 => rfl
      | 5 => rfl
      | 6 => rfl
      | 7 => rfl
      | 8 => rfl
      | 9 => rfl
      | 10 => rfl
      | k + 11 => exact absurd hj (by omega)) rfl dL_law__0 (fun r hr => ?_)
  refine J_dup X dL_law__3 rfl ?_
  refine J_callI X (c_newNV (fU_same _ _ _)) (And.intro gw_1_30 cw_X10_init) rfl rfl (Nat.le_of_ble_eq_true rfl) dL_law__4 rfl (fun v hx e => ?_) (fun E h' e => e.elim)
  obtain ⟨e0, ρ, μ, cap, hCX⟩ := e
  subst e0
  show J K hx _ [.ref r] 7 155 11331
  refine J_astore_1 X dL_law__7 rfl (by decide) ?_
  refine J_new X (C := RX11) (T := TX11) (N := 42) (ci := 12) (fs := [.int 0, .int 0, .null, .null, .null, .null, .null, .null, .int 0, .null, .null, .null, .null, .int 0, .null, .null, .null, .null, .null, .null, .null, .null, .null, .null, .null, .null, .int 0, .null, .null, .null, .null, .null, .null, .null, .int 0, .int 0, .int 0, .int 0, .null, .null, .null, .int 0]) rfl in_X11 tyX11 tyX11_ok gw_5_4 gw_5_5 gw_1_14 (by
      intro j hj
      match j with
      | 0 => rfl
      | 1 => rfl
      | 2 => rfl
      | 3 => rfl
      | 4 => rfl
      | 5 => rfl
      | 6 => rfl
      | 7 => rfl
      | 8 => rfl
      | 9 => rfl
      | 10 => rfl
      | 11 => rfl
      | 12 => rfl
      | 13 => rfl
      | 14 => rfl
      | 15 => rfl
      | 16 => rfl
      | 17 => rfl
      | 18 => rfl
      | 19 => rfl
      | 20 => rfl
      | 21 => rfl
      | 22 => rfl
      | 23 => rfl
      | 24 => rfl
      | 25 => rfl
      | 26 => rfl
      | 27 => rfl
      | 28 => rfl
      | 29 => rfl
      | 30 => rfl
      | 31 => rfl
      | 32 => rfl
      | 33 => rfl
      | 34 => rfl
      | 35 => rfl
      | 36 => rfl
      | 37 => rfl
      | 38 => rfl
      | 39 => rfl
      | 40 => rfl
      | 41 => rfl
      | k + 42 => exact absurd hj (by omega)) rfl dL_law__8 (fun m hm0 => ?_)
  refine J_dup X dL_law__11 rfl ?_
  rw [fU_un hm0]
  refine J_callI X ((c_newModel (one_same m _)).frame (apart_one hm0).sym) (And.intro gw_5_6 cw_X11_init) rfl rfl (Nat.le_of_ble_eq_true rfl) dL_law__12 rfl (fun v h2 e => ?_) (fun E h' e => by obtain ⟨_, e, _⟩ := e; exact e.elim)
  obtain ⟨hm, ⟨e0, ρm, hRM⟩, hap, e⟩ := e
  subst e0
  subst e
  show J K _ _ [.ref m] 15 188 16297
  refine J_astore_2 X dL_law__15 rfl (by decide) ?_
  refine J_iconst (v := 1) X dL_law__16 rfl ?_
  refine J_newL X (N := 1) (by decide) (by decide) (by decide) rfl dL_law__17 (fun o ho => ?_)
  refine J_astore_3 X dL_law__19 rfl (by decide) ?_
  refine J_iconst (v := 0) X dL_law__20 rfl ?_
  refine J_istore_4 X dL_law__21 rfl (by decide) ?_
  have hm1 : hm o = none := by
    cases q : hm o with
    | none => rfl
    | some y => rw [un_l q] at ho; cases ho
  have hx1 : hx o = none := by
    rw [un_r hm1] at ho
    exact ho
  have e3 : fU (un hm hx) o (oc (kca K) (fun _ => 0)) = un hx (un hm (one o (oc (kca K) (fun _ => 0)))) := by
    rw [fU_un ho, un_comm (apart_one ho).sym, un_comm hap, un_assoc]
  show J K (fU (un hm hx) o (oc (kca K) (fun _ => 0))) _ _ _ _ _
  rw [e3]
  exact k r m o hx hm _ ⟨hCX.done isInit_σI, ⟨ρm, hRM⟩, InvX_σI, InvO_σI, hap.sym, hx1, hm1⟩
theorem law_loop {K : KT} {mn : String} {tb : List ExceptionTableEntry} {w0 : Cond} {h0 : fH} (X : JX K mn "NightValleyLaw" cL_law_ 8 (some .boolean) tb w0 room_1 h0 (fun v _ => v = some (.int 1)) noX) {b L r m o : Nat} {xs : Nat → Int32} (hX : va_X b L xs (ks K) (ks K).heap) (hbl : b < (ks K).heap.size) (hbA : ¬ kA K b) (hL : L ≤ 3072) : ∀ (n i : Nat) (hx hm : fH) (g : Nat → Int64) (σ : St) (cells slots : Nat), L < i + 6 * n + 6 → i ≤ 3072 → cells + 8 * n ≤ 601024 → slots + 148 * n ≤ 7293034 → LI (kca K) r m o hx hm σ →
    J K (un hx (un hm (one o (oc (kca K) g)))) [some (.ref b), some (.ref r), some (.ref m), some (.ref o), some (.int (nI i)), none, none, none] [] 23 cells slots := by
  intro n
  induction n with
  | zero =>
    intro i hx hm g σ cells slots h1 h2 h3 h4 hLI
    refine J_iload_4 X dL_law__23 ?_
    refine J_aload_0 X dL_law__25 ?_
    refine J_slen X hX hbl hbA dL_law__26 ?_
    refine J_bipush (v := 6) X dL_law__27 (by decide) ?_
    refine J_isub X dL_law__29 ?_
    refine J_icmp_gt (tgt := 2316) X dL_law__30 (by decide) (fun _ => ?_) (fun c => absurd ((len6 hL h2).mpr (by omega)) c)
    refine J_iconst (v := 1) X dL_law__2316 rfl ?_
    exact J_zret X rfl (Or.inr rfl) (hroom2 (show cells ≤ 601024 by omega) (show slots ≤ 7293034 by omega)) rfl dL_law__2317
  | succ n ih =>
    intro i hx hm g σ cells slots h1 h2 h3 h4 hLI
    refine J_iload_4 X dL_law__23 ?_
    refine J_aload_0 X dL_law__25 ?_
    refine J_slen X hX hbl hbA dL_law__26 ?_
    refine J_bipush (v := 6) X dL_law__27 (by decide) ?_
    refine J_isub X dL_law__29 ?_
    refine J_icmp_gt (tgt := 2316) X dL_law__30 (by decide) (fun _ => ?_) (fun c => ?_)
    · refine J_iconst (v := 1) X dL_law__2316 rfl ?_
      exact J_zret X rfl (Or.inr rfl) (hroom2 (show cells ≤ 601024 by omega) (show slots ≤ 7293034 by omega)) rfl dL_law__2317
    · have h5 : ¬ L < i + 6 := fun z => c ((len6 hL h2).mpr z)
      have h6 : i + 6 ≤ L := by omega
      have S : LSc K b L i xs := ⟨hX, hbl, hbA, hL, h6⟩
      refine J_aload_0 X dL_law__33 ?_
      refine J_iload_4 X dL_law__34 ?_
      refine J_sld X hX hbl hbA (vp_in_nI (by omega) (by omega)) rfl dL_law__36 ?_
      refine J_bipush (v := 31) X dL_law__37 (by decide) ?_
      refine J_iand X dL_law__39 ?_
      have KN : ∀ (hx' hm' : fH) (g' : Nat → Int64) (σ' : St), LI (kca K) r m o hx' hm' σ' → J K (un hx' (un hm' (one o (oc (kca K) g')))) [some (.ref b), some (.ref r), some (.ref m), some (.ref o), some (.int (nI i)), none, none, none] [] 2310 (cells + 8) (slots + 148) := by
        intro hx' hm' g' σ' hLI'
        refine J_iinc_4 X (v := nI (i + 6)) dL_law__2310 (by rw [← nI_add]; rfl) rfl (by decide) ?_
        refine J_goto (tgt := 23) X dL_law__2313 (by decide) ?_
        exact ih (i + 6) hx' hm' g' σ' _ _ (by omega) (by omega) (by omega) (by omega) hLI'
      obtain ⟨k, hk, e⟩ := and31 (xs (nI i).toNatClampNeg)
      refine J.eqi e ?_
      clear e
      match k, hk with
      | 0, _ => exact J_tabIn (x := nI 0) (tgt := 184) X dL_law__40 (by decide) (by decide) rfl (by decide) (LC_ridge X S hx hm g σ cells slots hLI (by omega) (by omega) KN)
      | 1, _ => exact J_tabIn (x := nI 1) (tgt := 275) X dL_law__40 (by decide) (by decide) rfl (by decide) (LC_zone X S hx hm g σ cells slots hLI (by omega) (by omega) KN)
      | 2, _ => exact J_tabIn (x := nI 2) (tgt := 343) X dL_law__40 (by decide) (by decide) rfl (by decide) (LC_law X S hx hm g σ cells slots hLI (by omega) (by omega) KN)
      | 3, _ => exact J_tabIn (x := nI 3) (tgt := 415) X dL_law__40 (by decide) (by decide) rfl (by decide) (LC_feast X S hx hm g σ cells slots hLI (by omega) (by omega) KN)
      | 4, _ => exact J_tabIn (x := nI 4) (tgt := 483) X dL_law__40 (by decide) (by decide) rfl (by decide) (LC_air X S hx hm g σ cells slots hLI (by omega) (by omega) KN)
      | 5, _ => exact J_tabIn (x := nI 5) (tgt := 539) X dL_law__40 (by decide) (by decide) rfl (by decide) (LC_pass X S hx hm g σ cells slots hLI (by omega) (by omega) KN)
      | 6, _ => exact J_tabIn (x := nI 6) (tgt := 595) X dL_law__40 (by decide) (by decide) rfl (by decide) (LC_village X S hx hm g σ cells slots hLI (by omega) (by omega) KN)
      | 7, _ => exact J_tabIn (x := nI 7) (tgt := 663) X dL_law__40 (by decide) (by decide) rfl (by decide) (LC_lamp X S hx hm g σ cells slots hLI (by omega) (by omega) KN)
      | 8, _ => exact J_tabIn (x := nI 8) (tgt := 767) X dL_law__40 (by decide) (by decide) rfl (by decide) (LC_hours X S hx hm g σ cells slots hLI (by omega) (by omega) KN)
      | 9, _ => exact J_tabIn (x := nI 9) (tgt := 827) X dL_law__40 (by decide) (by decide) rfl (by decide) (LC_exempt X S hx hm g σ cells slots hLI (by omega) (by omega) KN)
      | 10, _ => exact J_tabIn (x := nI 10) (tgt := 918) X dL_law__40 (by decide) (by decide) rfl (by decide) (LC_outage X S hx hm g σ cells slots hLI (by omega) (by omega) KN)
      | 11, _ => exact J_tabIn (x := nI 11) (tgt := 986) X dL_law__40 (by decide) (by decide) rfl (by decide) (LC_vote X S hx hm g σ cells slots hLI (by omega) (by omega) KN)
      | 12, _ => exact J_tabIn (x := nI 12) (tgt := 1090) X dL_law__40 (by decide) (by decide) rfl (by decide) (LC_inspect X S hx hm g σ cells slots hLI (by omega) (by omega) KN)
      | 13, _ => exact J_tabIn (x := nI 13) (tgt := 1146) X dL_law__40 (by decide) (by decide) rfl (by decide) (LC_meter X S hx hm g σ cells slots hLI (by omega) (by omega) KN)
      | 14, _ => exact J_tabIn (x := nI 14) (tgt := 1226) X dL_law__40 (by decide) (by decide) rfl (by decide) (LC_read X S hx hm g σ cells slots hLI (by omega) (by omega) KN)
      | 15, _ => exact J_tabIn (x := nI 15) (tgt := 1282) X dL_law__40 (by decide) (by decide) rfl (by decide) (LC_tell X S hx hm g σ cells slots hLI (by omega) (by omega) KN)
      | 16, _ => exact J_tabIn (x := nI 16) (tgt := 1350) X dL_law__40 (by decide) (by decide) rfl (by decide) (LC_audit X S hx hm g σ cells slots hLI (by omega) (by omega) KN)
      | 17, _ => exact J_tabIn (x := nI 17) (tgt := 1413) X dL_law__40 (by decide) (by decide) rfl (by decide) (LC_satellite X S hx hm g σ cells slots hLI (by omega) (by omega) KN)
      | 18, _ => exact J_tabIn (x := nI 18) (tgt := 1481) X dL_law__40 (by decide) (by decide) rfl (by decide) (LC_time X S hx hm g σ cells slots hLI (by omega) (by omega) KN)
      | 19, _ => exact J_tabIn (x := nI 19) (tgt := 1494) X dL_law__40 (by decide) (by decide) rfl (by decide) (LC_ofLamp X S hx hm g σ cells slots hLI (by omega) (by omega) KN)
      | 20, _ => exact J_tabIn (x := nI 20) (tgt := 1562) X dL_law__40 (by decide) (by decide) rfl (by decide) (LC_ofVillage X S hx hm g σ cells slots hLI (by omega) (by omega) KN)
      | 21, _ => exact J_tabIn (x := nI 21) (tgt := 1630) X dL_law__40 (by decide) (by decide) rfl (by decide) (LC_gives X S hx hm g σ cells slots hLI (by omega) (by omega) KN)
      | 22, _ => exact J_tabIn (x := nI 22) (tgt := 1698) X dL_law__40 (by decide) (by decide) rfl (by decide) (LC_glow X S hx hm g σ cells slots hLI (by omega) (by omega) KN)
      | 23, _ => exact J_tabIn (x := nI 23) (tgt := 1754) X dL_law__40 (by decide) (by decide) rfl (by decide) (LC_glowFrom X S hx hm g σ cells slots hLI (by omega) (by omega) KN)
      | 24, _ => exact J_tabIn (x := nI 24) (tgt := 1822) X dL_law__40 (by decide) (by decide) rfl (by decide) (LC_ground X S hx hm g σ cells slots hLI (by omega) (by omega) KN)
      | 25, _ => exact J_tabIn (x := nI 25) (tgt := 1878) X dL_law__40 (by decide) (by decide) rfl (by decide) (LC_way X S hx hm g σ cells slots hLI (by omega) (by omega) KN)
      | 26, _ => exact J_tabIn (x := nI 26) (tgt := 1958) X dL_law__40 (by decide) (by decide) rfl (by decide) (LC_ofReading X S hx hm g σ cells slots hLI (by omega) (by omega) KN)
      | 27, _ => exact J_tabIn (x := nI 27) (tgt := 2038) X dL_law__40 (by decide) (by decide) rfl (by decide) (LC_trend X S hx hm g σ cells slots hLI (by omega) (by omega) KN)
      | 28, _ => exact J_tabIn (x := nI 28) (tgt := 2093) X dL_law__40 (by decide) (by decide) rfl (by decide) (LC_isHeld X S hx hm g σ cells slots hLI (by omega) (by omega) KN)
      | 29, _ => exact J_tabIn (x := nI 29) (tgt := 2106) X dL_law__40 (by decide) (by decide) rfl (by decide) (LC_trails X S hx hm g σ cells slots hLI (by omega) (by omega) KN)
      | 30, _ => exact J_tabIn (x := nI 30) (tgt := 2174) X dL_law__40 (by decide) (by decide) rfl (by decide) (LC_culprit X S hx hm g σ cells slots hLI (by omega) (by omega) KN)
      | 31, _ => exact J_tabIn (x := nI 31) (tgt := 2230) X dL_law__40 (by decide) (by decide) rfl (by decide) (LC_plan X S hx hm g σ cells slots hLI (by omega) (by omega) KN)
      | k + 32, h => exact absurd h (by omega)
end
