noncomputable section
theorem isInit_σI : isInit σI := by
  refine ⟨fun k _ h4 h5 => ?_, fun z hz => ?_⟩
  · unfold σI
    rw [sS_col h5, sS_col h4, sS_col h5, sS_col h4, sS_col h5, sS_col h4, sS_col h5, sS_col h4]
    rfl
  · match z with
    | 0 => exact ⟨by decide, by decide⟩
    | 1 => exact ⟨by decide, by decide⟩
    | 2 => exact ⟨by decide, by decide⟩
    | 3 => exact ⟨by decide, by decide⟩
    | z + 4 => omega
theorem InvX_σz : InvX σz := by
  have h0 : ∀ n, 0 < n → vp_in (0 : Int32) n := fun n hn z => z.elim (fun w => absurd w (by decide)) (fun w => by
    have : (0 : Int32).toNatClampNeg = 0 := rfl
    omega)
  refine ⟨fun k i => ?_, fun i hi => absurd hi (Nat.not_lt_zero i), fun i hi => absurd hi (Nat.not_lt_zero i), fun _ _ => ⟨rfl, rfl, rfl, rfl⟩, fun _ _ => ⟨rfl, rfl⟩, fun _ _ => ⟨rfl, rfl⟩⟩
  show cOK k 0
  unfold cOK
  split <;> first | exact h0 _ (by decide) | exact Or.inl rfl | exact Or.inr (h0 _ (by decide)) | trivial
theorem InvX_σI : InvX σI := by
  have a : cOK 4 24 := vp_in_nI (n := 24) (N := 25) (by decide) (by decide)
  have b : cOK 5 2 := vp_in_nI (n := 2) (N := 3) (by decide) (by decide)
  unfold σI
  exact InvX_sS (InvX_sS (InvX_sS (InvX_sS (InvX_sS (InvX_sS (InvX_sS (InvX_sS InvX_σz a trivial) b trivial) a trivial) b trivial) a trivial) b trivial) a trivial) b trivial
theorem InvO_σI : InvO σI := fun v => by
  have h : σI 13 = fun _ => 0 := isInit_σI.1 13 (by decide) (by decide) (by decide)
  rw [h]
  exact Nat.le_of_ble_eq_true rfl
theorem pl_no (h : vp_in (64 : Int32) 64) : False := absurd (vp_lt h) (by decide)
theorem z13 : σI 13 0 = 0 := by rw [isInit_σI.1 13 (by decide) (by decide) (by decide)]
theorem z8 : σI 8 0 = 0 := by rw [isInit_σI.1 8 (by decide) (by decide) (by decide)]
theorem nolamp : M_isLamp σI 0 = 0 := (lamp_iff InvX_σI).mpr fun z => by
  have := vp_lt z
  rw [z13] at this
  exact absurd this (by decide)
theorem novil : M_isVillage σI 0 = 0 := (village_iff InvX_σI).mpr fun z => by
  have := vp_lt z
  rw [z8] at this
  exact absurd this (by decide)
theorem init_0 : DV_0 σI 64 0 = -3000000 ∧ sEq σI (M_zone_s σI 64 0) := by
  have hj : M_zone_j5 σI 64 0 = 1 := by
    unfold M_zone_j5
    exact if_pos (place_iff.mpr pl_no)
  have e : M_zone_s σI 64 0 = M_fails_s σI 1 := by
    unfold M_zone_s
    rw [hj, if_neg (nf1 σI)]
  unfold DV_0
  rw [e, f41, if_neg i10]
  exact ⟨rfl, (sEq.f σI 1).symm⟩
theorem init_4 : DV_4 σI 501 = -2000000 ∧ sEq σI (M_pass_s σI 501) := by
  have hj : M_pass_j9 σI 501 = 1 := by
    unfold M_pass_j9
    exact if_pos (by decide)
  have e : M_pass_s σI 501 = M_fails_s σI 1 := by
    unfold M_pass_s
    rw [hj, if_neg (nf1 σI)]
  unfold DV_4
  rw [e, f41, if_neg i10, if_pos rfl]
  exact ⟨rfl, (sEq.f σI 1).symm⟩
theorem init_6 : DV_6 σI 0 0 0 0 0 = -3000000 ∧ sEq σI (M_lamp_s σI 0 0 0 0 0) := by
  have hj : M_lamp_j64 σI 0 0 0 0 0 = 1 := by
    unfold M_lamp_j64 M_lamp_j44
    rw [if_pos novil, if_pos rfl]
  have e : M_lamp_s σI 0 0 0 0 0 = M_fails_s σI 1 := by
    unfold M_lamp_s
    rw [hj, if_neg (nf1 σI)]
  unfold DV_6
  rw [e, f41, if_neg i10, if_pos rfl]
  exact ⟨rfl, (sEq.f σI 1).symm⟩
theorem init_9 : DV_9 σI 0 0 0 0 0 = -3000000 ∧ sEq σI (M_vote_s σI 0 0 0 0 0) := by
  have hj : M_vote_j117 σI 0 0 0 0 0 = 1 := by
    unfold M_vote_j117
    exact if_pos nolamp
  have e : M_vote_s σI 0 0 0 0 0 = M_fails_s σI 1 := by
    unfold M_vote_s
    rw [hj, if_neg (nf1 σI)]
  unfold DV_9
  rw [e, f41, if_neg i10, if_pos rfl]
  exact ⟨rfl, (sEq.f σI 1).symm⟩
theorem init_16 : DV_16 σI 0 0 (-1) = -2000000 := by
  have h0 : vp_in (0 : Int32) 64 := vp_in_nI (n := 0) (by decide) (by decide)
  have j4 : M_way_j4 σI 0 0 (-1) = 1 := by
    unfold M_way_j4
    rw [if_neg (fun z => place_iff.mp z h0), if_neg (fun z => place_iff.mp z h0)]
  have hj : M_way_j24 σI 0 0 (-1) = 2 := by
    unfold M_way_j24
    rw [j4, if_neg i10, if_pos (by decide)]
  unfold DV_16 M_way_s
  rw [hj, if_neg (nf2 σI), f41, if_neg n20, if_neg n21]
theorem init_18 : DV_18 σI 0 0 0 = -3000000 := by
  have hj : M_plan_j25 σI 0 0 0 = 1 := by
    unfold M_plan_j25 M_plan_j5
    rw [if_pos novil, if_pos rfl]
  unfold DV_18 M_plan_s
  rw [hj, if_neg (nf1 σI), f41, if_neg i10, if_pos rfl]
theorem p0_64 : vp_in (0 : Int32) 64 := vp_in_nI (n := 0) (by decide) (by decide)
theorem init_c : M_culprit σI 0 = -1 := by
  rw [cu_v p0_64, z13, show ix (0 : Int32) = 0 from rfl, M_culprit_L28]
abbrev τI : St := sS (sS (sS (sS σz 1 (ix (0 : Int32)) 88) 1 (ix (1 : Int32)) 88) 1 (ix (2 : Int32)) 88) 1 (ix (3 : Int32)) 88
theorem τI_o {c : Nat} (h : c ≠ 1) (i : Nat) : τI c i = 0 := by
  show sS _ 1 _ _ c i = 0
  rw [sS_col h, sS_col h, sS_col h, sS_col h]
  rfl
theorem τI_z : ∀ z, z < 4 → τI 1 z = 88 := by
  intro z hz
  match z, hz with
  | 0, _ => decide
  | 1, _ => decide
  | 2, _ => decide
  | 3, _ => decide
  | z + 4, h => exact absurd h (by omega)
theorem τI_f : ∀ z, z < 4 → τI 1 (4 + z) = 0 := by
  intro z hz
  match z, hz with
  | 0, _ => decide
  | 1, _ => decide
  | 2, _ => decide
  | 3, _ => decide
  | z + 4, h => exact absurd h (by omega)
theorem shr0 (x : Int32) : (0 : Int32) >>> x = 0 := by
  apply Int32.toBitVec_inj.mp
  rw [Int32.toBitVec_shiftRight]
  exact BitVec.zero_sshiftRight
theorem LQ_I : LQ σI τI := by
  have s : ∀ k, k < 40 → k ≠ 4 → k ≠ 5 → ∀ i, σI k i = 0 := fun k a b c i => by rw [isInit_σI.1 k a b c]
  refine ⟨⟨?_, ?_, ?_, ?_, ?_, ?_, ?_, ?_⟩, fun i _ => ?_, fun z hz => ?_, fun z hz d hd => ?_, fun k _ => ⟨?_, ?_, ?_, ?_⟩, fun n _ => ⟨?_, ?_, ?_, ?_, ?_, ?_, Or.inl ?_⟩, fun k _ => ⟨?_, ?_⟩, fun k hk => ?_, fun k _ _ => ?_, fun j _ => ⟨?_, ?_, ?_⟩, ?_, ?_, ?_⟩
  all_goals first
    | (rw [τI_o (by decide), s _ (by decide) (by decide) (by decide)]; done)
    | skip
  · rw [τI_o (by decide), s 3 (by decide) (by decide) (by decide), s 2 (by decide) (by decide) (by decide)]; decide
  · rw [τI_z z hz, (isInit_σI.2 z hz).1, (isInit_σI.2 z hz).2, s 6 (by decide) (by decide) (by decide)]; decide
  · rw [s 7 (by decide) (by decide) (by decide), τI_f z hz, shr0]
    split <;> decide
  · rw [τI_o (by decide), s 15 (by decide) (by decide) (by decide), s 14 (by decide) (by decide) (by decide), s 22 (by decide) (by decide) (by decide)]; decide
  · rw [τI_o (by decide), s 17 (by decide) (by decide) (by decide), s 18 (by decide) (by decide) (by decide), s 19 (by decide) (by decide) (by decide)]; decide
  · rw [τI_o (by decide), s 20 (by decide) (by decide) (by decide), s 21 (by decide) (by decide) (by decide)]; decide
  · rw [s 26 (by decide) (by decide) (by decide)] at hk
    exact absurd hk (Nat.not_lt_zero _)
  · exact τI_o (by decide) _
  · rw [s 32 (by decide) (by decide) (by decide)]
    exact vp_in_nI (n := 0) (by decide) (by decide)
  · rw [s 8 (by decide) (by decide) (by decide)]; decide
  · rw [s 13 (by decide) (by decide) (by decide)]; decide
  · rw [s 26 (by decide) (by decide) (by decide)]; decide
theorem AG_I : AG τI := fun n _ => by
  rw [τI_o (by decide), τI_o (by decide)]
  exact vp_in_nI (n := 0) (by decide) (by decide)
theorem T_I : ix (σI 0 0) ≤ 300 * 0 := by
  rw [isInit_σI.1 0 (by decide) (by decide) (by decide)]
  decide
/-- the first n of the law's arrays stand -/
def LAn (ca : Nat → Nat) (n : Nat) (hx la : fH) (α : Nat → Nat) : Prop := apart hx la ∧ (∀ k, k < n → la (α k) = some (.inl (ca 0, lLen k, .inl (σz k)))) ∧ (∀ i j, i < n → j < n → α i = α j → i = j)
theorem LAn.step {ca : Nat → Nat} {n N a : Nat} {hx la : fH} {α : Nat → Nat} (h : LAn ca n hx la α) (ha : un hx la a = none) (hN : lLen n = N) : ∃ la', fU (un hx la) a (.inl (ca 0, N, .inl (fun _ => 0))) = un hx la' ∧ LAn ca (n + 1) hx la' (fun k => if k = n then a else α k) := by
  obtain ⟨h1, h2, h3⟩ := h
  have hxa : hx a = none := by
    cases q : hx a with
    | none => rfl
    | some y => rw [un_l q] at ha; cases ha
  have hla : la a = none := by
    rw [un_r hxa] at ha
    exact ha
  have hne : ∀ k, k < n → ¬ α k = a := fun k hk z => by
    have := h2 k hk
    rw [z, hla] at this
    cases this
  refine ⟨fU la a (.inl (ca 0, N, .inl (fun _ => 0))), ?_, ?_, fun k hk => ?_, fun i j hi hj e => ?_⟩
  · funext q
    by_cases w : q = a
    · rw [w, fU_same, un_r hxa, fU_same]
    · rw [fU_ne w]
      cases z : hx q with
      | some y => rw [un_l z, un_l z]
      | none => rw [un_r z, un_r z, fU_ne w]
  · intro q hq
    have w : q ≠ a := fun z => hq (by rw [z]; exact hxa)
    rw [fU_ne w]
    exact h1 q hq
  · dsimp only
    by_cases w : k = n
    · rw [if_pos w, fU_same, w, hN]
      rfl
    · rw [if_neg w, fU_ne (hne k (by omega))]
      exact h2 k (by omega)
  · dsimp only at e
    by_cases w : i = n
    · by_cases v : j = n
      · rw [w, v]
      · rw [if_pos w, if_neg v] at e
        exact absurd e.symm (hne j (by omega))
    · by_cases v : j = n
      · rw [if_neg w, if_pos v] at e
        exact absurd e (hne i (by omega))
      · rw [if_neg w, if_neg v] at e
        exact h3 i j (by omega) (by omega) e
set_option maxRecDepth 100000 in
set_option maxHeartbeats 4000000 in
theorem law_begin {K : KT} {mn : String} {tb : List ExceptionTableEntry} {w0 : Cond} {h0 : fH} (X : JX K mn "NightValleyLaw" cL_law 15 (some .boolean) tb w0 room_1 h0 (fun v _ => v = some (.int 1)) noX) {b : Nat} (kN : ∀ (r : Nat) (α : Nat → Nat) (hx h : fH), LH (kca K) hx h α τI → RA (kca K) hx r σI → J K h [some (.ref b), some (.ref r), some (.ref (α 0)), some (.ref (α 1)), some (.ref (α 2)), some (.ref (α 3)), some (.ref (α 4)), some (.ref (α 5)), some (.ref (α 6)), some (.ref (α 7)), some (.int (1 : Int32)), some (.int (0 : Int32)), none, none, none] [] 191 190 11797) : J K (fun _ => none) [some (.ref b), none, none, none, none, none, none, none, none, none, none, none, none, none, none] [] 0 0 0 := by
  refine J_new X (C := RX10) (T := TX10) (N := 11) (ci := 11) (fs := [.null, .null, .null, .null, .null, .null, .null, .null, .null, .int 0, .int 0]) rfl in_X10 tyX10 tyX10_ok gw_1_26 gw_1_27 gw_1_1 (by
      intro j hj
      match j with
      | 0 => rfl
      | 1 => rfl
      | 2 => rfl
      | 3 => rfl
      | 4 => rfl
      | 5 => rfl
      | 6 => rfl
      | 7 => rfl
      | 8 => rfl
      | 9 => rfl
      | 10 => rfl
      | k + 11 => exact absurd hj (by omega)) rfl dL_law_0 (fun r hr => ?_)
  refine J_dup X dL_law_3 rfl ?_
  refine J_callI X (c_newNV (fU_same _ _ _)) (And.intro gw_1_28 cw_X10_init) rfl rfl (Nat.le_of_ble_eq_true rfl) dL_law_4 rfl (fun v hx e => ?_) (fun E h' e => e.elim)
  obtain ⟨e0, ρ, μ, cap, hCX⟩ := e
  subst e0
  have hX : RA (kca K) hx r σI := hCX.done isInit_σI
  clear hCX
  show J K hx _ [.ref r] 7 155 11331
  refine J_astore_1 X dL_law_7 rfl (by decide) ?_
  have eU : hx = un hx (fun _ => none) := by
    funext q
    cases z : hx q with
    | some y => rw [un_l z]
    | none => rw [un_r z]
  have A0 : LAn (kca K) 0 hx (fun _ => none) (fun _ => 0) := ⟨fun _ _ => rfl, fun k hk => absurd hk (Nat.not_lt_zero _), fun i j hi => absurd hi (Nat.not_lt_zero _)⟩
  rw [eU]
  refine J_bipush (v := (64 : Int32)) X dL_law_8 (by decide) ?_
  refine J_newI X (N := 64) (by decide) (by decide) (by decide) rfl dL_law_10 (fun a0 ha0 => ?_)
  obtain ⟨la0, ee0, A1⟩ := LAn.step A0 ha0 (N := 64) rfl
  rw [ee0]
  refine J_astore_2 X dL_law_12 rfl (by decide) ?_
  refine J_bipush (v := (8 : Int32)) X dL_law_13 (by decide) ?_
  refine J_newI X (N := 8) (by decide) (by decide) (by decide) rfl dL_law_15 (fun a1 ha1 => ?_)
  obtain ⟨la1, ee1, A2⟩ := LAn.step A1 ha1 (N := 8) rfl
  rw [ee1]
  refine J_astore_3 X dL_law_17 rfl (by decide) ?_
  refine J_bipush (v := (8 : Int32)) X dL_law_18 (by decide) ?_
  refine J_newI X (N := 8) (by decide) (by decide) (by decide) rfl dL_law_20 (fun a2 ha2 => ?_)
  obtain ⟨la2, ee2, A3⟩ := LAn.step A2 ha2 (N := 8) rfl
  rw [ee2]
  refine J_astore_4 X dL_law_22 rfl (by decide) ?_
  refine J_bipush (v := (60 : Int32)) X dL_law_24 (by decide) ?_
  refine J_newI X (N := 60) (by decide) (by decide) (by decide) rfl dL_law_26 (fun a3 ha3 => ?_)
  obtain ⟨la3, ee3, A4⟩ := LAn.step A3 ha3 (N := 60) rfl
  rw [ee3]
  refine J_astore_5 X dL_law_28 rfl (by decide) ?_
  refine J_bipush (v := (10 : Int32)) X dL_law_30 (by decide) ?_
  refine J_newI X (N := 10) (by decide) (by decide) (by decide) rfl dL_law_32 (fun a4 ha4 => ?_)
  obtain ⟨la4, ee4, A5⟩ := LAn.step A4 ha4 (N := 10) rfl
  rw [ee4]
  refine J_astore_6 X dL_law_34 rfl (by decide) ?_
  refine J_bipush (v := (6 : Int32)) X dL_law_36 (by decide) ?_
  refine J_newI X (N := 6) (by decide) (by decide) (by decide) rfl dL_law_38 (fun a5 ha5 => ?_)
  obtain ⟨la5, ee5, A6⟩ := LAn.step A5 ha5 (N := 6) rfl
  rw [ee5]
  refine J_astore_7 X dL_law_40 rfl (by decide) ?_
  refine J_bipush (v := (40 : Int32)) X dL_law_42 (by decide) ?_
  refine J_newI X (N := 40) (by decide) (by decide) (by decide) rfl dL_law_44 (fun a6 ha6 => ?_)
  obtain ⟨la6, ee6, A7⟩ := LAn.step A6 ha6 (N := 40) rfl
  rw [ee6]
  refine J_astore_8 X dL_law_46 rfl (by decide) ?_
  refine J_bipush (v := (8 : Int32)) X dL_law_48 (by decide) ?_
  refine J_newI X (N := 8) (by decide) (by decide) (by decide) rfl dL_law_50 (fun a7 ha7 => ?_)
  obtain ⟨la7, ee7, A8⟩ := LAn.step A7 ha7 (N := 8) rfl
  rw [ee7]
  refine J_astore_9 X dL_law_52 rfl (by decide) ?_
  generalize eα : (fun k => if k = 7 then a7 else (fun k => if k = 6 then a6 else (fun k => if k = 5 then a5 else (fun k => if k = 4 then a4 else (fun k => if k = 3 then a3 else (fun k => if k = 2 then a2 else (fun k => if k = 1 then a1 else (fun k => if k = 0 then a0 else (fun _ => 0) k) k) k) k) k) k) k) k) = α at A8
  rw [show a0 = α 0 by rw [← eα]; rfl, show a1 = α 1 by rw [← eα]; rfl, show a2 = α 2 by rw [← eα]; rfl, show a3 = α 3 by rw [← eα]; rfl, show a4 = α 4 by rw [← eα]; rfl, show a5 = α 5 by rw [← eα]; rfl, show a6 = α 6 by rw [← eα]; rfl, show a7 = α 7 by rw [← eα]; rfl]
  obtain ⟨hap, hLA, hα⟩ := A8
  have hL : LH (kca K) hx (un hx la7) α σz := ⟨la7, rfl, hap, hLA, hα⟩
  clear ha0 ha1 ha2 ha3 ha4 ha5 ha6 ha7 ee0 ee1 ee2 ee3 ee4 ee5 ee6 ee7 eU
  refine J_iconst (v := 0) X dL_law_54 rfl ?_
  refine J_istore_10 X dL_law_55 rfl (by decide) ?_
  refine J_iload_10 X dL_law_57 ?_
  refine J_iconst (v := 4) X dL_law_59 rfl ?_
  refine J_icmp_ge (tgt := 75) X dL_law_60 (by decide) (fun c => absurd c (by decide)) (fun _ => ?_)
  refine J_aload_3 X dL_law_63 ?_
  refine J_iload_10 X dL_law_64 ?_
  refine J_bipush (v := (88 : Int32)) X dL_law_66 (by decide) ?_
  refine JL_st X hL 1 (by decide) (vp_up (vp_in_nI (n := 0) (N := 1) (by decide) (by decide)) (by decide)) dL_law_68 (fun h11 hR11 => ?_)
  refine J_iinc_10 (v := (1 : Int32)) X dL_law_69 (by decide) rfl (by decide) ?_
  refine J_goto (tgt := 57) X dL_law_72 (by decide) ?_
  refine J_iload_10 X dL_law_57 ?_
  refine J_iconst (v := 4) X dL_law_59 rfl ?_
  refine J_icmp_ge (tgt := 75) X dL_law_60 (by decide) (fun c => absurd c (by decide)) (fun _ => ?_)
  refine J_aload_3 X dL_law_63 ?_
  refine J_iload_10 X dL_law_64 ?_
  refine J_bipush (v := (88 : Int32)) X dL_law_66 (by decide) ?_
  refine JL_st X hR11 1 (by decide) (vp_up (vp_in_nI (n := 1) (N := 2) (by decide) (by decide)) (by decide)) dL_law_68 (fun h12 hR12 => ?_)
  refine J_iinc_10 (v := (2 : Int32)) X dL_law_69 (by decide) rfl (by decide) ?_
  refine J_goto (tgt := 57) X dL_law_72 (by decide) ?_
  refine J_iload_10 X dL_law_57 ?_
  refine J_iconst (v := 4) X dL_law_59 rfl ?_
  refine J_icmp_ge (tgt := 75) X dL_law_60 (by decide) (fun c => absurd c (by decide)) (fun _ => ?_)
  refine J_aload_3 X dL_law_63 ?_
  refine J_iload_10 X dL_law_64 ?_
  refine J_bipush (v := (88 : Int32)) X dL_law_66 (by decide) ?_
  refine JL_st X hR12 1 (by decide) (vp_up (vp_in_nI (n := 2) (N := 3) (by decide) (by decide)) (by decide)) dL_law_68 (fun h13 hR13 => ?_)
  refine J_iinc_10 (v := (3 : Int32)) X dL_law_69 (by decide) rfl (by decide) ?_
  refine J_goto (tgt := 57) X dL_law_72 (by decide) ?_
  refine J_iload_10 X dL_law_57 ?_
  refine J_iconst (v := 4) X dL_law_59 rfl ?_
  refine J_icmp_ge (tgt := 75) X dL_law_60 (by decide) (fun c => absurd c (by decide)) (fun _ => ?_)
  refine J_aload_3 X dL_law_63 ?_
  refine J_iload_10 X dL_law_64 ?_
  refine J_bipush (v := (88 : Int32)) X dL_law_66 (by decide) ?_
  refine JL_st X hR13 1 (by decide) (vp_up (vp_in_nI (n := 3) (N := 4) (by decide) (by decide)) (by decide)) dL_law_68 (fun h14 hR14 => ?_)
  refine J_iinc_10 (v := (4 : Int32)) X dL_law_69 (by decide) rfl (by decide) ?_
  refine J_goto (tgt := 57) X dL_law_72 (by decide) ?_
  refine J_iload_10 X dL_law_57 ?_
  refine J_iconst (v := 4) X dL_law_59 rfl ?_
  refine J_icmp_ge (tgt := 75) X dL_law_60 (by decide) (fun _ => ?_) (fun c => absurd (by decide) c)
  clear hap hLA hα
  obtain ⟨la, eh, hap, hLA, hα⟩ := hR14
  subst eh
  have hIX := InvX_σI
  have hIO := InvO_σI
  refine J.subL (lv' := [some (.ref b), some (.ref r), some (.ref (α 0)), some (.ref (α 1)), some (.ref (α 2)), some (.ref (α 3)), some (.ref (α 4)), some (.ref (α 5)), some (.ref (α 6)), some (.ref (α 7)), none, none, none, none, none]) (And.intro rfl (And.intro rfl (And.intro rfl (And.intro rfl (And.intro rfl (And.intro rfl (And.intro rfl (And.intro rfl (And.intro rfl (And.intro rfl trivial)))))))))) ?_
  refine J_aload_1 X dL_law_75 ?_
  refine J_iconst (v := 0) X dL_law_76 rfl ?_
  refine J_bipush (v := (64 : Int32)) X dL_law_77 (by decide) ?_
  refine J_iconst (v := 0) X dL_law_79 rfl ?_
  refine J_iconst (v := 0) X dL_law_80 rfl ?_
  refine J_iconst (v := 0) X dL_law_81 rfl ?_
  refine J_iconst (v := 0) X dL_law_82 rfl ?_
  refine J_callSW X ((c_D_0 hX hIX hIO (64 : Int32) (0 : Int32) (0 : Int32) (0 : Int32) (0 : Int32)).frame hap) (And.intro gw_2_177 cw_L_does) rfl rfl (Nat.le_of_ble_eq_true rfl) dL_law_83 rfl (fun v h15 e => ?_) (fun E h15 e => by obtain ⟨_, q, _⟩ := e; exact q.elim)
  obtain ⟨hx15, ⟨e0, hX15⟩, hap15, eh⟩ := e
  subst e0
  subst eh
  have hL15 : LH (kca K) hx15 (un hx15 la) α τI := ⟨la, rfl, hap15, hLA, hα⟩
  show J K (un hx15 la) [some (.ref b), some (.ref r), some (.ref (α 0)), some (.ref (α 1)), some (.ref (α 2)), some (.ref (α 3)), some (.ref (α 4)), some (.ref (α 5)), some (.ref (α 6)), some (.ref (α 7)), none, none, none, none, none] [.int (DV_0 σI (64 : Int32) (0 : Int32))] 86 165 11547
  have hX15I : RA (kca K) hx15 r σI := RA.ext hX15 init_0.2
  refine J_ldc (v := (-3000000 : Int32)) X dL_law_86 gw_4_72 ?_
  refine J_icmp_ne (tgt := 185) X dL_law_88 (by decide) (fun c => absurd init_0.1 c) (fun _ => ?_)
  refine J_aload_1 X dL_law_91 ?_
  refine J_iconst (v := 4) X dL_law_92 rfl ?_
  refine J_sipush (v := (501 : Int32)) X dL_law_93 (by decide) ?_
  refine J_iconst (v := 0) X dL_law_96 rfl ?_
  refine J_iconst (v := 0) X dL_law_97 rfl ?_
  refine J_iconst (v := 0) X dL_law_98 rfl ?_
  refine J_iconst (v := 0) X dL_law_99 rfl ?_
  refine J_callSW X ((c_D_4 hX15I hIX hIO (501 : Int32) (0 : Int32) (0 : Int32) (0 : Int32) (0 : Int32)).frame hap15) (And.intro gw_2_177 cw_L_does) rfl rfl (Nat.le_of_ble_eq_true rfl) dL_law_100 rfl (fun v h16 e => ?_) (fun E h16 e => by obtain ⟨_, q, _⟩ := e; exact q.elim)
  obtain ⟨hx16, ⟨e0, hX16⟩, hap16, eh⟩ := e
  subst e0
  subst eh
  have hL16 : LH (kca K) hx16 (un hx16 la) α τI := ⟨la, rfl, hap16, hLA, hα⟩
  show J K (un hx16 la) [some (.ref b), some (.ref r), some (.ref (α 0)), some (.ref (α 1)), some (.ref (α 2)), some (.ref (α 3)), some (.ref (α 4)), some (.ref (α 5)), some (.ref (α 6)), some (.ref (α 7)), none, none, none, none, none] [.int (DV_4 σI (501 : Int32))] 103 167 11559
  have hX16I : RA (kca K) hx16 r σI := RA.ext hX16 init_4.2
  refine J_ldc (v := (-2000000 : Int32)) X dL_law_103 gw_4_73 ?_
  refine J_icmp_ne (tgt := 185) X dL_law_105 (by decide) (fun c => absurd init_4.1 c) (fun _ => ?_)
  refine J_aload_1 X dL_law_108 ?_
  refine J_bipush (v := (6 : Int32)) X dL_law_109 (by decide) ?_
  refine J_iconst (v := 0) X dL_law_111 rfl ?_
  refine J_iconst (v := 0) X dL_law_112 rfl ?_
  refine J_iconst (v := 0) X dL_law_113 rfl ?_
  refine J_iconst (v := 0) X dL_law_114 rfl ?_
  refine J_iconst (v := 0) X dL_law_115 rfl ?_
  refine J_callSW X ((c_D_6 hX16I hIX hIO (0 : Int32) (0 : Int32) (0 : Int32) (0 : Int32) (0 : Int32)).frame hap16) (And.intro gw_2_177 cw_L_does) rfl rfl (Nat.le_of_ble_eq_true rfl) dL_law_116 rfl (fun v h17 e => ?_) (fun E h17 e => by obtain ⟨_, q, _⟩ := e; exact q.elim)
  obtain ⟨hx17, ⟨e0, hX17⟩, hap17, eh⟩ := e
  subst e0
  subst eh
  have hL17 : LH (kca K) hx17 (un hx17 la) α τI := ⟨la, rfl, hap17, hLA, hα⟩
  show J K (un hx17 la) [some (.ref b), some (.ref r), some (.ref (α 0)), some (.ref (α 1)), some (.ref (α 2)), some (.ref (α 3)), some (.ref (α 4)), some (.ref (α 5)), some (.ref (α 6)), some (.ref (α 7)), none, none, none, none, none] [.int (DV_6 σI (0 : Int32) (0 : Int32) (0 : Int32) (0 : Int32) (0 : Int32))] 119 175 11707
  have hX17I : RA (kca K) hx17 r σI := RA.ext hX17 init_6.2
  refine J_ldc (v := (-3000000 : Int32)) X dL_law_119 gw_4_72 ?_
  refine J_icmp_ne (tgt := 185) X dL_law_121 (by decide) (fun c => absurd init_6.1 c) (fun _ => ?_)
  refine J_aload_1 X dL_law_124 ?_
  refine J_bipush (v := (9 : Int32)) X dL_law_125 (by decide) ?_
  refine J_iconst (v := 0) X dL_law_127 rfl ?_
  refine J_iconst (v := 0) X dL_law_128 rfl ?_
  refine J_iconst (v := 0) X dL_law_129 rfl ?_
  refine J_iconst (v := 0) X dL_law_130 rfl ?_
  refine J_iconst (v := 0) X dL_law_131 rfl ?_
  refine J_callSW X ((c_D_9 hX17I hIX hIO (0 : Int32) (0 : Int32) (0 : Int32) (0 : Int32) (0 : Int32)).frame hap17) (And.intro gw_2_177 cw_L_does) rfl rfl (Nat.le_of_ble_eq_true rfl) dL_law_132 rfl (fun v h18 e => ?_) (fun E h18 e => by obtain ⟨_, q, _⟩ := e; exact q.elim)
  obtain ⟨hx18, ⟨e0, hX18⟩, hap18, eh⟩ := e
  subst e0
  subst eh
  have hL18 : LH (kca K) hx18 (un hx18 la) α τI := ⟨la, rfl, hap18, hLA, hα⟩
  show J K (un hx18 la) [some (.ref b), some (.ref r), some (.ref (α 0)), some (.ref (α 1)), some (.ref (α 2)), some (.ref (α 3)), some (.ref (α 4)), some (.ref (α 5)), some (.ref (α 6)), some (.ref (α 7)), none, none, none, none, none] [.int (DV_9 σI (0 : Int32) (0 : Int32) (0 : Int32) (0 : Int32) (0 : Int32))] 135 183 11755
  have hX18I : RA (kca K) hx18 r σI := RA.ext hX18 init_9.2
  refine J_ldc (v := (-3000000 : Int32)) X dL_law_135 gw_4_72 ?_
  refine J_icmp_ne (tgt := 185) X dL_law_137 (by decide) (fun c => absurd init_9.1 c) (fun _ => ?_)
  refine J_aload_1 X dL_law_140 ?_
  refine J_bipush (v := (16 : Int32)) X dL_law_141 (by decide) ?_
  refine J_iconst (v := 0) X dL_law_143 rfl ?_
  refine J_iconst (v := 0) X dL_law_144 rfl ?_
  refine J_iconst (v := -1) X dL_law_145 rfl ?_
  refine J_iconst (v := 0) X dL_law_146 rfl ?_
  refine J_iconst (v := 0) X dL_law_147 rfl ?_
  refine J_callSW X ((c_D_16 hX18I hIX hIO (0 : Int32) (0 : Int32) (-1 : Int32) (0 : Int32) (0 : Int32)).frame hap18) (And.intro gw_2_177 cw_L_does) rfl rfl (Nat.le_of_ble_eq_true rfl) dL_law_148 rfl (fun v h19 e => ?_) (fun E h19 e => by obtain ⟨_, q, _⟩ := e; exact q.elim)
  obtain ⟨hx19, ⟨e0, hX19⟩, hap19, eh⟩ := e
  subst e0
  subst eh
  have hL19 : LH (kca K) hx19 (un hx19 la) α τI := ⟨la, rfl, hap19, hLA, hα⟩
  show J K (un hx19 la) [some (.ref b), some (.ref r), some (.ref (α 0)), some (.ref (α 1)), some (.ref (α 2)), some (.ref (α 3)), some (.ref (α 4)), some (.ref (α 5)), some (.ref (α 6)), some (.ref (α 7)), none, none, none, none, none] [.int (DV_16 σI (0 : Int32) (0 : Int32) (-1 : Int32))] 151 186 11773
  refine J_ldc (v := (-2000000 : Int32)) X dL_law_151 gw_4_73 ?_
  refine J_icmp_ne (tgt := 185) X dL_law_153 (by decide) (fun c => absurd init_16 c) (fun _ => ?_)
  refine J_aload_1 X dL_law_156 ?_
  refine J_bipush (v := (18 : Int32)) X dL_law_157 (by decide) ?_
  refine J_iconst (v := 0) X dL_law_159 rfl ?_
  refine J_iconst (v := 0) X dL_law_160 rfl ?_
  refine J_iconst (v := 0) X dL_law_161 rfl ?_
  refine J_iconst (v := 0) X dL_law_162 rfl ?_
  refine J_iconst (v := 0) X dL_law_163 rfl ?_
  refine J_callSW X ((c_D_18 hX19 hIX hIO (0 : Int32) (0 : Int32) (0 : Int32) (0 : Int32) (0 : Int32)).frame hap19) (And.intro gw_2_177 cw_L_does) rfl rfl (Nat.le_of_ble_eq_true rfl) dL_law_164 rfl (fun v h20 e => ?_) (fun E h20 e => by obtain ⟨_, q, _⟩ := e; exact q.elim)
  obtain ⟨hx20, ⟨e0, hX20⟩, hap20, eh⟩ := e
  subst e0
  subst eh
  have hL20 : LH (kca K) hx20 (un hx20 la) α τI := ⟨la, rfl, hap20, hLA, hα⟩
  show J K (un hx20 la) [some (.ref b), some (.ref r), some (.ref (α 0)), some (.ref (α 1)), some (.ref (α 2)), some (.ref (α 3)), some (.ref (α 4)), some (.ref (α 5)), some (.ref (α 6)), some (.ref (α 7)), none, none, none, none, none] [.int (DV_18 σI (0 : Int32) (0 : Int32) (0 : Int32))] 167 189 11791
  refine J_ldc (v := (-3000000 : Int32)) X dL_law_167 gw_4_72 ?_
  refine J_icmp_ne (tgt := 185) X dL_law_169 (by decide) (fun c => absurd init_18 c) (fun _ => ?_)
  refine J_aload_1 X dL_law_172 ?_
  refine J_iconst (v := 0) X dL_law_173 rfl ?_
  obtain ⟨vs, hroot⟩ := RA.root hX20
  refine J_callV X ((c_Q_culprit hX20 hIX hIO (0 : Int32) (cu_s p0_64)).frame hap20) (And.intro gw_2_26 cw_X10_culprit) (un_l hroot) rfl rfl rfl (Nat.le_of_ble_eq_true rfl) dL_law_174 rfl (fun v h21 e => ?_) (fun E h21 e => by obtain ⟨_, q, _⟩ := e; exact q.elim)
  obtain ⟨hx21, ⟨e0, hX21⟩, hap21, eh⟩ := e
  subst e0
  subst eh
  have hL21 : LH (kca K) hx21 (un hx21 la) α τI := ⟨la, rfl, hap21, hLA, hα⟩
  show J K (un hx21 la) [some (.ref b), some (.ref r), some (.ref (α 0)), some (.ref (α 1)), some (.ref (α 2)), some (.ref (α 3)), some (.ref (α 4)), some (.ref (α 5)), some (.ref (α 6)), some (.ref (α 7)), none, none, none, none, none] [.int (M_culprit σI (0 : Int32))] 177 190 11797
  refine J_iconst (v := -1) X dL_law_177 rfl ?_
  refine J_icmp_ne (tgt := 185) X dL_law_178 (by decide) (fun c => absurd init_c c) (fun _ => ?_)
  refine J_iconst (v := 1) X dL_law_181 rfl ?_
  refine J_goto (tgt := 186) X dL_law_182 (by decide) ?_
  refine J_istore_10 X dL_law_186 rfl (by decide) ?_
  refine J_iconst (v := 0) X dL_law_188 rfl ?_
  refine J_istore_11 X dL_law_189 rfl (by decide) ?_
  exact kN r α hx21 _ hL21 hX21
end
