noncomputable section
noncomputable def n30 : Nat := Classical.choose (⟨30, rfl⟩ : ∃ n, n = 30)
theorem n30_eq : n30 = 30 := Classical.choose_spec (⟨30, rfl⟩ : ∃ n, n = 30)
theorem ne_up {x c : Int32} {N : Nat} (h : vp_in x (N + 1)) (hN : N < 1000000) (hc : c = nI N) (hne : ¬ x = c) : vp_in x N := by
  obtain ⟨e, hle⟩ := cnt h hN
  rw [e]
  refine vp_in_nI (Nat.lt_of_le_of_ne hle fun z => hne ?_) (by omega)
  rw [e, z, hc]
theorem lt_up {x c : Int32} {M N : Nat} (h : vp_in x M) (hM : M < 1000000) (hN : N < 1000000) (hc : c = nI N) (hlt : ¬ c ≤ x) : vp_in x N := by
  have h1 := vp_lt h
  have e := vp_nI' h (by omega)
  generalize ix x = j at *
  subst e
  refine vp_in_nI (Nat.lt_of_not_le fun z => hlt ?_) (by omega)
  rw [hc]
  exact nI_le z (by omega)
theorem lOK3v {x : Int32} (h : vp_in x 10) (v : Int32) : lOK 3 (ix (((6 : Int32) * x) + (4 : Int32))) v := by
  rw [li6_4 h]
  exact ⟨fun z => absurd z (by omega), fun z => absurd z (by omega), fun z => absurd z (by omega)⟩
theorem lOK70 {v : Int32} (h : vp_in v 20001) : lOK 7 (ix (0 : Int32)) v := ⟨fun _ => h, fun z => absurd z (by decide), fun z => absurd z (by decide), fun z => absurd z (by decide), fun z => absurd z (by decide)⟩
def T0_j7 (σ : St) (ξ : St) (one : Int32) (two : Int32) : Int32 := (if (one - one / (17 : Int32) * (17 : Int32)) = (16 : Int32) then (64 : Int32) else ((16 : Int32) + (one - one / (24 : Int32) * (24 : Int32))))
def T0_j32 (σ : St) (ξ : St) (one : Int32) (two : Int32) : Int32 := (if (two - two / (13 : Int32) * (13 : Int32)) = (12 : Int32) then (4 : Int32) else (two - two / (2 : Int32) * (2 : Int32)))
def T0_j54 (σ : St) (ξ : St) (one : Int32) (two : Int32) : Int32 := (if (T0_j7 σ ξ one two) = (64 : Int32) then (0 : Int32) else (T0_j7 σ ξ one two))
def T0_j70 (σ : St) (ξ : St) (one : Int32) (two : Int32) : Int32 := (if (σ 0 (ix (T0_j54 σ ξ one two))) ≤ (3 : Int32) then (0 : Int32) else (1 : Int32))
theorem T0_j70_b (σ : St) (ξ : St) (one : Int32) (two : Int32) : T0_j70 σ ξ one two = 0 ∨ T0_j70 σ ξ one two = 1 := by
  unfold T0_j70
  (repeat' split) <;> first | exact Or.inl (by with_reducible rfl) | exact Or.inr (by with_reducible rfl)
def T0_j84 (σ : St) (ξ : St) (one : Int32) (two : Int32) : Int32 := (if (two - two / (3 : Int32) * (3 : Int32)) ≤ (0 : Int32) then (0 : Int32) else (1 : Int32))
theorem T0_j84_b (σ : St) (ξ : St) (one : Int32) (two : Int32) : T0_j84 σ ξ one two = 0 ∨ T0_j84 σ ξ one two = 1 := by
  unfold T0_j84
  (repeat' split) <;> first | exact Or.inl (by with_reducible rfl) | exact Or.inr (by with_reducible rfl)
def T0_j103 (σ : St) (ξ : St) (one : Int32) (two : Int32) : Int32 := (if (T0_j84 σ ξ one two) = (T0_j70 σ ξ one two) then (0 : Int32) else (if (T0_j84 σ ξ one two) = (0 : Int32) then (-4 : Int32) else (4 : Int32)))
def T0_j133 (σ : St) (ξ : St) (one : Int32) (two : Int32) : Int32 := (if (M_ridge ξ (T0_j54 σ ξ one two) (T0_j84 σ ξ one two)) = (T0_j70 σ ξ one two) then (1 : Int32) else (0 : Int32))
theorem T0_j133_b (σ : St) (ξ : St) (one : Int32) (two : Int32) : T0_j133 σ ξ one two = 0 ∨ T0_j133 σ ξ one two = 1 := by
  unfold T0_j133
  (repeat' split) <;> first | exact Or.inl (by with_reducible rfl) | exact Or.inr (by with_reducible rfl)
def T0 (σ : St) (ξ : St) (one : Int32) (two : Int32) : Int32 := (T0_j133 σ ξ one two)
def T0_s (σ : St) (ξ : St) (one : Int32) (two : Int32) : St := (sS σ 0 (ix (T0_j54 σ ξ one two)) ((σ 0 (ix (T0_j54 σ ξ one two))) + (T0_j103 σ ξ one two)))
def T0_x (σ : St) (ξ : St) (one : Int32) (two : Int32) : St := (M_ridge_s ξ (T0_j54 σ ξ one two) (T0_j84 σ ξ one two))
theorem T0_b (σ : St) (ξ : St) (one : Int32) (two : Int32) : (T0 σ ξ one two) = 0 ∨ (T0 σ ξ one two) = 1 := by
  unfold T0
  (repeat' split) <;> first | exact Or.inl (by with_reducible rfl) | exact Or.inr (by with_reducible rfl) | exact T0_j133_b ..
theorem T0_pl {σ ξ : St} {one two : Int32} (h1 : vp_in one 60000) : vp_in (T0_j7 σ ξ one two) 65 := by
  unfold T0_j7
  split
  · exact vp_in_nI (n := 64) (by decide) (by decide)
  · exact vp_up (vr_add (vp_in_nI (n := 16) (N := 17) (by decide) (by decide)) (vr_rem (c := 24) h1 (by decide) (by decide) (by decide)) (by decide)) (by decide)
theorem T0_zn {σ ξ : St} {one two : Int32} (h2 : vp_in two 60000) : vp_in (T0_j32 σ ξ one two) 5 := by
  unfold T0_j32
  split
  · exact vp_in_nI (n := 4) (by decide) (by decide)
  · exact vp_up (vr_rem (c := 2) h2 (by decide) (by decide) (by decide)) (by decide)
theorem T0_at {σ ξ : St} {one two : Int32} (h1 : vp_in one 60000) : vp_in (T0_j54 σ ξ one two) 64 := by
  unfold T0_j54
  split
  · exact vp_in_nI (n := 0) (by decide) (by decide)
  · exact ne_up (T0_pl h1) (by decide) rfl (by assumption)
theorem ridge_ok (ξ : St) {p1 : Int32} (p2 : Int32) (h : vp_in p1 64) : M_ridge_s ξ p1 p2 41 0 = 0 := by
  unfold M_ridge_s M_ridge_j5
  rw [if_neg (fun z => place_iff.mp z h), if_pos (fails_0 ξ)]
  rfl
theorem cw_L_isTold : Cond.static yL_isTold ∈ GW ∧ Cond.initialized yL_isTold.cls ∈ GW ∧ Cond.code yL_isTold cL_isTold 15 (some .boolean) ∈ GW ∧ (yL_isTold.cls ≠ "java/lang/invoke/MethodHandle" ∧ yL_isTold.cls ≠ "java/lang/invoke/VarHandle") ∧ (parseMethodDescriptor yL_isTold.desc).map (fun d => d.parameters.length) = some 9 := ⟨gw_4_157, gw_1_0, gw_4_158, ⟨by decide, by decide⟩, by decide +kernel⟩
set_option maxRecDepth 100000 in
set_option maxHeartbeats 4000000 in
theorem c_T0 {l : Launch} {D : va_G} {ca : Nat → Nat} {h hx : fH} {r : Nat} {α : Nat → Nat} {σ ξ : St} (hL : LH ca hx h α σ) (hX : RA ca hx r ξ) (hIX : InvX ξ) (hIO : InvO ξ) (hQ : LQ ξ σ) (one : Int32) (two : Int32) (h1 : vp_in one 60000) (h2 : vp_in two 60000) : FM l D ca yL_isTold (.code yL_isTold cL_isTold 15 (some .boolean)) { frames := 9, cells := 1, slots := 6, locals := 170 } [.ref r, .ref (α 0), .ref (α 1), .ref (α 2), .ref (α 3), .ref (α 7), .int (0 : Int32), .int one, .int two] h (fun v h2 => v = some (.int (T0 σ ξ one two)) ∧ ∃ hx2, LH ca hx2 h2 α (T0_s σ ξ one two) ∧ RA ca hx2 r (T0_x σ ξ one two)) noX := by
  refine FM.of [some (.ref r), some (.ref (α 0)), some (.ref (α 1)), some (.ref (α 2)), some (.ref (α 3)), some (.ref (α 7)), some (.int (0 : Int32)), some (.int one), some (.int two), none, none, none, none, none, none] (by decide) (Nat.le_of_ble_eq_true rfl) rfl ?_
  rintro K X rfl rfl rfl
  have hI := IL_of hQ hIX
  have q_v : (T0 σ ξ one two) = (T0_j133 σ ξ one two) := rfl
  have q_s : (T0_s σ ξ one two) = (sS σ 0 (ix (T0_j54 σ ξ one two)) ((σ 0 (ix (T0_j54 σ ξ one two))) + (T0_j103 σ ξ one two))) := rfl
  have q_x : (T0_x σ ξ one two) = (M_ridge_s ξ (T0_j54 σ ξ one two) (T0_j84 σ ξ one two)) := rfl
  refine J_iload_7 X dL_isTold_0 ?_
  refine J_bipush (v := (17 : Int32)) X dL_isTold_2 (by decide) ?_
  refine J_irem X dL_isTold_4 (by decide) ?_
  refine J_bipush (v := (16 : Int32)) X dL_isTold_5 (by decide) ?_
  have K7_23 : ∀ (v7_0 : Int32), v7_0 = (T0_j7 σ ξ one two) → J K h [some (.ref r), some (.ref (α 0)), some (.ref (α 1)), some (.ref (α 2)), some (.ref (α 3)), some (.ref (α 7)), some (.int (0 : Int32)), some (.int one), some (.int two), none, none, none, none, none, none] [.int v7_0] 23 0 0 := by
    intro v7_0 ev7_0
    try rw [ev7_0]
    clear ev7_0
    refine J_istore_9 X dL_isTold_23 rfl (by decide) ?_
    refine J_iload_8 X dL_isTold_25 ?_
    refine J_bipush (v := (13 : Int32)) X dL_isTold_27 (by decide) ?_
    refine J_irem X dL_isTold_29 (by decide) ?_
    refine J_bipush (v := (12 : Int32)) X dL_isTold_30 (by decide) ?_
    have K32_43 : ∀ (v32_0 : Int32), v32_0 = (T0_j32 σ ξ one two) → J K h [some (.ref r), some (.ref (α 0)), some (.ref (α 1)), some (.ref (α 2)), some (.ref (α 3)), some (.ref (α 7)), some (.int (0 : Int32)), some (.int one), some (.int two), some (.int (T0_j7 σ ξ one two)), none, none, none, none, none] [.int v32_0] 43 0 0 := by
      intro v32_0 ev32_0
      try rw [ev32_0]
      clear ev32_0
      refine J_istore_10 X dL_isTold_43 rfl (by decide) ?_
      refine J_iload_6 X dL_isTold_45 ?_
      refine J_if_ne (tgt := 142) X dL_isTold_47 (by decide) (fun c => absurd (by decide) c) (fun _ => ?_)
      refine J_iload_9 X dL_isTold_50 ?_
      refine J_bipush (v := (64 : Int32)) X dL_isTold_52 (by decide) ?_
      have K54_63 : ∀ (v54_0 : Int32), v54_0 = (T0_j54 σ ξ one two) → J K h [some (.ref r), some (.ref (α 0)), some (.ref (α 1)), some (.ref (α 2)), some (.ref (α 3)), some (.ref (α 7)), some (.int (0 : Int32)), some (.int one), some (.int two), some (.int (T0_j7 σ ξ one two)), some (.int (T0_j32 σ ξ one two)), none, none, none, none] [.int v54_0] 63 0 0 := by
        intro v54_0 ev54_0
        try rw [ev54_0]
        clear ev54_0
        refine J_istore_11 X dL_isTold_63 rfl (by decide) ?_
        refine J_aload_1 X dL_isTold_65 ?_
        refine J_iload_11 X dL_isTold_66 ?_
        refine JL_ld X hL.la 0 (by decide) (vp_up (T0_at h1) (by decide)) dL_isTold_68 ?_
        refine J_iconst (v := 3) X dL_isTold_69 rfl ?_
        have K70_78 : ∀ (v70_0 : Int32), v70_0 = (T0_j70 σ ξ one two) → J K h [some (.ref r), some (.ref (α 0)), some (.ref (α 1)), some (.ref (α 2)), some (.ref (α 3)), some (.ref (α 7)), some (.int (0 : Int32)), some (.int one), some (.int two), some (.int (T0_j7 σ ξ one two)), some (.int (T0_j32 σ ξ one two)), some (.int (T0_j54 σ ξ one two)), none, none, none] [.int v70_0] 78 0 0 := by
          intro v70_0 ev70_0
          try rw [ev70_0]
          clear ev70_0
          refine J_istore_12 X dL_isTold_78 rfl (by decide) ?_
          refine J_iload_8 X dL_isTold_80 ?_
          refine J_iconst (v := 3) X dL_isTold_82 rfl ?_
          refine J_irem X dL_isTold_83 (by decide) ?_
          have K84_92 : ∀ (v84_0 : Int32), v84_0 = (T0_j84 σ ξ one two) → J K h [some (.ref r), some (.ref (α 0)), some (.ref (α 1)), some (.ref (α 2)), some (.ref (α 3)), some (.ref (α 7)), some (.int (0 : Int32)), some (.int one), some (.int two), some (.int (T0_j7 σ ξ one two)), some (.int (T0_j32 σ ξ one two)), some (.int (T0_j54 σ ξ one two)), some (.int (T0_j70 σ ξ one two)), none, none] [.int v84_0] 92 0 0 := by
            intro v84_0 ev84_0
            try rw [ev84_0]
            clear ev84_0
            refine J_istore_13 X dL_isTold_92 rfl (by decide) ?_
            refine J_aload_1 X dL_isTold_94 ?_
            refine J_iload_11 X dL_isTold_95 ?_
            refine J_dup2 X dL_isTold_97 rfl rfl ?_
            refine JL_ld X hL.la 0 (by decide) (vp_up (T0_at h1) (by decide)) dL_isTold_98 ?_
            refine J_iload_13 X dL_isTold_99 ?_
            refine J_iload_12 X dL_isTold_101 ?_
            have K103_121 : ∀ (v103_0 : Int32), v103_0 = (T0_j103 σ ξ one two) → J K h [some (.ref r), some (.ref (α 0)), some (.ref (α 1)), some (.ref (α 2)), some (.ref (α 3)), some (.ref (α 7)), some (.int (0 : Int32)), some (.int one), some (.int two), some (.int (T0_j7 σ ξ one two)), some (.int (T0_j32 σ ξ one two)), some (.int (T0_j54 σ ξ one two)), some (.int (T0_j70 σ ξ one two)), some (.int (T0_j84 σ ξ one two)), none] [.int v103_0, .int (σ 0 (ix (T0_j54 σ ξ one two))), .int (T0_j54 σ ξ one two), .ref (α 0)] 121 0 0 := by
              intro v103_0 ev103_0
              try rw [ev103_0]
              clear ev103_0
              refine J_iadd X dL_isTold_121 ?_
              refine JL_st X hL 0 (by decide) (vp_up (T0_at h1) (by decide)) dL_isTold_122 (fun h11 hR11 => ?_)
              refine J_aload_0 X dL_isTold_123 ?_
              refine J_iload_11 X dL_isTold_124 ?_
              refine J_iload_13 X dL_isTold_126 ?_
              obtain ⟨la, eh, hap, hLA, hα⟩ := hR11
              subst eh
              obtain ⟨vs, hroot⟩ := RA.root hX
              refine J_callV X ((c_R_ridge hX hIX hIO (T0_j54 σ ξ one two) (T0_j84 σ ξ one two) (T0_j84_b ..)).frame hap) (And.intro gw_4_159 cw_X10_ridge) (un_l hroot) rfl rfl rfl (Nat.le_of_ble_eq_true rfl) dL_isTold_128 rfl (fun v h12 e => ?_) (fun E h12 e => ?_)
              rotate_left
              · obtain ⟨_, ⟨_, q⟩, _⟩ := e
                have t0 := ridge_ok ξ (T0_j84 σ ξ one two) (T0_at (σ := σ) (ξ := ξ) (two := two) h1)
                rw [t0] at q
                exact absurd q.2 (by decide)
              obtain ⟨hx12, ⟨e0, _, hX12⟩, hap12, eh⟩ := e
              subst e0
              subst eh
              have hR12 : LH (kca K) hx12 (un hx12 la) α (sS σ 0 (ix (T0_j54 σ ξ one two)) ((σ 0 (ix (T0_j54 σ ξ one two))) + (T0_j103 σ ξ one two))) := ⟨la, rfl, hap12, hLA, hα⟩
              show J K (un hx12 la) [some (.ref r), some (.ref (α 0)), some (.ref (α 1)), some (.ref (α 2)), some (.ref (α 3)), some (.ref (α 7)), some (.int (0 : Int32)), some (.int one), some (.int two), some (.int (T0_j7 σ ξ one two)), some (.int (T0_j32 σ ξ one two)), some (.int (T0_j54 σ ξ one two)), some (.int (T0_j70 σ ξ one two)), some (.int (T0_j84 σ ξ one two)), none] [.int (M_ridge ξ (T0_j54 σ ξ one two) (T0_j84 σ ξ one two))] 131 1 6
              refine J_iload_12 X dL_isTold_131 ?_
              have K133_141 : ∀ (v133_0 : Int32), v133_0 = (T0_j133 σ ξ one two) → J K (un hx12 la) [some (.ref r), some (.ref (α 0)), some (.ref (α 1)), some (.ref (α 2)), some (.ref (α 3)), some (.ref (α 7)), some (.int (0 : Int32)), some (.int one), some (.int two), some (.int (T0_j7 σ ξ one two)), some (.int (T0_j32 σ ξ one two)), some (.int (T0_j54 σ ξ one two)), some (.int (T0_j70 σ ξ one two)), some (.int (T0_j84 σ ξ one two)), none] [.int v133_0] 141 1 6 := by
                intro v133_0 ev133_0
                try rw [ev133_0]
                clear ev133_0
                exact J_zret X rfl (T0_j133_b ..) rfl ⟨by rw [q_v], hx12, by rw [q_s]; exact hR12, by rw [q_x]; exact hX12⟩ dL_isTold_141
              have j133_0 : T0_j133 σ ξ one two = (if (M_ridge ξ (T0_j54 σ ξ one two) (T0_j84 σ ξ one two)) = (T0_j70 σ ξ one two) then (1 : Int32) else (0 : Int32)) := rfl
              refine J_icmp_ne (tgt := 140) X dL_isTold_133 (by decide) (fun c133 => ?_) (fun c133 => ?_)
              · skip
                rw [if_neg c133] at j133_0
                refine J_iconst (v := 0) X dL_isTold_140 rfl ?_
                exact K133_141 _ j133_0.symm
              · skip
                rw [if_pos c133] at j133_0
                refine J_iconst (v := 1) X dL_isTold_136 rfl ?_
                refine J_goto (tgt := 141) X dL_isTold_137 (by decide) ?_
                exact K133_141 _ j133_0.symm
            have j103_0 : T0_j103 σ ξ one two = (if (T0_j84 σ ξ one two) = (T0_j70 σ ξ one two) then (0 : Int32) else (if (T0_j84 σ ξ one two) = (0 : Int32) then (-4 : Int32) else (4 : Int32))) := rfl
            refine J_icmp_ne (tgt := 110) X dL_isTold_103 (by decide) (fun c103 => ?_) (fun c103 => ?_)
            · skip
              rw [if_neg c103] at j103_0
              refine J_iload_13 X dL_isTold_110 ?_
              refine J_if_eq (tgt := 119) X dL_isTold_112 (by decide) (fun c112 => ?_) (fun c112 => ?_)
              · skip
                rw [if_pos c112] at j103_0
                refine J_bipush (v := (-4 : Int32)) X dL_isTold_119 (by decide) ?_
                exact K103_121 _ j103_0.symm
              · skip
                rw [if_neg c112] at j103_0
                refine J_iconst (v := 4) X dL_isTold_115 rfl ?_
                refine J_goto (tgt := 121) X dL_isTold_116 (by decide) ?_
                exact K103_121 _ j103_0.symm
            · skip
              rw [if_pos c103] at j103_0
              refine J_iconst (v := 0) X dL_isTold_106 rfl ?_
              refine J_goto (tgt := 121) X dL_isTold_107 (by decide) ?_
              exact K103_121 _ j103_0.symm
          have j84_0 : T0_j84 σ ξ one two = (if (two - two / (3 : Int32) * (3 : Int32)) ≤ (0 : Int32) then (0 : Int32) else (1 : Int32)) := rfl
          refine J_if_le (tgt := 91) X dL_isTold_84 (by decide) (fun c84 => ?_) (fun c84 => ?_)
          · skip
            rw [if_pos c84] at j84_0
            refine J_iconst (v := 0) X dL_isTold_91 rfl ?_
            exact K84_92 _ j84_0.symm
          · skip
            rw [if_neg c84] at j84_0
            refine J_iconst (v := 1) X dL_isTold_87 rfl ?_
            refine J_goto (tgt := 92) X dL_isTold_88 (by decide) ?_
            exact K84_92 _ j84_0.symm
        have j70_0 : T0_j70 σ ξ one two = (if (σ 0 (ix (T0_j54 σ ξ one two))) ≤ (3 : Int32) then (0 : Int32) else (1 : Int32)) := rfl
        refine J_icmp_le (tgt := 77) X dL_isTold_70 (by decide) (fun c70 => ?_) (fun c70 => ?_)
        · skip
          rw [if_pos c70] at j70_0
          refine J_iconst (v := 0) X dL_isTold_77 rfl ?_
          exact K70_78 _ j70_0.symm
        · skip
          rw [if_neg c70] at j70_0
          refine J_iconst (v := 1) X dL_isTold_73 rfl ?_
          refine J_goto (tgt := 78) X dL_isTold_74 (by decide) ?_
          exact K70_78 _ j70_0.symm
      have j54_0 : T0_j54 σ ξ one two = (if (T0_j7 σ ξ one two) = (64 : Int32) then (0 : Int32) else (T0_j7 σ ξ one two)) := rfl
      refine J_icmp_ne (tgt := 61) X dL_isTold_54 (by decide) (fun c54 => ?_) (fun c54 => ?_)
      · skip
        rw [if_neg c54] at j54_0
        refine J_iload_9 X dL_isTold_61 ?_
        exact K54_63 _ j54_0.symm
      · skip
        rw [if_pos c54] at j54_0
        refine J_iconst (v := 0) X dL_isTold_57 rfl ?_
        refine J_goto (tgt := 63) X dL_isTold_58 (by decide) ?_
        exact K54_63 _ j54_0.symm
    have j32_0 : T0_j32 σ ξ one two = (if (two - two / (13 : Int32) * (13 : Int32)) = (12 : Int32) then (4 : Int32) else (two - two / (2 : Int32) * (2 : Int32))) := rfl
    refine J_icmp_ne (tgt := 39) X dL_isTold_32 (by decide) (fun c32 => ?_) (fun c32 => ?_)
    · skip
      rw [if_neg c32] at j32_0
      refine J_iload_8 X dL_isTold_39 ?_
      refine J_iconst (v := 2) X dL_isTold_41 rfl ?_
      refine J_irem X dL_isTold_42 (by decide) ?_
      exact K32_43 _ j32_0.symm
    · skip
      rw [if_pos c32] at j32_0
      refine J_iconst (v := 4) X dL_isTold_35 rfl ?_
      refine J_goto (tgt := 43) X dL_isTold_36 (by decide) ?_
      exact K32_43 _ j32_0.symm
  have j7_0 : T0_j7 σ ξ one two = (if (one - one / (17 : Int32) * (17 : Int32)) = (16 : Int32) then (64 : Int32) else ((16 : Int32) + (one - one / (24 : Int32) * (24 : Int32)))) := rfl
  refine J_icmp_ne (tgt := 15) X dL_isTold_7 (by decide) (fun c7 => ?_) (fun c7 => ?_)
  · skip
    rw [if_neg c7] at j7_0
    refine J_bipush (v := (16 : Int32)) X dL_isTold_15 (by decide) ?_
    refine J_iload_7 X dL_isTold_17 ?_
    refine J_bipush (v := (24 : Int32)) X dL_isTold_19 (by decide) ?_
    refine J_irem X dL_isTold_21 (by decide) ?_
    refine J_iadd X dL_isTold_22 ?_
    exact K7_23 _ j7_0.symm
  · skip
    rw [if_pos c7] at j7_0
    refine J_bipush (v := (64 : Int32)) X dL_isTold_10 (by decide) ?_
    refine J_goto (tgt := 23) X dL_isTold_12 (by decide) ?_
    exact K7_23 _ j7_0.symm
def T1_j7 (σ : St) (ξ : St) (one : Int32) (two : Int32) : Int32 := (if (one - one / (17 : Int32) * (17 : Int32)) = (16 : Int32) then (64 : Int32) else ((16 : Int32) + (one - one / (24 : Int32) * (24 : Int32))))
def T1_j32 (σ : St) (ξ : St) (one : Int32) (two : Int32) : Int32 := (if (two - two / (13 : Int32) * (13 : Int32)) = (12 : Int32) then (4 : Int32) else (two - two / (2 : Int32) * (2 : Int32)))
def T1_j152 (σ : St) (ξ : St) (one : Int32) (two : Int32) : Int32 := (if (64 : Int32) ≤ (T1_j7 σ ξ one two) then (0 : Int32) else (if (4 : Int32) ≤ (T1_j32 σ ξ one two) then (0 : Int32) else (1 : Int32)))
theorem T1_j152_b (σ : St) (ξ : St) (one : Int32) (two : Int32) : T1_j152 σ ξ one two = 0 ∨ T1_j152 σ ξ one two = 1 := by
  unfold T1_j152
  (repeat' split) <;> first | exact Or.inl (by with_reducible rfl) | exact Or.inr (by with_reducible rfl)
def T1_j170 (σ : St) (ξ : St) (one : Int32) (two : Int32) : Int32 := (if (T1_j152 σ ξ one two) = (0 : Int32) then (0 : Int32) else ((σ 0 (ix (T1_j7 σ ξ one two))) - (σ 0 (ix (T1_j7 σ ξ one two))) / (4 : Int32) * (4 : Int32)))
def T1_j188 (σ : St) (ξ : St) (one : Int32) (two : Int32) : Int32 := (if (T1_j152 σ ξ one two) = (0 : Int32) then (0 : Int32) else (T1_j7 σ ξ one two))
def T1_j201 (σ : St) (ξ : St) (one : Int32) (two : Int32) : Int32 := (if (T1_j152 σ ξ one two) = (0 : Int32) then (0 : Int32) else ((T1_j32 σ ξ one two) - (T1_j170 σ ξ one two)))
def T1_j229 (σ : St) (ξ : St) (one : Int32) (two : Int32) : Int32 := (if (T1_j152 σ ξ one two) = (0 : Int32) then (-3000000 : Int32) else (T1_j170 σ ξ one two))
def T1_j239 (σ : St) (ξ : St) (one : Int32) (two : Int32) : Int32 := (if (DV_0 ξ (T1_j7 σ ξ one two) (T1_j32 σ ξ one two)) = (T1_j229 σ ξ one two) then (1 : Int32) else (0 : Int32))
theorem T1_j239_b (σ : St) (ξ : St) (one : Int32) (two : Int32) : T1_j239 σ ξ one two = 0 ∨ T1_j239 σ ξ one two = 1 := by
  unfold T1_j239
  (repeat' split) <;> first | exact Or.inl (by with_reducible rfl) | exact Or.inr (by with_reducible rfl)
def T1 (σ : St) (ξ : St) (one : Int32) (two : Int32) : Int32 := (T1_j239 σ ξ one two)
def T1_s (σ : St) (ξ : St) (one : Int32) (two : Int32) : St := (sS σ 0 (ix (T1_j188 σ ξ one two)) ((σ 0 (ix (T1_j188 σ ξ one two))) + (T1_j201 σ ξ one two)))
def T1_x (σ : St) (ξ : St) (one : Int32) (two : Int32) : St := (M_zone_s ξ (T1_j7 σ ξ one two) (T1_j32 σ ξ one two))
theorem T1_b (σ : St) (ξ : St) (one : Int32) (two : Int32) : (T1 σ ξ one two) = 0 ∨ (T1 σ ξ one two) = 1 := by
  unfold T1
  (repeat' split) <;> first | exact Or.inl (by with_reducible rfl) | exact Or.inr (by with_reducible rfl) | exact T1_j239_b ..
theorem T1_pl {σ ξ : St} {one two : Int32} (h1 : vp_in one 60000) : vp_in (T1_j7 σ ξ one two) 65 := by
  unfold T1_j7
  split
  · exact vp_in_nI (n := 64) (by decide) (by decide)
  · exact vp_up (vr_add (vp_in_nI (n := 16) (N := 17) (by decide) (by decide)) (vr_rem (c := 24) h1 (by decide) (by decide) (by decide)) (by decide)) (by decide)
theorem T1_zn {σ ξ : St} {one two : Int32} (h2 : vp_in two 60000) : vp_in (T1_j32 σ ξ one two) 5 := by
  unfold T1_j32
  split
  · exact vp_in_nI (n := 4) (by decide) (by decide)
  · exact vp_up (vr_rem (c := 2) h2 (by decide) (by decide) (by decide)) (by decide)
theorem T1_are {σ ξ : St} {one two : Int32} (h1 : vp_in one 60000) (h2 : vp_in two 60000) (c : ¬ T1_j152 σ ξ one two = 0) : vp_in (T1_j7 σ ξ one two) 64 ∧ vp_in (T1_j32 σ ξ one two) 4 := by
  unfold T1_j152 at c
  split at c
  · exact absurd rfl c
  · split at c
    · exact absurd rfl c
    · exact ⟨lt_up (T1_pl h1) (by decide) (by decide) rfl (by assumption), lt_up (T1_zn h2) (by decide) (by decide) rfl (by assumption)⟩
theorem T1_at {σ ξ : St} {one two : Int32} (h1 : vp_in one 60000) (h2 : vp_in two 60000) : vp_in (T1_j188 σ ξ one two) 64 := by
  unfold T1_j188
  split
  · exact vp_in_nI (n := 0) (by decide) (by decide)
  · exact (T1_are h1 h2 (by assumption)).1
set_option maxRecDepth 100000 in
set_option maxHeartbeats 4000000 in
theorem c_T1 {l : Launch} {D : va_G} {ca : Nat → Nat} {h hx : fH} {r : Nat} {α : Nat → Nat} {σ ξ : St} (hL : LH ca hx h α σ) (hX : RA ca hx r ξ) (hIX : InvX ξ) (hIO : InvO ξ) (hQ : LQ ξ σ) (one : Int32) (two : Int32) (h1 : vp_in one 60000) (h2 : vp_in two 60000) : FM l D ca yL_isTold (.code yL_isTold cL_isTold 15 (some .boolean)) { frames := 10, cells := 2, slots := 12, locals := 199 } [.ref r, .ref (α 0), .ref (α 1), .ref (α 2), .ref (α 3), .ref (α 7), .int (1 : Int32), .int one, .int two] h (fun v h2 => v = some (.int (T1 σ ξ one two)) ∧ ∃ hx2, LH ca hx2 h2 α (T1_s σ ξ one two) ∧ RA ca hx2 r (T1_x σ ξ one two)) noX := by
  refine FM.of [some (.ref r), some (.ref (α 0)), some (.ref (α 1)), some (.ref (α 2)), some (.ref (α 3)), some (.ref (α 7)), some (.int (1 : Int32)), some (.int one), some (.int two), none, none, none, none, none, none] (by decide) (Nat.le_of_ble_eq_true rfl) rfl ?_
  rintro K X rfl rfl rfl
  have hI := IL_of hQ hIX
  have q_v : (T1 σ ξ one two) = (T1_j239 σ ξ one two) := rfl
  have q_s : (T1_s σ ξ one two) = (sS σ 0 (ix (T1_j188 σ ξ one two)) ((σ 0 (ix (T1_j188 σ ξ one two))) + (T1_j201 σ ξ one two))) := rfl
  have q_x : (T1_x σ ξ one two) = (M_zone_s ξ (T1_j7 σ ξ one two) (T1_j32 σ ξ one two)) := rfl
  refine J_iload_7 X dL_isTold_0 ?_
  refine J_bipush (v := (17 : Int32)) X dL_isTold_2 (by decide) ?_
  refine J_irem X dL_isTold_4 (by decide) ?_
  refine J_bipush (v := (16 : Int32)) X dL_isTold_5 (by decide) ?_
  have K7_23 : ∀ (v7_0 : Int32), v7_0 = (T1_j7 σ ξ one two) → J K h [some (.ref r), some (.ref (α 0)), some (.ref (α 1)), some (.ref (α 2)), some (.ref (α 3)), some (.ref (α 7)), some (.int (1 : Int32)), some (.int one), some (.int two), none, none, none, none, none, none] [.int v7_0] 23 0 0 := by
    intro v7_0 ev7_0
    try rw [ev7_0]
    clear ev7_0
    refine J_istore_9 X dL_isTold_23 rfl (by decide) ?_
    refine J_iload_8 X dL_isTold_25 ?_
    refine J_bipush (v := (13 : Int32)) X dL_isTold_27 (by decide) ?_
    refine J_irem X dL_isTold_29 (by decide) ?_
    refine J_bipush (v := (12 : Int32)) X dL_isTold_30 (by decide) ?_
    have K32_43 : ∀ (v32_0 : Int32), v32_0 = (T1_j32 σ ξ one two) → J K h [some (.ref r), some (.ref (α 0)), some (.ref (α 1)), some (.ref (α 2)), some (.ref (α 3)), some (.ref (α 7)), some (.int (1 : Int32)), some (.int one), some (.int two), some (.int (T1_j7 σ ξ one two)), none, none, none, none, none] [.int v32_0] 43 0 0 := by
      intro v32_0 ev32_0
      try rw [ev32_0]
      clear ev32_0
      refine J_istore_10 X dL_isTold_43 rfl (by decide) ?_
      refine J_iload_6 X dL_isTold_45 ?_
      refine J_if_ne (tgt := 142) X dL_isTold_47 (by decide) (fun _ => ?_) (fun c => absurd c (by decide))
      refine J_iload_6 X dL_isTold_142 ?_
      refine J_iconst (v := 1) X dL_isTold_144 rfl ?_
      refine J_icmp_ne (tgt := 248) X dL_isTold_145 (by decide) (fun c => absurd (by decide) c) (fun _ => ?_)
      refine J_iload_9 X dL_isTold_148 ?_
      refine J_bipush (v := (64 : Int32)) X dL_isTold_150 (by decide) ?_
      have K152_166 : ∀ (v152_0 : Int32), v152_0 = (T1_j152 σ ξ one two) → J K h [some (.ref r), some (.ref (α 0)), some (.ref (α 1)), some (.ref (α 2)), some (.ref (α 3)), some (.ref (α 7)), some (.int (1 : Int32)), some (.int one), some (.int two), some (.int (T1_j7 σ ξ one two)), some (.int (T1_j32 σ ξ one two)), none, none, none, none] [.int v152_0] 166 0 0 := by
        intro v152_0 ev152_0
        try rw [ev152_0]
        clear ev152_0
        refine J_istore_11 X dL_isTold_166 rfl (by decide) ?_
        refine J_iload_11 X dL_isTold_168 ?_
        have K170_183 : ∀ (v170_0 : Int32), v170_0 = (T1_j170 σ ξ one two) → J K h [some (.ref r), some (.ref (α 0)), some (.ref (α 1)), some (.ref (α 2)), some (.ref (α 3)), some (.ref (α 7)), some (.int (1 : Int32)), some (.int one), some (.int two), some (.int (T1_j7 σ ξ one two)), some (.int (T1_j32 σ ξ one two)), some (.int (T1_j152 σ ξ one two)), none, none, none] [.int v170_0] 183 0 0 := by
          intro v170_0 ev170_0
          try rw [ev170_0]
          clear ev170_0
          refine J_istore_12 X dL_isTold_183 rfl (by decide) ?_
          refine J_aload_1 X dL_isTold_185 ?_
          refine J_iload_11 X dL_isTold_186 ?_
          have K188_197 : ∀ (v188_0 : Int32), v188_0 = (T1_j188 σ ξ one two) → J K h [some (.ref r), some (.ref (α 0)), some (.ref (α 1)), some (.ref (α 2)), some (.ref (α 3)), some (.ref (α 7)), some (.int (1 : Int32)), some (.int one), some (.int two), some (.int (T1_j7 σ ξ one two)), some (.int (T1_j32 σ ξ one two)), some (.int (T1_j152 σ ξ one two)), some (.int (T1_j170 σ ξ one two)), none, none] [.int v188_0, .ref (α 0)] 197 0 0 := by
            intro v188_0 ev188_0
            try rw [ev188_0]
            clear ev188_0
            refine J_dup2 X dL_isTold_197 rfl rfl ?_
            refine JL_ld X hL.la 0 (by decide) (vp_up (T1_at h1 h2) (by decide)) dL_isTold_198 ?_
            refine J_iload_11 X dL_isTold_199 ?_
            have K201_213 : ∀ (v201_0 : Int32), v201_0 = (T1_j201 σ ξ one two) → J K h [some (.ref r), some (.ref (α 0)), some (.ref (α 1)), some (.ref (α 2)), some (.ref (α 3)), some (.ref (α 7)), some (.int (1 : Int32)), some (.int one), some (.int two), some (.int (T1_j7 σ ξ one two)), some (.int (T1_j32 σ ξ one two)), some (.int (T1_j152 σ ξ one two)), some (.int (T1_j170 σ ξ one two)), none, none] [.int v201_0, .int (σ 0 (ix (T1_j188 σ ξ one two))), .int (T1_j188 σ ξ one two), .ref (α 0)] 213 0 0 := by
              intro v201_0 ev201_0
              try rw [ev201_0]
              clear ev201_0
              refine J_iadd X dL_isTold_213 ?_
              refine JL_st X hL 0 (by decide) (vp_up (T1_at h1 h2) (by decide)) dL_isTold_214 (fun h11 hR11 => ?_)
              refine J_aload_0 X dL_isTold_215 ?_
              refine J_iconst (v := 0) X dL_isTold_216 rfl ?_
              refine J_iload_9 X dL_isTold_217 ?_
              refine J_iload_10 X dL_isTold_219 ?_
              refine J_iconst (v := 0) X dL_isTold_221 rfl ?_
              refine J_iconst (v := 0) X dL_isTold_222 rfl ?_
              refine J_iconst (v := 0) X dL_isTold_223 rfl ?_
              obtain ⟨la, eh, hap, hLA, hα⟩ := hR11
              subst eh
              refine J_callSW X ((c_D_0 hX hIX hIO (T1_j7 σ ξ one two) (T1_j32 σ ξ one two) (0 : Int32) (0 : Int32) (0 : Int32)).frame hap) (And.intro gw_2_177 cw_L_does) rfl rfl (Nat.le_of_ble_eq_true rfl) dL_isTold_224 rfl (fun v h12 e => ?_) (fun E h12 e => by obtain ⟨_, q, _⟩ := e; exact q.elim)
              obtain ⟨hx12, ⟨e0, hX12⟩, hap12, eh⟩ := e
              subst e0
              subst eh
              have hR12 : LH (kca K) hx12 (un hx12 la) α (sS σ 0 (ix (T1_j188 σ ξ one two)) ((σ 0 (ix (T1_j188 σ ξ one two))) + (T1_j201 σ ξ one two))) := ⟨la, rfl, hap12, hLA, hα⟩
              show J K (un hx12 la) [some (.ref r), some (.ref (α 0)), some (.ref (α 1)), some (.ref (α 2)), some (.ref (α 3)), some (.ref (α 7)), some (.int (1 : Int32)), some (.int one), some (.int two), some (.int (T1_j7 σ ξ one two)), some (.int (T1_j32 σ ξ one two)), some (.int (T1_j152 σ ξ one two)), some (.int (T1_j170 σ ξ one two)), none, none] [.int (DV_0 ξ (T1_j7 σ ξ one two) (T1_j32 σ ξ one two))] 227 2 12
              refine J_iload_11 X dL_isTold_227 ?_
              have K229_239 : ∀ (v229_0 : Int32), v229_0 = (T1_j229 σ ξ one two) → J K (un hx12 la) [some (.ref r), some (.ref (α 0)), some (.ref (α 1)), some (.ref (α 2)), some (.ref (α 3)), some (.ref (α 7)), some (.int (1 : Int32)), some (.int one), some (.int two), some (.int (T1_j7 σ ξ one two)), some (.int (T1_j32 σ ξ one two)), some (.int (T1_j152 σ ξ one two)), some (.int (T1_j170 σ ξ one two)), none, none] [.int v229_0, .int (DV_0 ξ (T1_j7 σ ξ one two) (T1_j32 σ ξ one two))] 239 2 12 := by
                intro v229_0 ev229_0
                try rw [ev229_0]
                clear ev229_0
                have K239_247 : ∀ (v239_0 : Int32), v239_0 = (T1_j239 σ ξ one two) → J K (un hx12 la) [some (.ref r), some (.ref (α 0)), some (.ref (α 1)), some (.ref (α 2)), some (.ref (α 3)), some (.ref (α 7)), some (.int (1 : Int32)), some (.int one), some (.int two), some (.int (T1_j7 σ ξ one two)), some (.int (T1_j32 σ ξ one two)), some (.int (T1_j152 σ ξ one two)), some (.int (T1_j170 σ ξ one two)), none, none] [.int v239_0] 247 2 12 := by
                  intro v239_0 ev239_0
                  try rw [ev239_0]
                  clear ev239_0
                  exact J_zret X rfl (T1_j239_b ..) rfl ⟨by rw [q_v], hx12, by rw [q_s]; exact hR12, by rw [q_x]; exact hX12⟩ dL_isTold_247
                have j239_0 : T1_j239 σ ξ one two = (if (DV_0 ξ (T1_j7 σ ξ one two) (T1_j32 σ ξ one two)) = (T1_j229 σ ξ one two) then (1 : Int32) else (0 : Int32)) := rfl
                refine J_icmp_ne (tgt := 246) X dL_isTold_239 (by decide) (fun c239 => ?_) (fun c239 => ?_)
                · skip
                  rw [if_neg c239] at j239_0
                  refine J_iconst (v := 0) X dL_isTold_246 rfl ?_
                  exact K239_247 _ j239_0.symm
                · skip
                  rw [if_pos c239] at j239_0
                  refine J_iconst (v := 1) X dL_isTold_242 rfl ?_
                  refine J_goto (tgt := 247) X dL_isTold_243 (by decide) ?_
                  exact K239_247 _ j239_0.symm
              have j229_0 : T1_j229 σ ξ one two = (if (T1_j152 σ ξ one two) = (0 : Int32) then (-3000000 : Int32) else (T1_j170 σ ξ one two)) := rfl
              refine J_if_eq (tgt := 237) X dL_isTold_229 (by decide) (fun c229 => ?_) (fun c229 => ?_)
              · skip
                rw [if_pos c229] at j229_0
                refine J_ldc (v := (-3000000 : Int32)) X dL_isTold_237 gw_4_72 ?_
                exact K229_239 _ j229_0.symm
              · skip
                rw [if_neg c229] at j229_0
                refine J_iload_12 X dL_isTold_232 ?_
                refine J_goto (tgt := 239) X dL_isTold_234 (by decide) ?_
                exact K229_239 _ j229_0.symm
            have j201_0 : T1_j201 σ ξ one two = (if (T1_j152 σ ξ one two) = (0 : Int32) then (0 : Int32) else ((T1_j32 σ ξ one two) - (T1_j170 σ ξ one two))) := rfl
            refine J_if_eq (tgt := 212) X dL_isTold_201 (by decide) (fun c201 => ?_) (fun c201 => ?_)
            · skip
              rw [if_pos c201] at j201_0
              refine J_iconst (v := 0) X dL_isTold_212 rfl ?_
              exact K201_213 _ j201_0.symm
            · skip
              rw [if_neg c201] at j201_0
              refine J_iload_10 X dL_isTold_204 ?_
              refine J_iload_12 X dL_isTold_206 ?_
              refine J_isub X dL_isTold_208 ?_
              refine J_goto (tgt := 213) X dL_isTold_209 (by decide) ?_
              exact K201_213 _ j201_0.symm
          have j188_0 : T1_j188 σ ξ one two = (if (T1_j152 σ ξ one two) = (0 : Int32) then (0 : Int32) else (T1_j7 σ ξ one two)) := rfl
          refine J_if_eq (tgt := 196) X dL_isTold_188 (by decide) (fun c188 => ?_) (fun c188 => ?_)
          · skip
            rw [if_pos c188] at j188_0
            refine J_iconst (v := 0) X dL_isTold_196 rfl ?_
            exact K188_197 _ j188_0.symm
          · skip
            rw [if_neg c188] at j188_0
            refine J_iload_9 X dL_isTold_191 ?_
            refine J_goto (tgt := 197) X dL_isTold_193 (by decide) ?_
            exact K188_197 _ j188_0.symm
        have j170_0 : T1_j170 σ ξ one two = (if (T1_j152 σ ξ one two) = (0 : Int32) then (0 : Int32) else ((σ 0 (ix (T1_j7 σ ξ one two))) - (σ 0 (ix (T1_j7 σ ξ one two))) / (4 : Int32) * (4 : Int32))) := rfl
        refine J_if_eq (tgt := 182) X dL_isTold_170 (by decide) (fun c170 => ?_) (fun c170 => ?_)
        · skip
          rw [if_pos c170] at j170_0
          refine J_iconst (v := 0) X dL_isTold_182 rfl ?_
          exact K170_183 _ j170_0.symm
        · skip
          rw [if_neg c170] at j170_0
          refine J_aload_1 X dL_isTold_173 ?_
          refine J_iload_9 X dL_isTold_174 ?_
          refine JL_ld X hL.la 0 (by decide) (T1_are h1 h2 c170).1 dL_isTold_176 ?_
          refine J_iconst (v := 4) X dL_isTold_177 rfl ?_
          refine J_irem X dL_isTold_178 (by decide) ?_
          refine J_goto (tgt := 183) X dL_isTold_179 (by decide) ?_
          exact K170_183 _ j170_0.symm
      have j152_0 : T1_j152 σ ξ one two = (if (64 : Int32) ≤ (T1_j7 σ ξ one two) then (0 : Int32) else (if (4 : Int32) ≤ (T1_j32 σ ξ one two) then (0 : Int32) else (1 : Int32))) := rfl
      refine J_icmp_ge (tgt := 165) X dL_isTold_152 (by decide) (fun c152 => ?_) (fun c152 => ?_)
      · skip
        rw [if_pos c152] at j152_0
        refine J_iconst (v := 0) X dL_isTold_165 rfl ?_
        exact K152_166 _ j152_0.symm
      · skip
        rw [if_neg c152] at j152_0
        refine J_iload_10 X dL_isTold_155 ?_
        refine J_iconst (v := 4) X dL_isTold_157 rfl ?_
        refine J_icmp_ge (tgt := 165) X dL_isTold_158 (by decide) (fun c158 => ?_) (fun c158 => ?_)
        · skip
          rw [if_pos c158] at j152_0
          refine J_iconst (v := 0) X dL_isTold_165 rfl ?_
          exact K152_166 _ j152_0.symm
        · skip
          rw [if_neg c158] at j152_0
          refine J_iconst (v := 1) X dL_isTold_161 rfl ?_
          refine J_goto (tgt := 166) X dL_isTold_162 (by decide) ?_
          exact K152_166 _ j152_0.symm
    have j32_0 : T1_j32 σ ξ one two = (if (two - two / (13 : Int32) * (13 : Int32)) = (12 : Int32) then (4 : Int32) else (two - two / (2 : Int32) * (2 : Int32))) := rfl
    refine J_icmp_ne (tgt := 39) X dL_isTold_32 (by decide) (fun c32 => ?_) (fun c32 => ?_)
    · skip
      rw [if_neg c32] at j32_0
      refine J_iload_8 X dL_isTold_39 ?_
      refine J_iconst (v := 2) X dL_isTold_41 rfl ?_
      refine J_irem X dL_isTold_42 (by decide) ?_
      exact K32_43 _ j32_0.symm
    · skip
      rw [if_pos c32] at j32_0
      refine J_iconst (v := 4) X dL_isTold_35 rfl ?_
      refine J_goto (tgt := 43) X dL_isTold_36 (by decide) ?_
      exact K32_43 _ j32_0.symm
  have j7_0 : T1_j7 σ ξ one two = (if (one - one / (17 : Int32) * (17 : Int32)) = (16 : Int32) then (64 : Int32) else ((16 : Int32) + (one - one / (24 : Int32) * (24 : Int32)))) := rfl
  refine J_icmp_ne (tgt := 15) X dL_isTold_7 (by decide) (fun c7 => ?_) (fun c7 => ?_)
  · skip
    rw [if_neg c7] at j7_0
    refine J_bipush (v := (16 : Int32)) X dL_isTold_15 (by decide) ?_
    refine J_iload_7 X dL_isTold_17 ?_
    refine J_bipush (v := (24 : Int32)) X dL_isTold_19 (by decide) ?_
    refine J_irem X dL_isTold_21 (by decide) ?_
    refine J_iadd X dL_isTold_22 ?_
    exact K7_23 _ j7_0.symm
  · skip
    rw [if_pos c7] at j7_0
    refine J_bipush (v := (64 : Int32)) X dL_isTold_10 (by decide) ?_
    refine J_goto (tgt := 23) X dL_isTold_12 (by decide) ?_
    exact K7_23 _ j7_0.symm
def T2_j7 (σ : St) (ξ : St) (one : Int32) (two : Int32) : Int32 := (if (one - one / (17 : Int32) * (17 : Int32)) = (16 : Int32) then (64 : Int32) else ((16 : Int32) + (one - one / (24 : Int32) * (24 : Int32))))
def T2_j32 (σ : St) (ξ : St) (one : Int32) (two : Int32) : Int32 := (if (two - two / (13 : Int32) * (13 : Int32)) = (12 : Int32) then (4 : Int32) else (two - two / (2 : Int32) * (2 : Int32)))
def T2_j259 (σ : St) (ξ : St) (one : Int32) (two : Int32) : Int32 := (if (one - one / (9 : Int32) * (9 : Int32)) = (0 : Int32) then ((17 : Int32) + (((one / (9 : Int32)) - (one / (9 : Int32)) / (2 : Int32) * (2 : Int32)) * (8 : Int32))) else ((18 : Int32) + (one - one / (7 : Int32) * (7 : Int32))))
def T2_j298 (σ : St) (ξ : St) (one : Int32) (two : Int32) : Int32 := (if ((two / (13 : Int32)) - (two / (13 : Int32)) / (13 : Int32) * (13 : Int32)) = (12 : Int32) then (3 : Int32) else ((two / (13 : Int32)) - (two / (13 : Int32)) / (3 : Int32) * (3 : Int32)))
def T2_j328 (σ : St) (ξ : St) (one : Int32) (two : Int32) : Int32 := (if (T2_j259 σ ξ one two) ≤ (17 : Int32) then (0 : Int32) else (if (25 : Int32) ≤ (T2_j259 σ ξ one two) then (0 : Int32) else (if (3 : Int32) ≤ (T2_j298 σ ξ one two) then (0 : Int32) else (if (11 : Int32) ≤ ((one / (9 : Int32)) - (one / (9 : Int32)) / (12 : Int32) * (12 : Int32)) then (0 : Int32) else (1 : Int32)))))
theorem T2_j328_b (σ : St) (ξ : St) (one : Int32) (two : Int32) : T2_j328 σ ξ one two = 0 ∨ T2_j328 σ ξ one two = 1 := by
  unfold T2_j328
  (repeat' split) <;> first | exact Or.inl (by with_reducible rfl) | exact Or.inr (by with_reducible rfl)
def T2_j361_s (σ : St) (ξ : St) (one : Int32) (two : Int32) : St := (if (4 : Int32) ≤ (T2_j32 σ ξ one two) then σ else (if (T2_j328 σ ξ one two) = (0 : Int32) then σ else (sS σ 1 (ix (T2_j32 σ ξ one two)) (((T2_j259 σ ξ one two) + ((32 : Int32) * (T2_j298 σ ξ one two))) + ((128 : Int32) * ((one / (9 : Int32)) - (one / (9 : Int32)) / (12 : Int32) * (12 : Int32)))))))
def T2_j405 (σ : St) (ξ : St) (one : Int32) (two : Int32) : Int32 := (if (T2_j32 σ ξ one two) = (4 : Int32) then (-3000000 : Int32) else (if (T2_j328 σ ξ one two) = (0 : Int32) then (-2000000 : Int32) else (0 : Int32)))
def T2_j424 (σ : St) (ξ : St) (one : Int32) (two : Int32) : Int32 := (if (DV_1 ξ (T2_j32 σ ξ one two) (T2_j259 σ ξ one two) (T2_j298 σ ξ one two) ((one / (9 : Int32)) - (one / (9 : Int32)) / (12 : Int32) * (12 : Int32))) = (T2_j405 σ ξ one two) then (1 : Int32) else (0 : Int32))
theorem T2_j424_b (σ : St) (ξ : St) (one : Int32) (two : Int32) : T2_j424 σ ξ one two = 0 ∨ T2_j424 σ ξ one two = 1 := by
  unfold T2_j424
  (repeat' split) <;> first | exact Or.inl (by with_reducible rfl) | exact Or.inr (by with_reducible rfl)
def T2 (σ : St) (ξ : St) (one : Int32) (two : Int32) : Int32 := (T2_j424 σ ξ one two)
def T2_s (σ : St) (ξ : St) (one : Int32) (two : Int32) : St := (T2_j361_s σ ξ one two)
def T2_x (σ : St) (ξ : St) (one : Int32) (two : Int32) : St := (M_law_s ξ (T2_j32 σ ξ one two) (T2_j259 σ ξ one two) (T2_j298 σ ξ one two) ((one / (9 : Int32)) - (one / (9 : Int32)) / (12 : Int32) * (12 : Int32)))
theorem T2_b (σ : St) (ξ : St) (one : Int32) (two : Int32) : (T2 σ ξ one two) = 0 ∨ (T2 σ ξ one two) = 1 := by
  unfold T2
  (repeat' split) <;> first | exact Or.inl (by with_reducible rfl) | exact Or.inr (by with_reducible rfl) | exact T2_j424_b ..
theorem T2_pl {σ ξ : St} {one two : Int32} (h1 : vp_in one 60000) : vp_in (T2_j7 σ ξ one two) 65 := by
  unfold T2_j7
  split
  · exact vp_in_nI (n := 64) (by decide) (by decide)
  · exact vp_up (vr_add (vp_in_nI (n := 16) (N := 17) (by decide) (by decide)) (vr_rem (c := 24) h1 (by decide) (by decide) (by decide)) (by decide)) (by decide)
theorem T2_zn {σ ξ : St} {one two : Int32} (h2 : vp_in two 60000) : vp_in (T2_j32 σ ξ one two) 5 := by
  unfold T2_j32
  split
  · exact vp_in_nI (n := 4) (by decide) (by decide)
  · exact vp_up (vr_rem (c := 2) h2 (by decide) (by decide) (by decide)) (by decide)
set_option maxRecDepth 100000 in
set_option maxHeartbeats 4000000 in
theorem c_T2 {l : Launch} {D : va_G} {ca : Nat → Nat} {h hx : fH} {r : Nat} {α : Nat → Nat} {σ ξ : St} (hL : LH ca hx h α σ) (hX : RA ca hx r ξ) (hIX : InvX ξ) (hIO : InvO ξ) (hQ : LQ ξ σ) (one : Int32) (two : Int32) (h1 : vp_in one 60000) (h2 : vp_in two 60000) : FM l D ca yL_isTold (.code yL_isTold cL_isTold 15 (some .boolean)) { frames := 11, cells := 4, slots := 24, locals := 223 } [.ref r, .ref (α 0), .ref (α 1), .ref (α 2), .ref (α 3), .ref (α 7), .int (2 : Int32), .int one, .int two] h (fun v h2 => v = some (.int (T2 σ ξ one two)) ∧ ∃ hx2, LH ca hx2 h2 α (T2_s σ ξ one two) ∧ RA ca hx2 r (T2_x σ ξ one two)) noX := by
  refine FM.of [some (.ref r), some (.ref (α 0)), some (.ref (α 1)), some (.ref (α 2)), some (.ref (α 3)), some (.ref (α 7)), some (.int (2 : Int32)), some (.int one), some (.int two), none, none, none, none, none, none] (by decide) (Nat.le_of_ble_eq_true rfl) rfl ?_
  rintro K X rfl rfl rfl
  have hI := IL_of hQ hIX
  have q_v : (T2 σ ξ one two) = (T2_j424 σ ξ one two) := rfl
  have q_s : (T2_s σ ξ one two) = (T2_j361_s σ ξ one two) := rfl
  have q_x : (T2_x σ ξ one two) = (M_law_s ξ (T2_j32 σ ξ one two) (T2_j259 σ ξ one two) (T2_j298 σ ξ one two) ((one / (9 : Int32)) - (one / (9 : Int32)) / (12 : Int32) * (12 : Int32))) := rfl
  refine J_iload_7 X dL_isTold_0 ?_
  refine J_bipush (v := (17 : Int32)) X dL_isTold_2 (by decide) ?_
  refine J_irem X dL_isTold_4 (by decide) ?_
  refine J_bipush (v := (16 : Int32)) X dL_isTold_5 (by decide) ?_
  have K7_23 : ∀ (v7_0 : Int32), v7_0 = (T2_j7 σ ξ one two) → J K h [some (.ref r), some (.ref (α 0)), some (.ref (α 1)), some (.ref (α 2)), some (.ref (α 3)), some (.ref (α 7)), some (.int (2 : Int32)), some (.int one), some (.int two), none, none, none, none, none, none] [.int v7_0] 23 0 0 := by
    intro v7_0 ev7_0
    try rw [ev7_0]
    clear ev7_0
    refine J_istore_9 X dL_isTold_23 rfl (by decide) ?_
    refine J_iload_8 X dL_isTold_25 ?_
    refine J_bipush (v := (13 : Int32)) X dL_isTold_27 (by decide) ?_
    refine J_irem X dL_isTold_29 (by decide) ?_
    refine J_bipush (v := (12 : Int32)) X dL_isTold_30 (by decide) ?_
    have K32_43 : ∀ (v32_0 : Int32), v32_0 = (T2_j32 σ ξ one two) → J K h [some (.ref r), some (.ref (α 0)), some (.ref (α 1)), some (.ref (α 2)), some (.ref (α 3)), some (.ref (α 7)), some (.int (2 : Int32)), some (.int one), some (.int two), some (.int (T2_j7 σ ξ one two)), none, none, none, none, none] [.int v32_0] 43 0 0 := by
      intro v32_0 ev32_0
      try rw [ev32_0]
      clear ev32_0
      refine J_istore_10 X dL_isTold_43 rfl (by decide) ?_
      refine J_iload_6 X dL_isTold_45 ?_
      refine J_if_ne (tgt := 142) X dL_isTold_47 (by decide) (fun _ => ?_) (fun c => absurd c (by decide))
      refine J_iload_6 X dL_isTold_142 ?_
      refine J_iconst (v := 1) X dL_isTold_144 rfl ?_
      refine J_icmp_ne (tgt := 248) X dL_isTold_145 (by decide) (fun _ => ?_) (fun c => absurd c (by decide))
      refine J_iload_6 X dL_isTold_248 ?_
      refine J_iconst (v := 2) X dL_isTold_250 rfl ?_
      refine J_icmp_ne (tgt := 433) X dL_isTold_251 (by decide) (fun c => absurd (by decide) c) (fun _ => ?_)
      refine J_iload_7 X dL_isTold_254 ?_
      refine J_bipush (v := (9 : Int32)) X dL_isTold_256 (by decide) ?_
      refine J_irem X dL_isTold_258 (by decide) ?_
      have K259_286 : ∀ (v259_0 : Int32), v259_0 = (T2_j259 σ ξ one two) → J K h [some (.ref r), some (.ref (α 0)), some (.ref (α 1)), some (.ref (α 2)), some (.ref (α 3)), some (.ref (α 7)), some (.int (2 : Int32)), some (.int one), some (.int two), some (.int (T2_j7 σ ξ one two)), some (.int (T2_j32 σ ξ one two)), none, none, none, none] [.int v259_0] 286 0 0 := by
        intro v259_0 ev259_0
        try rw [ev259_0]
        clear ev259_0
        refine J_istore_11 X dL_isTold_286 rfl (by decide) ?_
        refine J_iload_8 X dL_isTold_288 ?_
        refine J_bipush (v := (13 : Int32)) X dL_isTold_290 (by decide) ?_
        refine J_idiv X dL_isTold_292 (by decide) ?_
        refine J_bipush (v := (13 : Int32)) X dL_isTold_293 (by decide) ?_
        refine J_irem X dL_isTold_295 (by decide) ?_
        refine J_bipush (v := (12 : Int32)) X dL_isTold_296 (by decide) ?_
        have K298_312 : ∀ (v298_0 : Int32), v298_0 = (T2_j298 σ ξ one two) → J K h [some (.ref r), some (.ref (α 0)), some (.ref (α 1)), some (.ref (α 2)), some (.ref (α 3)), some (.ref (α 7)), some (.int (2 : Int32)), some (.int one), some (.int two), some (.int (T2_j7 σ ξ one two)), some (.int (T2_j32 σ ξ one two)), some (.int (T2_j259 σ ξ one two)), none, none, none] [.int v298_0] 312 0 0 := by
          intro v298_0 ev298_0
          try rw [ev298_0]
          clear ev298_0
          refine J_istore_12 X dL_isTold_312 rfl (by decide) ?_
          refine J_iload_7 X dL_isTold_314 ?_
          refine J_bipush (v := (9 : Int32)) X dL_isTold_316 (by decide) ?_
          refine J_idiv X dL_isTold_318 (by decide) ?_
          refine J_bipush (v := (12 : Int32)) X dL_isTold_319 (by decide) ?_
          refine J_irem X dL_isTold_321 (by decide) ?_
          refine J_istore_13 X dL_isTold_322 rfl (by decide) ?_
          refine J_iload_11 X dL_isTold_324 ?_
          refine J_bipush (v := (17 : Int32)) X dL_isTold_326 (by decide) ?_
          have K328_356 : ∀ (v328_0 : Int32), v328_0 = (T2_j328 σ ξ one two) → J K h [some (.ref r), some (.ref (α 0)), some (.ref (α 1)), some (.ref (α 2)), some (.ref (α 3)), some (.ref (α 7)), some (.int (2 : Int32)), some (.int one), some (.int two), some (.int (T2_j7 σ ξ one two)), some (.int (T2_j32 σ ξ one two)), some (.int (T2_j259 σ ξ one two)), some (.int (T2_j298 σ ξ one two)), some (.int ((one / (9 : Int32)) - (one / (9 : Int32)) / (12 : Int32) * (12 : Int32))), none] [.int v328_0] 356 0 0 := by
            intro v328_0 ev328_0
            try rw [ev328_0]
            clear ev328_0
            refine J_istore_14 X dL_isTold_356 rfl (by decide) ?_
            refine J_iload_10 X dL_isTold_358 ?_
            refine J_iconst (v := 4) X dL_isTold_360 rfl ?_
            have K361_388 : ∀ hj11 : fH, LH (kca K) hx hj11 α (T2_j361_s σ ξ one two) → J K hj11 [some (.ref r), some (.ref (α 0)), some (.ref (α 1)), some (.ref (α 2)), some (.ref (α 3)), some (.ref (α 7)), some (.int (2 : Int32)), some (.int one), some (.int two), some (.int (T2_j7 σ ξ one two)), some (.int (T2_j32 σ ξ one two)), some (.int (T2_j259 σ ξ one two)), some (.int (T2_j298 σ ξ one two)), some (.int ((one / (9 : Int32)) - (one / (9 : Int32)) / (12 : Int32) * (12 : Int32))), some (.int (T2_j328 σ ξ one two))] [] 388 0 0 := by
              intro hj11 hRj11
              refine J_aload_0 X dL_isTold_388 ?_
              refine J_iconst (v := 1) X dL_isTold_389 rfl ?_
              refine J_iload_10 X dL_isTold_390 ?_
              refine J_iload_11 X dL_isTold_392 ?_
              refine J_iload_12 X dL_isTold_394 ?_
              refine J_iload_13 X dL_isTold_396 ?_
              refine J_iconst (v := 0) X dL_isTold_398 rfl ?_
              obtain ⟨la, eh, hap, hLA, hα⟩ := hRj11
              subst eh
              refine J_callSW X ((c_D_1 hX hIX hIO (T2_j32 σ ξ one two) (T2_j259 σ ξ one two) (T2_j298 σ ξ one two) ((one / (9 : Int32)) - (one / (9 : Int32)) / (12 : Int32) * (12 : Int32)) (0 : Int32)).frame hap) (And.intro gw_2_177 cw_L_does) rfl rfl (Nat.le_of_ble_eq_true rfl) dL_isTold_399 rfl (fun v h12 e => ?_) (fun E h12 e => by obtain ⟨_, q, _⟩ := e; exact q.elim)
              obtain ⟨hx12, ⟨e0, hX12⟩, hap12, eh⟩ := e
              subst e0
              subst eh
              have hR12 : LH (kca K) hx12 (un hx12 la) α (T2_j361_s σ ξ one two) := ⟨la, rfl, hap12, hLA, hα⟩
              show J K (un hx12 la) [some (.ref r), some (.ref (α 0)), some (.ref (α 1)), some (.ref (α 2)), some (.ref (α 3)), some (.ref (α 7)), some (.int (2 : Int32)), some (.int one), some (.int two), some (.int (T2_j7 σ ξ one two)), some (.int (T2_j32 σ ξ one two)), some (.int (T2_j259 σ ξ one two)), some (.int (T2_j298 σ ξ one two)), some (.int ((one / (9 : Int32)) - (one / (9 : Int32)) / (12 : Int32) * (12 : Int32))), some (.int (T2_j328 σ ξ one two))] [.int (DV_1 ξ (T2_j32 σ ξ one two) (T2_j259 σ ξ one two) (T2_j298 σ ξ one two) ((one / (9 : Int32)) - (one / (9 : Int32)) / (12 : Int32) * (12 : Int32)))] 402 4 24
              refine J_iload_10 X dL_isTold_402 ?_
              refine J_iconst (v := 4) X dL_isTold_404 rfl ?_
              have K405_424 : ∀ (v405_0 : Int32), v405_0 = (T2_j405 σ ξ one two) → J K (un hx12 la) [some (.ref r), some (.ref (α 0)), some (.ref (α 1)), some (.ref (α 2)), some (.ref (α 3)), some (.ref (α 7)), some (.int (2 : Int32)), some (.int one), some (.int two), some (.int (T2_j7 σ ξ one two)), some (.int (T2_j32 σ ξ one two)), some (.int (T2_j259 σ ξ one two)), some (.int (T2_j298 σ ξ one two)), some (.int ((one / (9 : Int32)) - (one / (9 : Int32)) / (12 : Int32) * (12 : Int32))), some (.int (T2_j328 σ ξ one two))] [.int v405_0, .int (DV_1 ξ (T2_j32 σ ξ one two) (T2_j259 σ ξ one two) (T2_j298 σ ξ one two) ((one / (9 : Int32)) - (one / (9 : Int32)) / (12 : Int32) * (12 : Int32)))] 424 4 24 := by
                intro v405_0 ev405_0
                try rw [ev405_0]
                clear ev405_0
                have K424_432 : ∀ (v424_0 : Int32), v424_0 = (T2_j424 σ ξ one two) → J K (un hx12 la) [some (.ref r), some (.ref (α 0)), some (.ref (α 1)), some (.ref (α 2)), some (.ref (α 3)), some (.ref (α 7)), some (.int (2 : Int32)), some (.int one), some (.int two), some (.int (T2_j7 σ ξ one two)), some (.int (T2_j32 σ ξ one two)), some (.int (T2_j259 σ ξ one two)), some (.int (T2_j298 σ ξ one two)), some (.int ((one / (9 : Int32)) - (one / (9 : Int32)) / (12 : Int32) * (12 : Int32))), some (.int (T2_j328 σ ξ one two))] [.int v424_0] 432 4 24 := by
                  intro v424_0 ev424_0
                  try rw [ev424_0]
                  clear ev424_0
                  exact J_zret X rfl (T2_j424_b ..) rfl ⟨by rw [q_v], hx12, by rw [q_s]; exact hR12, by rw [q_x]; exact hX12⟩ dL_isTold_432
                have j424_0 : T2_j424 σ ξ one two = (if (DV_1 ξ (T2_j32 σ ξ one two) (T2_j259 σ ξ one two) (T2_j298 σ ξ one two) ((one / (9 : Int32)) - (one / (9 : Int32)) / (12 : Int32) * (12 : Int32))) = (T2_j405 σ ξ one two) then (1 : Int32) else (0 : Int32)) := rfl
                refine J_icmp_ne (tgt := 431) X dL_isTold_424 (by decide) (fun c424 => ?_) (fun c424 => ?_)
                · skip
                  rw [if_neg c424] at j424_0
                  refine J_iconst (v := 0) X dL_isTold_431 rfl ?_
                  exact K424_432 _ j424_0.symm
                · skip
                  rw [if_pos c424] at j424_0
                  refine J_iconst (v := 1) X dL_isTold_427 rfl ?_
                  refine J_goto (tgt := 432) X dL_isTold_428 (by decide) ?_
                  exact K424_432 _ j424_0.symm
              have j405_0 : T2_j405 σ ξ one two = (if (T2_j32 σ ξ one two) = (4 : Int32) then (-3000000 : Int32) else (if (T2_j328 σ ξ one two) = (0 : Int32) then (-2000000 : Int32) else (0 : Int32))) := rfl
              refine J_icmp_ne (tgt := 413) X dL_isTold_405 (by decide) (fun c405 => ?_) (fun c405 => ?_)
              · skip
                rw [if_neg c405] at j405_0
                refine J_iload_14 X dL_isTold_413 ?_
                refine J_if_eq (tgt := 422) X dL_isTold_415 (by decide) (fun c415 => ?_) (fun c415 => ?_)
                · skip
                  rw [if_pos c415] at j405_0
                  refine J_ldc (v := (-2000000 : Int32)) X dL_isTold_422 gw_4_73 ?_
                  exact K405_424 _ j405_0.symm
                · skip
                  rw [if_neg c415] at j405_0
                  refine J_iconst (v := 0) X dL_isTold_418 rfl ?_
                  refine J_goto (tgt := 424) X dL_isTold_419 (by decide) ?_
                  exact K405_424 _ j405_0.symm
              · skip
                rw [if_pos c405] at j405_0
                refine J_ldc (v := (-3000000 : Int32)) X dL_isTold_408 gw_4_72 ?_
                refine J_goto (tgt := 424) X dL_isTold_410 (by decide) ?_
                exact K405_424 _ j405_0.symm
            have j361_0 : T2_j361_s σ ξ one two = (if (4 : Int32) ≤ (T2_j32 σ ξ one two) then σ else (if (T2_j328 σ ξ one two) = (0 : Int32) then σ else (sS σ 1 (ix (T2_j32 σ ξ one two)) (((T2_j259 σ ξ one two) + ((32 : Int32) * (T2_j298 σ ξ one two))) + ((128 : Int32) * ((one / (9 : Int32)) - (one / (9 : Int32)) / (12 : Int32) * (12 : Int32))))))) := rfl
            refine J_icmp_ge (tgt := 388) X dL_isTold_361 (by decide) (fun c361 => ?_) (fun c361 => ?_)
            · skip
              rw [if_pos c361] at j361_0
              exact K361_388 _ (by rw [j361_0]; exact hL)
            · skip
              rw [if_neg c361] at j361_0
              refine J_iload_14 X dL_isTold_364 ?_
              refine J_if_eq (tgt := 388) X dL_isTold_366 (by decide) (fun c366 => ?_) (fun c366 => ?_)
              · skip
                rw [if_pos c366] at j361_0
                exact K361_388 _ (by rw [j361_0]; exact hL)
              · skip
                rw [if_neg c366] at j361_0
                refine J_aload_2 X dL_isTold_369 ?_
                refine J_iload_10 X dL_isTold_370 ?_
                refine J_iload_11 X dL_isTold_372 ?_
                refine J_bipush (v := (32 : Int32)) X dL_isTold_374 (by decide) ?_
                refine J_iload_12 X dL_isTold_376 ?_
                refine J_imul X dL_isTold_378 ?_
                refine J_iadd X dL_isTold_379 ?_
                refine J_sipush (v := (128 : Int32)) X dL_isTold_380 (by decide) ?_
                refine J_iload_13 X dL_isTold_383 ?_
                refine J_imul X dL_isTold_385 ?_
                refine J_iadd X dL_isTold_386 ?_
                refine JL_st X hL 1 (by decide) (vp_up (lt_up (T2_zn h2) (by decide) (N := 4) (by decide) rfl c361) (by decide)) dL_isTold_387 (fun h13 hR13 => ?_)
                exact K361_388 _ (by rw [j361_0]; exact hR13)
          have j328_0 : T2_j328 σ ξ one two = (if (T2_j259 σ ξ one two) ≤ (17 : Int32) then (0 : Int32) else (if (25 : Int32) ≤ (T2_j259 σ ξ one two) then (0 : Int32) else (if (3 : Int32) ≤ (T2_j298 σ ξ one two) then (0 : Int32) else (if (11 : Int32) ≤ ((one / (9 : Int32)) - (one / (9 : Int32)) / (12 : Int32) * (12 : Int32)) then (0 : Int32) else (1 : Int32))))) := rfl
          refine J_icmp_le (tgt := 355) X dL_isTold_328 (by decide) (fun c328 => ?_) (fun c328 => ?_)
          · skip
            rw [if_pos c328] at j328_0
            refine J_iconst (v := 0) X dL_isTold_355 rfl ?_
            exact K328_356 _ j328_0.symm
          · skip
            rw [if_neg c328] at j328_0
            refine J_iload_11 X dL_isTold_331 ?_
            refine J_bipush (v := (25 : Int32)) X dL_isTold_333 (by decide) ?_
            refine J_icmp_ge (tgt := 355) X dL_isTold_335 (by decide) (fun c335 => ?_) (fun c335 => ?_)
            · skip
              rw [if_pos c335] at j328_0
              refine J_iconst (v := 0) X dL_isTold_355 rfl ?_
              exact K328_356 _ j328_0.symm
            · skip
              rw [if_neg c335] at j328_0
              refine J_iload_12 X dL_isTold_338 ?_
              refine J_iconst (v := 3) X dL_isTold_340 rfl ?_
              refine J_icmp_ge (tgt := 355) X dL_isTold_341 (by decide) (fun c341 => ?_) (fun c341 => ?_)
              · skip
                rw [if_pos c341] at j328_0
                refine J_iconst (v := 0) X dL_isTold_355 rfl ?_
                exact K328_356 _ j328_0.symm
              · skip
                rw [if_neg c341] at j328_0
                refine J_iload_13 X dL_isTold_344 ?_
                refine J_bipush (v := (11 : Int32)) X dL_isTold_346 (by decide) ?_
                refine J_icmp_ge (tgt := 355) X dL_isTold_348 (by decide) (fun c348 => ?_) (fun c348 => ?_)
                · skip
                  rw [if_pos c348] at j328_0
                  refine J_iconst (v := 0) X dL_isTold_355 rfl ?_
                  exact K328_356 _ j328_0.symm
                · skip
                  rw [if_neg c348] at j328_0
                  refine J_iconst (v := 1) X dL_isTold_351 rfl ?_
                  refine J_goto (tgt := 356) X dL_isTold_352 (by decide) ?_
                  exact K328_356 _ j328_0.symm
        have j298_0 : T2_j298 σ ξ one two = (if ((two / (13 : Int32)) - (two / (13 : Int32)) / (13 : Int32) * (13 : Int32)) = (12 : Int32) then (3 : Int32) else ((two / (13 : Int32)) - (two / (13 : Int32)) / (3 : Int32) * (3 : Int32))) := rfl
        refine J_icmp_ne (tgt := 305) X dL_isTold_298 (by decide) (fun c298 => ?_) (fun c298 => ?_)
        · skip
          rw [if_neg c298] at j298_0
          refine J_iload_8 X dL_isTold_305 ?_
          refine J_bipush (v := (13 : Int32)) X dL_isTold_307 (by decide) ?_
          refine J_idiv X dL_isTold_309 (by decide) ?_
          refine J_iconst (v := 3) X dL_isTold_310 rfl ?_
          refine J_irem X dL_isTold_311 (by decide) ?_
          exact K298_312 _ j298_0.symm
        · skip
          rw [if_pos c298] at j298_0
          refine J_iconst (v := 3) X dL_isTold_301 rfl ?_
          refine J_goto (tgt := 312) X dL_isTold_302 (by decide) ?_
          exact K298_312 _ j298_0.symm
      have j259_0 : T2_j259 σ ξ one two = (if (one - one / (9 : Int32) * (9 : Int32)) = (0 : Int32) then ((17 : Int32) + (((one / (9 : Int32)) - (one / (9 : Int32)) / (2 : Int32) * (2 : Int32)) * (8 : Int32))) else ((18 : Int32) + (one - one / (7 : Int32) * (7 : Int32)))) := rfl
      refine J_if_ne (tgt := 278) X dL_isTold_259 (by decide) (fun c259 => ?_) (fun c259 => ?_)
      · skip
        rw [if_neg c259] at j259_0
        refine J_bipush (v := (18 : Int32)) X dL_isTold_278 (by decide) ?_
        refine J_iload_7 X dL_isTold_280 ?_
        refine J_bipush (v := (7 : Int32)) X dL_isTold_282 (by decide) ?_
        refine J_irem X dL_isTold_284 (by decide) ?_
        refine J_iadd X dL_isTold_285 ?_
        exact K259_286 _ j259_0.symm
      · skip
        rw [if_pos c259] at j259_0
        refine J_bipush (v := (17 : Int32)) X dL_isTold_262 (by decide) ?_
        refine J_iload_7 X dL_isTold_264 ?_
        refine J_bipush (v := (9 : Int32)) X dL_isTold_266 (by decide) ?_
        refine J_idiv X dL_isTold_268 (by decide) ?_
        refine J_iconst (v := 2) X dL_isTold_269 rfl ?_
        refine J_irem X dL_isTold_270 (by decide) ?_
        refine J_bipush (v := (8 : Int32)) X dL_isTold_271 (by decide) ?_
        refine J_imul X dL_isTold_273 ?_
        refine J_iadd X dL_isTold_274 ?_
        refine J_goto (tgt := 286) X dL_isTold_275 (by decide) ?_
        exact K259_286 _ j259_0.symm
    have j32_0 : T2_j32 σ ξ one two = (if (two - two / (13 : Int32) * (13 : Int32)) = (12 : Int32) then (4 : Int32) else (two - two / (2 : Int32) * (2 : Int32))) := rfl
    refine J_icmp_ne (tgt := 39) X dL_isTold_32 (by decide) (fun c32 => ?_) (fun c32 => ?_)
    · skip
      rw [if_neg c32] at j32_0
      refine J_iload_8 X dL_isTold_39 ?_
      refine J_iconst (v := 2) X dL_isTold_41 rfl ?_
      refine J_irem X dL_isTold_42 (by decide) ?_
      exact K32_43 _ j32_0.symm
    · skip
      rw [if_pos c32] at j32_0
      refine J_iconst (v := 4) X dL_isTold_35 rfl ?_
      refine J_goto (tgt := 43) X dL_isTold_36 (by decide) ?_
      exact K32_43 _ j32_0.symm
  have j7_0 : T2_j7 σ ξ one two = (if (one - one / (17 : Int32) * (17 : Int32)) = (16 : Int32) then (64 : Int32) else ((16 : Int32) + (one - one / (24 : Int32) * (24 : Int32)))) := rfl
  refine J_icmp_ne (tgt := 15) X dL_isTold_7 (by decide) (fun c7 => ?_) (fun c7 => ?_)
  · skip
    rw [if_neg c7] at j7_0
    refine J_bipush (v := (16 : Int32)) X dL_isTold_15 (by decide) ?_
    refine J_iload_7 X dL_isTold_17 ?_
    refine J_bipush (v := (24 : Int32)) X dL_isTold_19 (by decide) ?_
    refine J_irem X dL_isTold_21 (by decide) ?_
    refine J_iadd X dL_isTold_22 ?_
    exact K7_23 _ j7_0.symm
  · skip
    rw [if_pos c7] at j7_0
    refine J_bipush (v := (64 : Int32)) X dL_isTold_10 (by decide) ?_
    refine J_goto (tgt := 23) X dL_isTold_12 (by decide) ?_
    exact K7_23 _ j7_0.symm
def T3_j7 (σ : St) (ξ : St) (one : Int32) (two : Int32) : Int32 := (if (one - one / (17 : Int32) * (17 : Int32)) = (16 : Int32) then (64 : Int32) else ((16 : Int32) + (one - one / (24 : Int32) * (24 : Int32))))
def T3_j32 (σ : St) (ξ : St) (one : Int32) (two : Int32) : Int32 := (if (two - two / (13 : Int32) * (13 : Int32)) = (12 : Int32) then (4 : Int32) else (two - two / (2 : Int32) * (2 : Int32)))
def T3_j444 (σ : St) (ξ : St) (one : Int32) (two : Int32) : Int32 := (if (one - one / (9 : Int32) * (9 : Int32)) = (0 : Int32) then ((((one / (9 : Int32)) - (one / (9 : Int32)) / (2 : Int32) * (2 : Int32)) * (1001 : Int32)) - (1 : Int32)) else ((((σ 7 (ix (0 : Int32))) / (24 : Int32)) + (one - one / (3 : Int32) * (3 : Int32))) - (((σ 7 (ix (0 : Int32))) / (24 : Int32)) + (one - one / (3 : Int32) * (3 : Int32))) / (30 : Int32) * (30 : Int32)))
def T3_j482 (σ : St) (ξ : St) (one : Int32) (two : Int32) : Int32 := (if (T3_j444 σ ξ one two) < (0 : Int32) then (0 : Int32) else (if (1000 : Int32) ≤ (T3_j444 σ ξ one two) then (0 : Int32) else (1 : Int32)))
theorem T3_j482_b (σ : St) (ξ : St) (one : Int32) (two : Int32) : T3_j482 σ ξ one two = 0 ∨ T3_j482 σ ξ one two = 1 := by
  unfold T3_j482
  (repeat' split) <;> first | exact Or.inl (by with_reducible rfl) | exact Or.inr (by with_reducible rfl)
def T3_j574 (σ : St) (ξ : St) (one : Int32) (two : Int32) : Int32 := (if (T3_j32 σ ξ one two) = (4 : Int32) then (-3000000 : Int32) else (if (T3_j482 σ ξ one two) = (0 : Int32) then (-2000000 : Int32) else (0 : Int32)))
def T3_j594 (σ : St) (ξ : St) (one : Int32) (two : Int32) : Int32 := (if (DV_2 ξ (T3_j32 σ ξ one two) (T3_j444 σ ξ one two)) = (T3_j574 σ ξ one two) then (1 : Int32) else (0 : Int32))
theorem T3_j594_b (σ : St) (ξ : St) (one : Int32) (two : Int32) : T3_j594 σ ξ one two = 0 ∨ T3_j594 σ ξ one two = 1 := by
  unfold T3_j594
  (repeat' split) <;> first | exact Or.inl (by with_reducible rfl) | exact Or.inr (by with_reducible rfl)
def T3_L530 (σ : St) (ξ : St) (one : Int32) (two : Int32) (K530 : Int32 → Int32) : Nat → Nat → Int32 → Int32
  | 0, _, a530_13 => K530 a530_13
  | n530 + 1, k530, a530_13 => (T3_L530 σ ξ one two K530 n530 (k530 + 1) (a530_13 + ((((σ 1 (ix ((4 : Int32) + (T3_j32 σ ξ one two)))) ||| ((1 : Int32) <<< ((T3_j444 σ ξ one two) &&& 31))) >>> ((nI k530) &&& 31)) &&& (1 : Int32))))
def T3_L530_s (σ : St) (ξ : St) (one : Int32) (two : Int32) (K530s : Int32 → St) : Nat → Nat → Int32 → St
  | 0, _, a530_13 => K530s a530_13
  | n530 + 1, k530, a530_13 => (T3_L530_s σ ξ one two K530s n530 (k530 + 1) (a530_13 + ((((σ 1 (ix ((4 : Int32) + (T3_j32 σ ξ one two)))) ||| ((1 : Int32) <<< ((T3_j444 σ ξ one two) &&& 31))) >>> ((nI k530) &&& 31)) &&& (1 : Int32))))
def T3_L530_x (σ : St) (ξ : St) (one : Int32) (two : Int32) (K530x : Int32 → St) : Nat → Nat → Int32 → St
  | 0, _, a530_13 => K530x a530_13
  | n530 + 1, k530, a530_13 => (T3_L530_x σ ξ one two K530x n530 (k530 + 1) (a530_13 + ((((σ 1 (ix ((4 : Int32) + (T3_j32 σ ξ one two)))) ||| ((1 : Int32) <<< ((T3_j444 σ ξ one two) &&& 31))) >>> ((nI k530) &&& 31)) &&& (1 : Int32))))
def T3_j574x1 (σ : St) (ξ : St) (one : Int32) (two : Int32) (a530_13 : Int32) : Int32 := (if (T3_j32 σ ξ one two) = (4 : Int32) then (-3000000 : Int32) else (if (T3_j482 σ ξ one two) = (0 : Int32) then (-2000000 : Int32) else a530_13))
def T3_j594x1 (σ : St) (ξ : St) (one : Int32) (two : Int32) (a530_13 : Int32) : Int32 := (if (DV_2 ξ (T3_j32 σ ξ one two) (T3_j444 σ ξ one two)) = (T3_j574x1 σ ξ one two a530_13) then (1 : Int32) else (0 : Int32))
theorem T3_j594x1_b (σ : St) (ξ : St) (one : Int32) (two : Int32) (a530_13 : Int32) : T3_j594x1 σ ξ one two a530_13 = 0 ∨ T3_j594x1 σ ξ one two a530_13 = 1 := by
  unfold T3_j594x1
  (repeat' split) <;> first | exact Or.inl (by with_reducible rfl) | exact Or.inr (by with_reducible rfl)
def T3 (σ : St) (ξ : St) (one : Int32) (two : Int32) : Int32 := (if (4 : Int32) ≤ (T3_j32 σ ξ one two) then (T3_j594 σ ξ one two) else (if (T3_j482 σ ξ one two) = (0 : Int32) then (T3_j594 σ ξ one two) else (T3_L530 σ ξ one two (fun a530_13 => (T3_j594x1 σ ξ one two a530_13)) n30 0 (0 : Int32))))
def T3_s (σ : St) (ξ : St) (one : Int32) (two : Int32) : St := (if (4 : Int32) ≤ (T3_j32 σ ξ one two) then σ else (if (T3_j482 σ ξ one two) = (0 : Int32) then σ else (T3_L530_s σ ξ one two (fun a530_13 => (sS σ 1 (ix ((4 : Int32) + (T3_j32 σ ξ one two))) ((σ 1 (ix ((4 : Int32) + (T3_j32 σ ξ one two)))) ||| ((1 : Int32) <<< ((T3_j444 σ ξ one two) &&& 31))))) n30 0 (0 : Int32))))
def T3_x (σ : St) (ξ : St) (one : Int32) (two : Int32) : St := (if (4 : Int32) ≤ (T3_j32 σ ξ one two) then (M_feast_s ξ (T3_j32 σ ξ one two) (T3_j444 σ ξ one two)) else (if (T3_j482 σ ξ one two) = (0 : Int32) then (M_feast_s ξ (T3_j32 σ ξ one two) (T3_j444 σ ξ one two)) else (T3_L530_x σ ξ one two (fun a530_13 => (M_feast_s ξ (T3_j32 σ ξ one two) (T3_j444 σ ξ one two))) n30 0 (0 : Int32))))
theorem T3_pl {σ ξ : St} {one two : Int32} (h1 : vp_in one 60000) : vp_in (T3_j7 σ ξ one two) 65 := by
  unfold T3_j7
  split
  · exact vp_in_nI (n := 64) (by decide) (by decide)
  · exact vp_up (vr_add (vp_in_nI (n := 16) (N := 17) (by decide) (by decide)) (vr_rem (c := 24) h1 (by decide) (by decide) (by decide)) (by decide)) (by decide)
theorem T3_zn {σ ξ : St} {one two : Int32} (h2 : vp_in two 60000) : vp_in (T3_j32 σ ξ one two) 5 := by
  unfold T3_j32
  split
  · exact vp_in_nI (n := 4) (by decide) (by decide)
  · exact vp_up (vr_rem (c := 2) h2 (by decide) (by decide) (by decide)) (by decide)
set_option maxRecDepth 100000 in
set_option maxHeartbeats 4000000 in
theorem c_T3 {l : Launch} {D : va_G} {ca : Nat → Nat} {h hx : fH} {r : Nat} {α : Nat → Nat} {σ ξ : St} (hL : LH ca hx h α σ) (hX : RA ca hx r ξ) (hIX : InvX ξ) (hIO : InvO ξ) (hQ : LQ ξ σ) (one : Int32) (two : Int32) (h1 : vp_in one 60000) (h2 : vp_in two 60000) : FM l D ca yL_isTold (.code yL_isTold cL_isTold 15 (some .boolean)) { frames := 10, cells := 2, slots := 12, locals := 195 } [.ref r, .ref (α 0), .ref (α 1), .ref (α 2), .ref (α 3), .ref (α 7), .int (3 : Int32), .int one, .int two] h (fun v h2 => v = some (.int (T3 σ ξ one two)) ∧ ∃ hx2, LH ca hx2 h2 α (T3_s σ ξ one two) ∧ RA ca hx2 r (T3_x σ ξ one two)) noX := by
  refine FM.of [some (.ref r), some (.ref (α 0)), some (.ref (α 1)), some (.ref (α 2)), some (.ref (α 3)), some (.ref (α 7)), some (.int (3 : Int32)), some (.int one), some (.int two), none, none, none, none, none, none] (by decide) (Nat.le_of_ble_eq_true rfl) rfl ?_
  rintro K X rfl rfl rfl
  have hI := IL_of hQ hIX
  have q_v : (T3 σ ξ one two) = (if (4 : Int32) ≤ (T3_j32 σ ξ one two) then (T3_j594 σ ξ one two) else (if (T3_j482 σ ξ one two) = (0 : Int32) then (T3_j594 σ ξ one two) else (T3_L530 σ ξ one two (fun a530_13 => (T3_j594x1 σ ξ one two a530_13)) n30 0 (0 : Int32)))) := rfl
  have q_s : (T3_s σ ξ one two) = (if (4 : Int32) ≤ (T3_j32 σ ξ one two) then σ else (if (T3_j482 σ ξ one two) = (0 : Int32) then σ else (T3_L530_s σ ξ one two (fun a530_13 => (sS σ 1 (ix ((4 : Int32) + (T3_j32 σ ξ one two))) ((σ 1 (ix ((4 : Int32) + (T3_j32 σ ξ one two)))) ||| ((1 : Int32) <<< ((T3_j444 σ ξ one two) &&& 31))))) n30 0 (0 : Int32)))) := rfl
  have q_x : (T3_x σ ξ one two) = (if (4 : Int32) ≤ (T3_j32 σ ξ one two) then (M_feast_s ξ (T3_j32 σ ξ one two) (T3_j444 σ ξ one two)) else (if (T3_j482 σ ξ one two) = (0 : Int32) then (M_feast_s ξ (T3_j32 σ ξ one two) (T3_j444 σ ξ one two)) else (T3_L530_x σ ξ one two (fun a530_13 => (M_feast_s ξ (T3_j32 σ ξ one two) (T3_j444 σ ξ one two))) n30 0 (0 : Int32)))) := rfl
  refine J_iload_7 X dL_isTold_0 ?_
  refine J_bipush (v := (17 : Int32)) X dL_isTold_2 (by decide) ?_
  refine J_irem X dL_isTold_4 (by decide) ?_
  refine J_bipush (v := (16 : Int32)) X dL_isTold_5 (by decide) ?_
  have K7_23 : ∀ (v7_0 : Int32), v7_0 = (T3_j7 σ ξ one two) → J K h [some (.ref r), some (.ref (α 0)), some (.ref (α 1)), some (.ref (α 2)), some (.ref (α 3)), some (.ref (α 7)), some (.int (3 : Int32)), some (.int one), some (.int two), none, none, none, none, none, none] [.int v7_0] 23 0 0 := by
    intro v7_0 ev7_0
    try rw [ev7_0]
    clear ev7_0
    refine J_istore_9 X dL_isTold_23 rfl (by decide) ?_
    refine J_iload_8 X dL_isTold_25 ?_
    refine J_bipush (v := (13 : Int32)) X dL_isTold_27 (by decide) ?_
    refine J_irem X dL_isTold_29 (by decide) ?_
    refine J_bipush (v := (12 : Int32)) X dL_isTold_30 (by decide) ?_
    have K32_43 : ∀ (v32_0 : Int32), v32_0 = (T3_j32 σ ξ one two) → J K h [some (.ref r), some (.ref (α 0)), some (.ref (α 1)), some (.ref (α 2)), some (.ref (α 3)), some (.ref (α 7)), some (.int (3 : Int32)), some (.int one), some (.int two), some (.int (T3_j7 σ ξ one two)), none, none, none, none, none] [.int v32_0] 43 0 0 := by
      intro v32_0 ev32_0
      try rw [ev32_0]
      clear ev32_0
      refine J_istore_10 X dL_isTold_43 rfl (by decide) ?_
      refine J_iload_6 X dL_isTold_45 ?_
      refine J_if_ne (tgt := 142) X dL_isTold_47 (by decide) (fun _ => ?_) (fun c => absurd c (by decide))
      refine J_iload_6 X dL_isTold_142 ?_
      refine J_iconst (v := 1) X dL_isTold_144 rfl ?_
      refine J_icmp_ne (tgt := 248) X dL_isTold_145 (by decide) (fun _ => ?_) (fun c => absurd c (by decide))
      refine J_iload_6 X dL_isTold_248 ?_
      refine J_iconst (v := 2) X dL_isTold_250 rfl ?_
      refine J_icmp_ne (tgt := 433) X dL_isTold_251 (by decide) (fun _ => ?_) (fun c => absurd c (by decide))
      refine J_iload_6 X dL_isTold_433 ?_
      refine J_iconst (v := 3) X dL_isTold_435 rfl ?_
      refine J_icmp_ne (tgt := 603) X dL_isTold_436 (by decide) (fun c => absurd (by decide) c) (fun _ => ?_)
      refine J_iload_7 X dL_isTold_439 ?_
      refine J_bipush (v := (9 : Int32)) X dL_isTold_441 (by decide) ?_
      refine J_irem X dL_isTold_443 (by decide) ?_
      have K444_478 : ∀ (v444_0 : Int32), v444_0 = (T3_j444 σ ξ one two) → J K h [some (.ref r), some (.ref (α 0)), some (.ref (α 1)), some (.ref (α 2)), some (.ref (α 3)), some (.ref (α 7)), some (.int (3 : Int32)), some (.int one), some (.int two), some (.int (T3_j7 σ ξ one two)), some (.int (T3_j32 σ ξ one two)), none, none, none, none] [.int v444_0] 478 0 0 := by
        intro v444_0 ev444_0
        try rw [ev444_0]
        clear ev444_0
        refine J_istore_11 X dL_isTold_478 rfl (by decide) ?_
        refine J_iload_11 X dL_isTold_480 ?_
        have K482_498 : ∀ (v482_0 : Int32), v482_0 = (T3_j482 σ ξ one two) → J K h [some (.ref r), some (.ref (α 0)), some (.ref (α 1)), some (.ref (α 2)), some (.ref (α 3)), some (.ref (α 7)), some (.int (3 : Int32)), some (.int one), some (.int two), some (.int (T3_j7 σ ξ one two)), some (.int (T3_j32 σ ξ one two)), some (.int (T3_j444 σ ξ one two)), none, none, none] [.int v482_0] 498 0 0 := by
          intro v482_0 ev482_0
          try rw [ev482_0]
          clear ev482_0
          refine J_istore_12 X dL_isTold_498 rfl (by decide) ?_
          refine J_iconst (v := 0) X dL_isTold_500 rfl ?_
          refine J_istore_13 X dL_isTold_501 rfl (by decide) ?_
          refine J_iload_10 X dL_isTold_503 ?_
          refine J_iconst (v := 4) X dL_isTold_505 rfl ?_
          refine J_icmp_ge (tgt := 559) X dL_isTold_506 (by decide) (fun c506 => ?_) (fun c506 => ?_)
          · skip
            rw [if_pos c506] at q_v
            rw [if_pos c506] at q_s
            rw [if_pos c506] at q_x
            refine J_aload_0 X dL_isTold_559 ?_
            refine J_iconst (v := 2) X dL_isTold_560 rfl ?_
            refine J_iload_10 X dL_isTold_561 ?_
            refine J_iload_11 X dL_isTold_563 ?_
            refine J_iconst (v := 0) X dL_isTold_565 rfl ?_
            refine J_iconst (v := 0) X dL_isTold_566 rfl ?_
            refine J_iconst (v := 0) X dL_isTold_567 rfl ?_
            obtain ⟨la, eh, hap, hLA, hα⟩ := hL
            subst eh
            refine J_callSW X ((c_D_2 hX hIX hIO (T3_j32 σ ξ one two) (T3_j444 σ ξ one two) (0 : Int32) (0 : Int32) (0 : Int32)).frame hap) (And.intro gw_2_177 cw_L_does) rfl rfl (Nat.le_of_ble_eq_true rfl) dL_isTold_568 rfl (fun v h11 e => ?_) (fun E h11 e => by obtain ⟨_, q, _⟩ := e; exact q.elim)
            obtain ⟨hx11, ⟨e0, hX11⟩, hap11, eh⟩ := e
            subst e0
            subst eh
            have hR11 : LH (kca K) hx11 (un hx11 la) α σ := ⟨la, rfl, hap11, hLA, hα⟩
            show J K (un hx11 la) [some (.ref r), some (.ref (α 0)), some (.ref (α 1)), some (.ref (α 2)), some (.ref (α 3)), some (.ref (α 7)), some (.int (3 : Int32)), some (.int one), some (.int two), some (.int (T3_j7 σ ξ one two)), some (.int (T3_j32 σ ξ one two)), some (.int (T3_j444 σ ξ one two)), some (.int (T3_j482 σ ξ one two)), some (.int (0 : Int32)), none] [.int (DV_2 ξ (T3_j32 σ ξ one two) (T3_j444 σ ξ one two))] 571 2 12
            refine J_iload_10 X dL_isTold_571 ?_
            refine J_iconst (v := 4) X dL_isTold_573 rfl ?_
            have K574_594 : ∀ (v574_0 : Int32), v574_0 = (T3_j574 σ ξ one two) → J K (un hx11 la) [some (.ref r), some (.ref (α 0)), some (.ref (α 1)), some (.ref (α 2)), some (.ref (α 3)), some (.ref (α 7)), some (.int (3 : Int32)), some (.int one), some (.int two), some (.int (T3_j7 σ ξ one two)), some (.int (T3_j32 σ ξ one two)), some (.int (T3_j444 σ ξ one two)), some (.int (T3_j482 σ ξ one two)), some (.int (0 : Int32)), none] [.int v574_0, .int (DV_2 ξ (T3_j32 σ ξ one two) (T3_j444 σ ξ one two))] 594 2 12 := by
              intro v574_0 ev574_0
              try rw [ev574_0]
              clear ev574_0
              have K594_602 : ∀ (v594_0 : Int32), v594_0 = (T3_j594 σ ξ one two) → J K (un hx11 la) [some (.ref r), some (.ref (α 0)), some (.ref (α 1)), some (.ref (α 2)), some (.ref (α 3)), some (.ref (α 7)), some (.int (3 : Int32)), some (.int one), some (.int two), some (.int (T3_j7 σ ξ one two)), some (.int (T3_j32 σ ξ one two)), some (.int (T3_j444 σ ξ one two)), some (.int (T3_j482 σ ξ one two)), some (.int (0 : Int32)), none] [.int v594_0] 602 2 12 := by
                intro v594_0 ev594_0
                try rw [ev594_0]
                clear ev594_0
                exact J_zret X rfl (T3_j594_b ..) rfl ⟨by rw [q_v], hx11, by rw [q_s]; exact hR11, by rw [q_x]; exact hX11⟩ dL_isTold_602
              have j594_0 : T3_j594 σ ξ one two = (if (DV_2 ξ (T3_j32 σ ξ one two) (T3_j444 σ ξ one two)) = (T3_j574 σ ξ one two) then (1 : Int32) else (0 : Int32)) := rfl
              refine J_icmp_ne (tgt := 601) X dL_isTold_594 (by decide) (fun c594 => ?_) (fun c594 => ?_)
              · skip
                rw [if_neg c594] at j594_0
                refine J_iconst (v := 0) X dL_isTold_601 rfl ?_
                exact K594_602 _ j594_0.symm
              · skip
                rw [if_pos c594] at j594_0
                refine J_iconst (v := 1) X dL_isTold_597 rfl ?_
                refine J_goto (tgt := 602) X dL_isTold_598 (by decide) ?_
                exact K594_602 _ j594_0.symm
            have j574_0 : T3_j574 σ ξ one two = (if (T3_j32 σ ξ one two) = (4 : Int32) then (-3000000 : Int32) else (if (T3_j482 σ ξ one two) = (0 : Int32) then (-2000000 : Int32) else (0 : Int32))) := rfl
            refine J_icmp_ne (tgt := 582) X dL_isTold_574 (by decide) (fun c574 => ?_) (fun c574 => ?_)
            · skip
              rw [if_neg c574] at j574_0
              refine J_iload_12 X dL_isTold_582 ?_
              refine J_if_eq (tgt := 592) X dL_isTold_584 (by decide) (fun c584 => ?_) (fun c584 => ?_)
              · skip
                rw [if_pos c584] at j574_0
                refine J_ldc (v := (-2000000 : Int32)) X dL_isTold_592 gw_4_73 ?_
                exact K574_594 _ j574_0.symm
              · skip
                rw [if_neg c584] at j574_0
                refine J_iload_13 X dL_isTold_587 ?_
                refine J_goto (tgt := 594) X dL_isTold_589 (by decide) ?_
                exact K574_594 _ j574_0.symm
            · skip
              rw [if_pos c574] at j574_0
              refine J_ldc (v := (-3000000 : Int32)) X dL_isTold_577 gw_4_72 ?_
              refine J_goto (tgt := 594) X dL_isTold_579 (by decide) ?_
              exact K574_594 _ j574_0.symm
          · skip
            rw [if_neg c506] at q_v
            rw [if_neg c506] at q_s
            rw [if_neg c506] at q_x
            refine J_iload_12 X dL_isTold_509 ?_
            refine J_if_eq (tgt := 559) X dL_isTold_511 (by decide) (fun c511 => ?_) (fun c511 => ?_)
            · skip
              rw [if_pos c511] at q_v
              rw [if_pos c511] at q_s
              rw [if_pos c511] at q_x
              refine J_aload_0 X dL_isTold_559 ?_
              refine J_iconst (v := 2) X dL_isTold_560 rfl ?_
              refine J_iload_10 X dL_isTold_561 ?_
              refine J_iload_11 X dL_isTold_563 ?_
              refine J_iconst (v := 0) X dL_isTold_565 rfl ?_
              refine J_iconst (v := 0) X dL_isTold_566 rfl ?_
              refine J_iconst (v := 0) X dL_isTold_567 rfl ?_
              obtain ⟨la, eh, hap, hLA, hα⟩ := hL
              subst eh
              refine J_callSW X ((c_D_2 hX hIX hIO (T3_j32 σ ξ one two) (T3_j444 σ ξ one two) (0 : Int32) (0 : Int32) (0 : Int32)).frame hap) (And.intro gw_2_177 cw_L_does) rfl rfl (Nat.le_of_ble_eq_true rfl) dL_isTold_568 rfl (fun v h12 e => ?_) (fun E h12 e => by obtain ⟨_, q, _⟩ := e; exact q.elim)
              obtain ⟨hx12, ⟨e0, hX12⟩, hap12, eh⟩ := e
              subst e0
              subst eh
              have hR12 : LH (kca K) hx12 (un hx12 la) α σ := ⟨la, rfl, hap12, hLA, hα⟩
              show J K (un hx12 la) [some (.ref r), some (.ref (α 0)), some (.ref (α 1)), some (.ref (α 2)), some (.ref (α 3)), some (.ref (α 7)), some (.int (3 : Int32)), some (.int one), some (.int two), some (.int (T3_j7 σ ξ one two)), some (.int (T3_j32 σ ξ one two)), some (.int (T3_j444 σ ξ one two)), some (.int (T3_j482 σ ξ one two)), some (.int (0 : Int32)), none] [.int (DV_2 ξ (T3_j32 σ ξ one two) (T3_j444 σ ξ one two))] 571 2 12
              refine J_iload_10 X dL_isTold_571 ?_
              refine J_iconst (v := 4) X dL_isTold_573 rfl ?_
              have K574_594 : ∀ (v574_0 : Int32), v574_0 = (T3_j574 σ ξ one two) → J K (un hx12 la) [some (.ref r), some (.ref (α 0)), some (.ref (α 1)), some (.ref (α 2)), some (.ref (α 3)), some (.ref (α 7)), some (.int (3 : Int32)), some (.int one), some (.int two), some (.int (T3_j7 σ ξ one two)), some (.int (T3_j32 σ ξ one two)), some (.int (T3_j444 σ ξ one two)), some (.int (T3_j482 σ ξ one two)), some (.int (0 : Int32)), none] [.int v574_0, .int (DV_2 ξ (T3_j32 σ ξ one two) (T3_j444 σ ξ one two))] 594 2 12 := by
                intro v574_0 ev574_0
                try rw [ev574_0]
                clear ev574_0
                have K594_602 : ∀ (v594_0 : Int32), v594_0 = (T3_j594 σ ξ one two) → J K (un hx12 la) [some (.ref r), some (.ref (α 0)), some (.ref (α 1)), some (.ref (α 2)), some (.ref (α 3)), some (.ref (α 7)), some (.int (3 : Int32)), some (.int one), some (.int two), some (.int (T3_j7 σ ξ one two)), some (.int (T3_j32 σ ξ one two)), some (.int (T3_j444 σ ξ one two)), some (.int (T3_j482 σ ξ one two)), some (.int (0 : Int32)), none] [.int v594_0] 602 2 12 := by
                  intro v594_0 ev594_0
                  try rw [ev594_0]
                  clear ev594_0
                  exact J_zret X rfl (T3_j594_b ..) rfl ⟨by rw [q_v], hx12, by rw [q_s]; exact hR12, by rw [q_x]; exact hX12⟩ dL_isTold_602
                have j594_0 : T3_j594 σ ξ one two = (if (DV_2 ξ (T3_j32 σ ξ one two) (T3_j444 σ ξ one two)) = (T3_j574 σ ξ one two) then (1 : Int32) else (0 : Int32)) := rfl
                refine J_icmp_ne (tgt := 601) X dL_isTold_594 (by decide) (fun c594 => ?_) (fun c594 => ?_)
                · skip
                  rw [if_neg c594] at j594_0
                  refine J_iconst (v := 0) X dL_isTold_601 rfl ?_
                  exact K594_602 _ j594_0.symm
                · skip
                  rw [if_pos c594] at j594_0
                  refine J_iconst (v := 1) X dL_isTold_597 rfl ?_
                  refine J_goto (tgt := 602) X dL_isTold_598 (by decide) ?_
                  exact K594_602 _ j594_0.symm
              have j574_0 : T3_j574 σ ξ one two = (if (T3_j32 σ ξ one two) = (4 : Int32) then (-3000000 : Int32) else (if (T3_j482 σ ξ one two) = (0 : Int32) then (-2000000 : Int32) else (0 : Int32))) := rfl
              refine J_icmp_ne (tgt := 582) X dL_isTold_574 (by decide) (fun c574 => ?_) (fun c574 => ?_)
              · skip
                rw [if_neg c574] at j574_0
                refine J_iload_12 X dL_isTold_582 ?_
                refine J_if_eq (tgt := 592) X dL_isTold_584 (by decide) (fun c584 => ?_) (fun c584 => ?_)
                · skip
                  rw [if_pos c584] at j574_0
                  refine J_ldc (v := (-2000000 : Int32)) X dL_isTold_592 gw_4_73 ?_
                  exact K574_594 _ j574_0.symm
                · skip
                  rw [if_neg c584] at j574_0
                  refine J_iload_13 X dL_isTold_587 ?_
                  refine J_goto (tgt := 594) X dL_isTold_589 (by decide) ?_
                  exact K574_594 _ j574_0.symm
              · skip
                rw [if_pos c574] at j574_0
                refine J_ldc (v := (-3000000 : Int32)) X dL_isTold_577 gw_4_72 ?_
                refine J_goto (tgt := 594) X dL_isTold_579 (by decide) ?_
                exact K574_594 _ j574_0.symm
            · skip
              rw [if_neg c511] at q_v
              rw [if_neg c511] at q_s
              rw [if_neg c511] at q_x
              refine J_aload_2 X dL_isTold_514 ?_
              refine J_iconst (v := 4) X dL_isTold_515 rfl ?_
              refine J_iload_10 X dL_isTold_516 ?_
              refine J_iadd X dL_isTold_518 ?_
              refine J_dup2 X dL_isTold_519 rfl rfl ?_
              refine JL_ld X hL.la 1 (by decide) (vp_up (vr_add (vp_in_nI (n := 4) (N := 5) (by decide) (by decide)) (lt_up (T3_zn h2) (by decide) (N := 4) (by decide) rfl c506) (by decide)) (by decide)) dL_isTold_520 ?_
              refine J_iconst (v := 1) X dL_isTold_521 rfl ?_
              refine J_iload_11 X dL_isTold_522 ?_
              refine J_ishl X dL_isTold_524 ?_
              refine J_ior X dL_isTold_525 ?_
              refine JL_st X hL 1 (by decide) (vp_up (vr_add (vp_in_nI (n := 4) (N := 5) (by decide) (by decide)) (lt_up (T3_zn h2) (by decide) (N := 4) (by decide) rfl c506) (by decide)) (by decide)) dL_isTold_526 (fun h13 hR13 => ?_)
              refine J_iconst (v := 0) X dL_isTold_527 rfl ?_
              refine J_istore_14 X dL_isTold_528 rfl (by decide) ?_
              have h30 := n30_eq
              obtain ⟨K530, hK530⟩ : ∃ f : Int32 → Int32, f = (fun a530_13 => (T3_j594x1 σ ξ one two a530_13)) := ⟨_, rfl⟩
              obtain ⟨K530s, hK530s⟩ : ∃ f : Int32 → St, f = (fun a530_13 => (sS σ 1 (ix ((4 : Int32) + (T3_j32 σ ξ one two))) ((σ 1 (ix ((4 : Int32) + (T3_j32 σ ξ one two)))) ||| ((1 : Int32) <<< ((T3_j444 σ ξ one two) &&& 31))))) := ⟨_, rfl⟩
              obtain ⟨K530x, hK530x⟩ : ∃ f : Int32 → St, f = (fun a530_13 => (M_feast_s ξ (T3_j32 σ ξ one two) (T3_j444 σ ξ one two))) := ⟨_, rfl⟩
              have X530 : ∀ (a530_13 : Int32) (_ : True), (T3 σ ξ one two) = (T3_j594x1 σ ξ one two a530_13) → (T3_s σ ξ one two) = (sS σ 1 (ix ((4 : Int32) + (T3_j32 σ ξ one two))) ((σ 1 (ix ((4 : Int32) + (T3_j32 σ ξ one two)))) ||| ((1 : Int32) <<< ((T3_j444 σ ξ one two) &&& 31)))) → (T3_x σ ξ one two) = (M_feast_s ξ (T3_j32 σ ξ one two) (T3_j444 σ ξ one two)) → J K h13 [some (.ref r), some (.ref (α 0)), some (.ref (α 1)), some (.ref (α 2)), some (.ref (α 3)), some (.ref (α 7)), some (.int (3 : Int32)), some (.int one), some (.int two), some (.int (T3_j7 σ ξ one two)), some (.int (T3_j32 σ ξ one two)), some (.int (T3_j444 σ ξ one two)), some (.int (T3_j482 σ ξ one two)), some (.int a530_13), none] [] 559 0 0 := by
                intro a530_13  _  q_v q_s q_x
                refine J_aload_0 X dL_isTold_559 ?_
                refine J_iconst (v := 2) X dL_isTold_560 rfl ?_
                refine J_iload_10 X dL_isTold_561 ?_
                refine J_iload_11 X dL_isTold_563 ?_
                refine J_iconst (v := 0) X dL_isTold_565 rfl ?_
                refine J_iconst (v := 0) X dL_isTold_566 rfl ?_
                refine J_iconst (v := 0) X dL_isTold_567 rfl ?_
                obtain ⟨la, eh, hap, hLA, hα⟩ := hR13
                subst eh
                refine J_callSW X ((c_D_2 hX hIX hIO (T3_j32 σ ξ one two) (T3_j444 σ ξ one two) (0 : Int32) (0 : Int32) (0 : Int32)).frame hap) (And.intro gw_2_177 cw_L_does) rfl rfl (Nat.le_of_ble_eq_true rfl) dL_isTold_568 rfl (fun v h14 e => ?_) (fun E h14 e => by obtain ⟨_, q, _⟩ := e; exact q.elim)
                obtain ⟨hx14, ⟨e0, hX14⟩, hap14, eh⟩ := e
                subst e0
                subst eh
                have hR14 : LH (kca K) hx14 (un hx14 la) α (sS σ 1 (ix ((4 : Int32) + (T3_j32 σ ξ one two))) ((σ 1 (ix ((4 : Int32) + (T3_j32 σ ξ one two)))) ||| ((1 : Int32) <<< ((T3_j444 σ ξ one two) &&& 31)))) := ⟨la, rfl, hap14, hLA, hα⟩
                show J K (un hx14 la) [some (.ref r), some (.ref (α 0)), some (.ref (α 1)), some (.ref (α 2)), some (.ref (α 3)), some (.ref (α 7)), some (.int (3 : Int32)), some (.int one), some (.int two), some (.int (T3_j7 σ ξ one two)), some (.int (T3_j32 σ ξ one two)), some (.int (T3_j444 σ ξ one two)), some (.int (T3_j482 σ ξ one two)), some (.int a530_13), none] [.int (DV_2 ξ (T3_j32 σ ξ one two) (T3_j444 σ ξ one two))] 571 2 12
                refine J_iload_10 X dL_isTold_571 ?_
                refine J_iconst (v := 4) X dL_isTold_573 rfl ?_
                have K574_594 : ∀ (v574_0 : Int32), v574_0 = (T3_j574x1 σ ξ one two a530_13) → J K (un hx14 la) [some (.ref r), some (.ref (α 0)), some (.ref (α 1)), some (.ref (α 2)), some (.ref (α 3)), some (.ref (α 7)), some (.int (3 : Int32)), some (.int one), some (.int two), some (.int (T3_j7 σ ξ one two)), some (.int (T3_j32 σ ξ one two)), some (.int (T3_j444 σ ξ one two)), some (.int (T3_j482 σ ξ one two)), some (.int a530_13), none] [.int v574_0, .int (DV_2 ξ (T3_j32 σ ξ one two) (T3_j444 σ ξ one two))] 594 2 12 := by
                  intro v574_0 ev574_0
                  try rw [ev574_0]
                  clear ev574_0
                  have K594_602 : ∀ (v594_0 : Int32), v594_0 = (T3_j594x1 σ ξ one two a530_13) → J K (un hx14 la) [some (.ref r), some (.ref (α 0)), some (.ref (α 1)), some (.ref (α 2)), some (.ref (α 3)), some (.ref (α 7)), some (.int (3 : Int32)), some (.int one), some (.int two), some (.int (T3_j7 σ ξ one two)), some (.int (T3_j32 σ ξ one two)), some (.int (T3_j444 σ ξ one two)), some (.int (T3_j482 σ ξ one two)), some (.int a530_13), none] [.int v594_0] 602 2 12 := by
                    intro v594_0 ev594_0
                    try rw [ev594_0]
                    clear ev594_0
                    exact J_zret X rfl (T3_j594x1_b ..) rfl ⟨by rw [q_v], hx14, by rw [q_s]; exact hR14, by rw [q_x]; exact hX14⟩ dL_isTold_602
                  have j594_0 : T3_j594x1 σ ξ one two a530_13 = (if (DV_2 ξ (T3_j32 σ ξ one two) (T3_j444 σ ξ one two)) = (T3_j574x1 σ ξ one two a530_13) then (1 : Int32) else (0 : Int32)) := rfl
                  refine J_icmp_ne (tgt := 601) X dL_isTold_594 (by decide) (fun c594 => ?_) (fun c594 => ?_)
                  · skip
                    rw [if_neg c594] at j594_0
                    refine J_iconst (v := 0) X dL_isTold_601 rfl ?_
                    exact K594_602 _ j594_0.symm
                  · skip
                    rw [if_pos c594] at j594_0
                    refine J_iconst (v := 1) X dL_isTold_597 rfl ?_
                    refine J_goto (tgt := 602) X dL_isTold_598 (by decide) ?_
                    exact K594_602 _ j594_0.symm
                have j574_0 : T3_j574x1 σ ξ one two a530_13 = (if (T3_j32 σ ξ one two) = (4 : Int32) then (-3000000 : Int32) else (if (T3_j482 σ ξ one two) = (0 : Int32) then (-2000000 : Int32) else a530_13)) := rfl
                refine J_icmp_ne (tgt := 582) X dL_isTold_574 (by decide) (fun c574 => ?_) (fun c574 => ?_)
                · skip
                  rw [if_neg c574] at j574_0
                  refine J_iload_12 X dL_isTold_582 ?_
                  refine J_if_eq (tgt := 592) X dL_isTold_584 (by decide) (fun c584 => ?_) (fun c584 => ?_)
                  · skip
                    rw [if_pos c584] at j574_0
                    refine J_ldc (v := (-2000000 : Int32)) X dL_isTold_592 gw_4_73 ?_
                    exact K574_594 _ j574_0.symm
                  · skip
                    rw [if_neg c584] at j574_0
                    refine J_iload_13 X dL_isTold_587 ?_
                    refine J_goto (tgt := 594) X dL_isTold_589 (by decide) ?_
                    exact K574_594 _ j574_0.symm
                · skip
                  rw [if_pos c574] at j574_0
                  refine J_ldc (v := (-3000000 : Int32)) X dL_isTold_577 gw_4_72 ?_
                  refine J_goto (tgt := 594) X dL_isTold_579 (by decide) ?_
                  exact K574_594 _ j574_0.symm
              have L530 : ∀ (n530 k530 : Nat) (a530_13 : Int32), k530 + n530 = n30 → (T3 σ ξ one two) = (T3_L530 σ ξ one two K530 n530 k530 a530_13) → (T3_s σ ξ one two) = (T3_L530_s σ ξ one two K530s n530 k530 a530_13) → (T3_x σ ξ one two) = (T3_L530_x σ ξ one two K530x n530 k530 a530_13) → J K h13 [some (.ref r), some (.ref (α 0)), some (.ref (α 1)), some (.ref (α 2)), some (.ref (α 3)), some (.ref (α 7)), some (.int (3 : Int32)), some (.int one), some (.int two), some (.int (T3_j7 σ ξ one two)), some (.int (T3_j32 σ ξ one two)), some (.int (T3_j444 σ ξ one two)), some (.int (T3_j482 σ ξ one two)), some (.int a530_13), some (.int (nI k530))] [] 530 0 0 := by
                intro n530
                induction n530 with
                | zero =>
                  intro k530 a530_13  hk530  q_v q_s q_x
                  rw [T3_L530] at q_v
                  rw [T3_L530_s] at q_s
                  rw [T3_L530_x] at q_x
                  refine J_iload_14 X dL_isTold_530 ?_
                  refine J_bipush (v := (30 : Int32)) X dL_isTold_532 (by decide) ?_
                  refine J_icmp_ge (tgt := 559) X dL_isTold_534 (by decide) (fun _ => ?_) (fun c => absurd (lp_exit (by rw [n30_eq]; rfl) (by omega) hk530) c)
                  rw [hK530] at q_v
                  rw [hK530s] at q_s
                  rw [hK530x] at q_x
                  refine J.subL (lv' := [some (.ref r), some (.ref (α 0)), some (.ref (α 1)), some (.ref (α 2)), some (.ref (α 3)), some (.ref (α 7)), some (.int (3 : Int32)), some (.int one), some (.int two), some (.int (T3_j7 σ ξ one two)), some (.int (T3_j32 σ ξ one two)), some (.int (T3_j444 σ ξ one two)), some (.int (T3_j482 σ ξ one two)), some (.int a530_13), none]) (And.intro rfl (And.intro rfl (And.intro rfl (And.intro rfl (And.intro rfl (And.intro rfl (And.intro rfl (And.intro rfl (And.intro rfl (And.intro rfl (And.intro rfl (And.intro rfl (And.intro rfl (And.intro rfl trivial)))))))))))))) ?_
                  exact X530 a530_13  trivial  q_v q_s q_x
                | succ n530 ih530 =>
                  intro k530 a530_13  hk530  q_v q_s q_x
                  rw [T3_L530] at q_v
                  rw [T3_L530_s] at q_s
                  rw [T3_L530_x] at q_x
                  have hlt530 : k530 < n30 := by omega
                  refine J_iload_14 X dL_isTold_530 ?_
                  refine J_bipush (v := (30 : Int32)) X dL_isTold_532 (by decide) ?_
                  refine J_icmp_ge (tgt := 559) X dL_isTold_534 (by decide) (fun c => absurd c (lp_stay (by rw [n30_eq]; rfl) (by omega) hk530)) (fun _ => ?_)
                  refine J_iload_13 X dL_isTold_537 ?_
                  refine J_aload_2 X dL_isTold_539 ?_
                  refine J_iconst (v := 4) X dL_isTold_540 rfl ?_
                  refine J_iload_10 X dL_isTold_541 ?_
                  refine J_iadd X dL_isTold_543 ?_
                  refine JL_lv X hR13.la 1 (by decide) (vp_up (vr_add (vp_in_nI (n := 4) (N := 5) (by decide) (by decide)) (lt_up (T3_zn h2) (by decide) (N := 4) (by decide) rfl c506) (by decide)) (by decide)) (v := ((σ 1 (ix ((4 : Int32) + (T3_j32 σ ξ one two)))) ||| ((1 : Int32) <<< ((T3_j444 σ ξ one two) &&& 31)))) (by rw [sS_same]) dL_isTold_544 ?_
                  refine J_iload_14 X dL_isTold_545 ?_
                  refine J_ishr X dL_isTold_547 ?_
                  refine J_iconst (v := 1) X dL_isTold_548 rfl ?_
                  refine J_iand X dL_isTold_549 ?_
                  refine J_iadd X dL_isTold_550 ?_
                  refine J_istore_13 X dL_isTold_551 rfl (by decide) ?_
                  refine J_iinc_14 (v := (nI (k530 + 1))) X dL_isTold_553 (nI_1 _) rfl (by decide) ?_
                  refine J_goto (tgt := 530) X dL_isTold_556 (by decide) ?_
                  exact ih530 (k530 + 1) (a530_13 + ((((σ 1 (ix ((4 : Int32) + (T3_j32 σ ξ one two)))) ||| ((1 : Int32) <<< ((T3_j444 σ ξ one two) &&& 31))) >>> ((nI k530) &&& 31)) &&& (1 : Int32)))  (by omega)  q_v q_s q_x
              have q_v : (T3 σ ξ one two) = (T3_L530 σ ξ one two K530 n30 0 (0 : Int32)) := by rw [hK530]; exact q_v
              have q_s : (T3_s σ ξ one two) = (T3_L530_s σ ξ one two K530s n30 0 (0 : Int32)) := by rw [hK530s]; exact q_s
              have q_x : (T3_x σ ξ one two) = (T3_L530_x σ ξ one two K530x n30 0 (0 : Int32)) := by rw [hK530x]; exact q_x
              exact L530 n30 0 (0 : Int32)  (Nat.zero_add _)  q_v q_s q_x
        have j482_0 : T3_j482 σ ξ one two = (if (T3_j444 σ ξ one two) < (0 : Int32) then (0 : Int32) else (if (1000 : Int32) ≤ (T3_j444 σ ξ one two) then (0 : Int32) else (1 : Int32))) := rfl
        refine J_if_lt (tgt := 497) X dL_isTold_482 (by decide) (fun c482 => ?_) (fun c482 => ?_)
        · skip
          rw [if_pos c482] at j482_0
          refine J_iconst (v := 0) X dL_isTold_497 rfl ?_
          exact K482_498 _ j482_0.symm
        · skip
          rw [if_neg c482] at j482_0
          refine J_iload_11 X dL_isTold_485 ?_
          refine J_sipush (v := (1000 : Int32)) X dL_isTold_487 (by decide) ?_
          refine J_icmp_ge (tgt := 497) X dL_isTold_490 (by decide) (fun c490 => ?_) (fun c490 => ?_)
          · skip
            rw [if_pos c490] at j482_0
            refine J_iconst (v := 0) X dL_isTold_497 rfl ?_
            exact K482_498 _ j482_0.symm
          · skip
            rw [if_neg c490] at j482_0
            refine J_iconst (v := 1) X dL_isTold_493 rfl ?_
            refine J_goto (tgt := 498) X dL_isTold_494 (by decide) ?_
            exact K482_498 _ j482_0.symm
      have j444_0 : T3_j444 σ ξ one two = (if (one - one / (9 : Int32) * (9 : Int32)) = (0 : Int32) then ((((one / (9 : Int32)) - (one / (9 : Int32)) / (2 : Int32) * (2 : Int32)) * (1001 : Int32)) - (1 : Int32)) else ((((σ 7 (ix (0 : Int32))) / (24 : Int32)) + (one - one / (3 : Int32) * (3 : Int32))) - (((σ 7 (ix (0 : Int32))) / (24 : Int32)) + (one - one / (3 : Int32) * (3 : Int32))) / (30 : Int32) * (30 : Int32))) := rfl
      refine J_if_ne (tgt := 463) X dL_isTold_444 (by decide) (fun c444 => ?_) (fun c444 => ?_)
      · skip
        rw [if_neg c444] at j444_0
        refine J_aload_5 X dL_isTold_463 ?_
        refine J_iconst (v := 0) X dL_isTold_465 rfl ?_
        refine JL_ld X hL.la 7 (by decide) (vp_up (vp_in_nI (n := 0) (N := 1) (by decide) (by decide)) (by decide)) dL_isTold_466 ?_
        refine J_bipush (v := (24 : Int32)) X dL_isTold_467 (by decide) ?_
        refine J_idiv X dL_isTold_469 (by decide) ?_
        refine J_iload_7 X dL_isTold_470 ?_
        refine J_iconst (v := 3) X dL_isTold_472 rfl ?_
        refine J_irem X dL_isTold_473 (by decide) ?_
        refine J_iadd X dL_isTold_474 ?_
        refine J_bipush (v := (30 : Int32)) X dL_isTold_475 (by decide) ?_
        refine J_irem X dL_isTold_477 (by decide) ?_
        exact K444_478 _ j444_0.symm
      · skip
        rw [if_pos c444] at j444_0
        refine J_iload_7 X dL_isTold_447 ?_
        refine J_bipush (v := (9 : Int32)) X dL_isTold_449 (by decide) ?_
        refine J_idiv X dL_isTold_451 (by decide) ?_
        refine J_iconst (v := 2) X dL_isTold_452 rfl ?_
        refine J_irem X dL_isTold_453 (by decide) ?_
        refine J_sipush (v := (1001 : Int32)) X dL_isTold_454 (by decide) ?_
        refine J_imul X dL_isTold_457 ?_
        refine J_iconst (v := 1) X dL_isTold_458 rfl ?_
        refine J_isub X dL_isTold_459 ?_
        refine J_goto (tgt := 478) X dL_isTold_460 (by decide) ?_
        exact K444_478 _ j444_0.symm
    have j32_0 : T3_j32 σ ξ one two = (if (two - two / (13 : Int32) * (13 : Int32)) = (12 : Int32) then (4 : Int32) else (two - two / (2 : Int32) * (2 : Int32))) := rfl
    refine J_icmp_ne (tgt := 39) X dL_isTold_32 (by decide) (fun c32 => ?_) (fun c32 => ?_)
    · skip
      rw [if_neg c32] at j32_0
      refine J_iload_8 X dL_isTold_39 ?_
      refine J_iconst (v := 2) X dL_isTold_41 rfl ?_
      refine J_irem X dL_isTold_42 (by decide) ?_
      exact K32_43 _ j32_0.symm
    · skip
      rw [if_pos c32] at j32_0
      refine J_iconst (v := 4) X dL_isTold_35 rfl ?_
      refine J_goto (tgt := 43) X dL_isTold_36 (by decide) ?_
      exact K32_43 _ j32_0.symm
  have j7_0 : T3_j7 σ ξ one two = (if (one - one / (17 : Int32) * (17 : Int32)) = (16 : Int32) then (64 : Int32) else ((16 : Int32) + (one - one / (24 : Int32) * (24 : Int32)))) := rfl
  refine J_icmp_ne (tgt := 15) X dL_isTold_7 (by decide) (fun c7 => ?_) (fun c7 => ?_)
  · skip
    rw [if_neg c7] at j7_0
    refine J_bipush (v := (16 : Int32)) X dL_isTold_15 (by decide) ?_
    refine J_iload_7 X dL_isTold_17 ?_
    refine J_bipush (v := (24 : Int32)) X dL_isTold_19 (by decide) ?_
    refine J_irem X dL_isTold_21 (by decide) ?_
    refine J_iadd X dL_isTold_22 ?_
    exact K7_23 _ j7_0.symm
  · skip
    rw [if_pos c7] at j7_0
    refine J_bipush (v := (64 : Int32)) X dL_isTold_10 (by decide) ?_
    refine J_goto (tgt := 23) X dL_isTold_12 (by decide) ?_
    exact K7_23 _ j7_0.symm
def T4_j7 (σ : St) (ξ : St) (one : Int32) (two : Int32) : Int32 := (if (one - one / (17 : Int32) * (17 : Int32)) = (16 : Int32) then (64 : Int32) else ((16 : Int32) + (one - one / (24 : Int32) * (24 : Int32))))
def T4_j32 (σ : St) (ξ : St) (one : Int32) (two : Int32) : Int32 := (if (two - two / (13 : Int32) * (13 : Int32)) = (12 : Int32) then (4 : Int32) else (two - two / (2 : Int32) * (2 : Int32)))
def T4_j627 (σ : St) (ξ : St) (one : Int32) (two : Int32) : Int32 := (if (3 : Int32) ≤ (one - one / (4 : Int32) * (4 : Int32)) then (σ 7 (ix (1 : Int32))) else (one - one / (4 : Int32) * (4 : Int32)))
def T4_j652 (σ : St) (ξ : St) (one : Int32) (two : Int32) : Int32 := (if (3 : Int32) ≤ (one - one / (4 : Int32) * (4 : Int32)) then (-2000000 : Int32) else (σ 7 (ix (1 : Int32))))
def T4_j662 (σ : St) (ξ : St) (one : Int32) (two : Int32) : Int32 := (if (DV_3 ξ (one - one / (4 : Int32) * (4 : Int32))) = (T4_j652 σ ξ one two) then (1 : Int32) else (0 : Int32))
theorem T4_j662_b (σ : St) (ξ : St) (one : Int32) (two : Int32) : T4_j662 σ ξ one two = 0 ∨ T4_j662 σ ξ one two = 1 := by
  unfold T4_j662
  (repeat' split) <;> first | exact Or.inl (by with_reducible rfl) | exact Or.inr (by with_reducible rfl)
def T4 (σ : St) (ξ : St) (one : Int32) (two : Int32) : Int32 := (T4_j662 σ ξ one two)
def T4_s (σ : St) (ξ : St) (one : Int32) (two : Int32) : St := (sS σ 7 (ix (1 : Int32)) (T4_j627 σ ξ one two))
def T4_x (σ : St) (ξ : St) (one : Int32) (two : Int32) : St := (M_air_s ξ (one - one / (4 : Int32) * (4 : Int32)))
theorem T4_b (σ : St) (ξ : St) (one : Int32) (two : Int32) : (T4 σ ξ one two) = 0 ∨ (T4 σ ξ one two) = 1 := by
  unfold T4
  (repeat' split) <;> first | exact Or.inl (by with_reducible rfl) | exact Or.inr (by with_reducible rfl) | exact T4_j662_b ..
theorem T4_pl {σ ξ : St} {one two : Int32} (h1 : vp_in one 60000) : vp_in (T4_j7 σ ξ one two) 65 := by
  unfold T4_j7
  split
  · exact vp_in_nI (n := 64) (by decide) (by decide)
  · exact vp_up (vr_add (vp_in_nI (n := 16) (N := 17) (by decide) (by decide)) (vr_rem (c := 24) h1 (by decide) (by decide) (by decide)) (by decide)) (by decide)
theorem T4_zn {σ ξ : St} {one two : Int32} (h2 : vp_in two 60000) : vp_in (T4_j32 σ ξ one two) 5 := by
  unfold T4_j32
  split
  · exact vp_in_nI (n := 4) (by decide) (by decide)
  · exact vp_up (vr_rem (c := 2) h2 (by decide) (by decide) (by decide)) (by decide)
set_option maxRecDepth 100000 in
set_option maxHeartbeats 4000000 in
theorem c_T4 {l : Launch} {D : va_G} {ca : Nat → Nat} {h hx : fH} {r : Nat} {α : Nat → Nat} {σ ξ : St} (hL : LH ca hx h α σ) (hX : RA ca hx r ξ) (hIX : InvX ξ) (hIO : InvO ξ) (hQ : LQ ξ σ) (one : Int32) (two : Int32) (h1 : vp_in one 60000) (h2 : vp_in two 60000) : FM l D ca yL_isTold (.code yL_isTold cL_isTold 15 (some .boolean)) { frames := 9, cells := 1, slots := 6, locals := 172 } [.ref r, .ref (α 0), .ref (α 1), .ref (α 2), .ref (α 3), .ref (α 7), .int (4 : Int32), .int one, .int two] h (fun v h2 => v = some (.int (T4 σ ξ one two)) ∧ ∃ hx2, LH ca hx2 h2 α (T4_s σ ξ one two) ∧ RA ca hx2 r (T4_x σ ξ one two)) noX := by
  refine FM.of [some (.ref r), some (.ref (α 0)), some (.ref (α 1)), some (.ref (α 2)), some (.ref (α 3)), some (.ref (α 7)), some (.int (4 : Int32)), some (.int one), some (.int two), none, none, none, none, none, none] (by decide) (Nat.le_of_ble_eq_true rfl) rfl ?_
  rintro K X rfl rfl rfl
  have hI := IL_of hQ hIX
  have q_v : (T4 σ ξ one two) = (T4_j662 σ ξ one two) := rfl
  have q_s : (T4_s σ ξ one two) = (sS σ 7 (ix (1 : Int32)) (T4_j627 σ ξ one two)) := rfl
  have q_x : (T4_x σ ξ one two) = (M_air_s ξ (one - one / (4 : Int32) * (4 : Int32))) := rfl
  refine J_iload_7 X dL_isTold_0 ?_
  refine J_bipush (v := (17 : Int32)) X dL_isTold_2 (by decide) ?_
  refine J_irem X dL_isTold_4 (by decide) ?_
  refine J_bipush (v := (16 : Int32)) X dL_isTold_5 (by decide) ?_
  have K7_23 : ∀ (v7_0 : Int32), v7_0 = (T4_j7 σ ξ one two) → J K h [some (.ref r), some (.ref (α 0)), some (.ref (α 1)), some (.ref (α 2)), some (.ref (α 3)), some (.ref (α 7)), some (.int (4 : Int32)), some (.int one), some (.int two), none, none, none, none, none, none] [.int v7_0] 23 0 0 := by
    intro v7_0 ev7_0
    try rw [ev7_0]
    clear ev7_0
    refine J_istore_9 X dL_isTold_23 rfl (by decide) ?_
    refine J_iload_8 X dL_isTold_25 ?_
    refine J_bipush (v := (13 : Int32)) X dL_isTold_27 (by decide) ?_
    refine J_irem X dL_isTold_29 (by decide) ?_
    refine J_bipush (v := (12 : Int32)) X dL_isTold_30 (by decide) ?_
    have K32_43 : ∀ (v32_0 : Int32), v32_0 = (T4_j32 σ ξ one two) → J K h [some (.ref r), some (.ref (α 0)), some (.ref (α 1)), some (.ref (α 2)), some (.ref (α 3)), some (.ref (α 7)), some (.int (4 : Int32)), some (.int one), some (.int two), some (.int (T4_j7 σ ξ one two)), none, none, none, none, none] [.int v32_0] 43 0 0 := by
      intro v32_0 ev32_0
      try rw [ev32_0]
      clear ev32_0
      refine J_istore_10 X dL_isTold_43 rfl (by decide) ?_
      refine J_iload_6 X dL_isTold_45 ?_
      refine J_if_ne (tgt := 142) X dL_isTold_47 (by decide) (fun _ => ?_) (fun c => absurd c (by decide))
      refine J_iload_6 X dL_isTold_142 ?_
      refine J_iconst (v := 1) X dL_isTold_144 rfl ?_
      refine J_icmp_ne (tgt := 248) X dL_isTold_145 (by decide) (fun _ => ?_) (fun c => absurd c (by decide))
      refine J_iload_6 X dL_isTold_248 ?_
      refine J_iconst (v := 2) X dL_isTold_250 rfl ?_
      refine J_icmp_ne (tgt := 433) X dL_isTold_251 (by decide) (fun _ => ?_) (fun c => absurd c (by decide))
      refine J_iload_6 X dL_isTold_433 ?_
      refine J_iconst (v := 3) X dL_isTold_435 rfl ?_
      refine J_icmp_ne (tgt := 603) X dL_isTold_436 (by decide) (fun _ => ?_) (fun c => absurd c (by decide))
      refine J_iload_6 X dL_isTold_603 ?_
      refine J_iconst (v := 4) X dL_isTold_605 rfl ?_
      refine J_icmp_ne (tgt := 671) X dL_isTold_606 (by decide) (fun c => absurd (by decide) c) (fun _ => ?_)
      refine J_iload_7 X dL_isTold_609 ?_
      refine J_iconst (v := 4) X dL_isTold_611 rfl ?_
      refine J_irem X dL_isTold_612 (by decide) ?_
      refine J_istore_11 X dL_isTold_613 rfl (by decide) ?_
      refine J_aload_5 X dL_isTold_615 ?_
      refine J_iconst (v := 1) X dL_isTold_617 rfl ?_
      refine JL_ld X hL.la 7 (by decide) (vp_up (vp_in_nI (n := 1) (N := 2) (by decide) (by decide)) (by decide)) dL_isTold_618 ?_
      refine J_istore_12 X dL_isTold_619 rfl (by decide) ?_
      refine J_aload_5 X dL_isTold_621 ?_
      refine J_iconst (v := 1) X dL_isTold_623 rfl ?_
      refine J_iload_11 X dL_isTold_624 ?_
      refine J_iconst (v := 3) X dL_isTold_626 rfl ?_
      have K627_637 : ∀ (v627_0 : Int32), v627_0 = (T4_j627 σ ξ one two) → J K h [some (.ref r), some (.ref (α 0)), some (.ref (α 1)), some (.ref (α 2)), some (.ref (α 3)), some (.ref (α 7)), some (.int (4 : Int32)), some (.int one), some (.int two), some (.int (T4_j7 σ ξ one two)), some (.int (T4_j32 σ ξ one two)), some (.int (one - one / (4 : Int32) * (4 : Int32))), some (.int (σ 7 (ix (1 : Int32)))), none, none] [.int v627_0, .int (1 : Int32), .ref (α 7)] 637 0 0 := by
        intro v627_0 ev627_0
        try rw [ev627_0]
        clear ev627_0
        refine JL_st X hL 7 (by decide) (vp_up (vp_in_nI (n := 1) (N := 2) (by decide) (by decide)) (by decide)) dL_isTold_637 (fun h11 hR11 => ?_)
        refine J_aload_0 X dL_isTold_638 ?_
        refine J_iconst (v := 3) X dL_isTold_639 rfl ?_
        refine J_iload_11 X dL_isTold_640 ?_
        refine J_iconst (v := 0) X dL_isTold_642 rfl ?_
        refine J_iconst (v := 0) X dL_isTold_643 rfl ?_
        refine J_iconst (v := 0) X dL_isTold_644 rfl ?_
        refine J_iconst (v := 0) X dL_isTold_645 rfl ?_
        obtain ⟨la, eh, hap, hLA, hα⟩ := hR11
        subst eh
        refine J_callSW X ((c_D_3 hX hIX hIO (one - one / (4 : Int32) * (4 : Int32)) (0 : Int32) (0 : Int32) (0 : Int32) (0 : Int32)).frame hap) (And.intro gw_2_177 cw_L_does) rfl rfl (Nat.le_of_ble_eq_true rfl) dL_isTold_646 rfl (fun v h12 e => ?_) (fun E h12 e => by obtain ⟨_, q, _⟩ := e; exact q.elim)
        obtain ⟨hx12, ⟨e0, hX12⟩, hap12, eh⟩ := e
        subst e0
        subst eh
        have hR12 : LH (kca K) hx12 (un hx12 la) α (sS σ 7 (ix (1 : Int32)) (T4_j627 σ ξ one two)) := ⟨la, rfl, hap12, hLA, hα⟩
        show J K (un hx12 la) [some (.ref r), some (.ref (α 0)), some (.ref (α 1)), some (.ref (α 2)), some (.ref (α 3)), some (.ref (α 7)), some (.int (4 : Int32)), some (.int one), some (.int two), some (.int (T4_j7 σ ξ one two)), some (.int (T4_j32 σ ξ one two)), some (.int (one - one / (4 : Int32) * (4 : Int32))), some (.int (σ 7 (ix (1 : Int32)))), none, none] [.int (DV_3 ξ (one - one / (4 : Int32) * (4 : Int32)))] 649 1 6
        refine J_iload_11 X dL_isTold_649 ?_
        refine J_iconst (v := 3) X dL_isTold_651 rfl ?_
        have K652_662 : ∀ (v652_0 : Int32), v652_0 = (T4_j652 σ ξ one two) → J K (un hx12 la) [some (.ref r), some (.ref (α 0)), some (.ref (α 1)), some (.ref (α 2)), some (.ref (α 3)), some (.ref (α 7)), some (.int (4 : Int32)), some (.int one), some (.int two), some (.int (T4_j7 σ ξ one two)), some (.int (T4_j32 σ ξ one two)), some (.int (one - one / (4 : Int32) * (4 : Int32))), some (.int (σ 7 (ix (1 : Int32)))), none, none] [.int v652_0, .int (DV_3 ξ (one - one / (4 : Int32) * (4 : Int32)))] 662 1 6 := by
          intro v652_0 ev652_0
          try rw [ev652_0]
          clear ev652_0
          have K662_670 : ∀ (v662_0 : Int32), v662_0 = (T4_j662 σ ξ one two) → J K (un hx12 la) [some (.ref r), some (.ref (α 0)), some (.ref (α 1)), some (.ref (α 2)), some (.ref (α 3)), some (.ref (α 7)), some (.int (4 : Int32)), some (.int one), some (.int two), some (.int (T4_j7 σ ξ one two)), some (.int (T4_j32 σ ξ one two)), some (.int (one - one / (4 : Int32) * (4 : Int32))), some (.int (σ 7 (ix (1 : Int32)))), none, none] [.int v662_0] 670 1 6 := by
            intro v662_0 ev662_0
            try rw [ev662_0]
            clear ev662_0
            exact J_zret X rfl (T4_j662_b ..) rfl ⟨by rw [q_v], hx12, by rw [q_s]; exact hR12, by rw [q_x]; exact hX12⟩ dL_isTold_670
          have j662_0 : T4_j662 σ ξ one two = (if (DV_3 ξ (one - one / (4 : Int32) * (4 : Int32))) = (T4_j652 σ ξ one two) then (1 : Int32) else (0 : Int32)) := rfl
          refine J_icmp_ne (tgt := 669) X dL_isTold_662 (by decide) (fun c662 => ?_) (fun c662 => ?_)
          · skip
            rw [if_neg c662] at j662_0
            refine J_iconst (v := 0) X dL_isTold_669 rfl ?_
            exact K662_670 _ j662_0.symm
          · skip
            rw [if_pos c662] at j662_0
            refine J_iconst (v := 1) X dL_isTold_665 rfl ?_
            refine J_goto (tgt := 670) X dL_isTold_666 (by decide) ?_
            exact K662_670 _ j662_0.symm
        have j652_0 : T4_j652 σ ξ one two = (if (3 : Int32) ≤ (one - one / (4 : Int32) * (4 : Int32)) then (-2000000 : Int32) else (σ 7 (ix (1 : Int32)))) := rfl
        refine J_icmp_ge (tgt := 660) X dL_isTold_652 (by decide) (fun c652 => ?_) (fun c652 => ?_)
        · skip
          rw [if_pos c652] at j652_0
          refine J_ldc (v := (-2000000 : Int32)) X dL_isTold_660 gw_4_73 ?_
          exact K652_662 _ j652_0.symm
        · skip
          rw [if_neg c652] at j652_0
          refine J_iload_12 X dL_isTold_655 ?_
          refine J_goto (tgt := 662) X dL_isTold_657 (by decide) ?_
          exact K652_662 _ j652_0.symm
      have j627_0 : T4_j627 σ ξ one two = (if (3 : Int32) ≤ (one - one / (4 : Int32) * (4 : Int32)) then (σ 7 (ix (1 : Int32))) else (one - one / (4 : Int32) * (4 : Int32))) := rfl
      refine J_icmp_ge (tgt := 635) X dL_isTold_627 (by decide) (fun c627 => ?_) (fun c627 => ?_)
      · skip
        rw [if_pos c627] at j627_0
        refine J_iload_12 X dL_isTold_635 ?_
        exact K627_637 _ j627_0.symm
      · skip
        rw [if_neg c627] at j627_0
        refine J_iload_11 X dL_isTold_630 ?_
        refine J_goto (tgt := 637) X dL_isTold_632 (by decide) ?_
        exact K627_637 _ j627_0.symm
    have j32_0 : T4_j32 σ ξ one two = (if (two - two / (13 : Int32) * (13 : Int32)) = (12 : Int32) then (4 : Int32) else (two - two / (2 : Int32) * (2 : Int32))) := rfl
    refine J_icmp_ne (tgt := 39) X dL_isTold_32 (by decide) (fun c32 => ?_) (fun c32 => ?_)
    · skip
      rw [if_neg c32] at j32_0
      refine J_iload_8 X dL_isTold_39 ?_
      refine J_iconst (v := 2) X dL_isTold_41 rfl ?_
      refine J_irem X dL_isTold_42 (by decide) ?_
      exact K32_43 _ j32_0.symm
    · skip
      rw [if_pos c32] at j32_0
      refine J_iconst (v := 4) X dL_isTold_35 rfl ?_
      refine J_goto (tgt := 43) X dL_isTold_36 (by decide) ?_
      exact K32_43 _ j32_0.symm
  have j7_0 : T4_j7 σ ξ one two = (if (one - one / (17 : Int32) * (17 : Int32)) = (16 : Int32) then (64 : Int32) else ((16 : Int32) + (one - one / (24 : Int32) * (24 : Int32)))) := rfl
  refine J_icmp_ne (tgt := 15) X dL_isTold_7 (by decide) (fun c7 => ?_) (fun c7 => ?_)
  · skip
    rw [if_neg c7] at j7_0
    refine J_bipush (v := (16 : Int32)) X dL_isTold_15 (by decide) ?_
    refine J_iload_7 X dL_isTold_17 ?_
    refine J_bipush (v := (24 : Int32)) X dL_isTold_19 (by decide) ?_
    refine J_irem X dL_isTold_21 (by decide) ?_
    refine J_iadd X dL_isTold_22 ?_
    exact K7_23 _ j7_0.symm
  · skip
    rw [if_pos c7] at j7_0
    refine J_bipush (v := (64 : Int32)) X dL_isTold_10 (by decide) ?_
    refine J_goto (tgt := 23) X dL_isTold_12 (by decide) ?_
    exact K7_23 _ j7_0.symm
def T5_j7 (σ : St) (ξ : St) (one : Int32) (two : Int32) : Int32 := (if (one - one / (17 : Int32) * (17 : Int32)) = (16 : Int32) then (64 : Int32) else ((16 : Int32) + (one - one / (24 : Int32) * (24 : Int32))))
def T5_j32 (σ : St) (ξ : St) (one : Int32) (two : Int32) : Int32 := (if (two - two / (13 : Int32) * (13 : Int32)) = (12 : Int32) then (4 : Int32) else (two - two / (2 : Int32) * (2 : Int32)))
def T5_j682 (σ : St) (ξ : St) (one : Int32) (two : Int32) : Int32 := (if (one - one / (11 : Int32) * (11 : Int32)) = (0 : Int32) then ((two - two / (2 : Int32) * (2 : Int32)) * (501 : Int32)) else (if (one - one / (4 : Int32) * (4 : Int32)) = (0 : Int32) then ((1 : Int32) + (two - two / (300 : Int32) * (300 : Int32))) else ((1 : Int32) + (two - two / (14 : Int32) * (14 : Int32)))))
def T5_j725 (σ : St) (ξ : St) (one : Int32) (two : Int32) : Int32 := (if (T5_j682 σ ξ one two) ≤ (0 : Int32) then (0 : Int32) else (if (501 : Int32) ≤ (T5_j682 σ ξ one two) then (0 : Int32) else (1 : Int32)))
theorem T5_j725_b (σ : St) (ξ : St) (one : Int32) (two : Int32) : T5_j725 σ ξ one two = 0 ∨ T5_j725 σ ξ one two = 1 := by
  unfold T5_j725
  (repeat' split) <;> first | exact Or.inl (by with_reducible rfl) | exact Or.inr (by with_reducible rfl)
def T5_j793 (σ : St) (ξ : St) (one : Int32) (two : Int32) (k746 : Nat) (s746 : St) (k761 : Nat) (s761 : St) : Int32 := (if (L_burns s761 (nI k761)) = (0 : Int32) then (0 : Int32) else (1 : Int32))
theorem T5_j793_b (σ : St) (ξ : St) (one : Int32) (two : Int32) (k746 : Nat) (s746 : St) (k761 : Nat) (s761 : St) : T5_j793 σ ξ one two k746 s746 k761 s761 = 0 ∨ T5_j793 σ ξ one two k746 s746 k761 s761 = 1 := by
  unfold T5_j793
  (repeat' split) <;> first | exact Or.inl (by with_reducible rfl) | exact Or.inr (by with_reducible rfl)
def T5_L761 (σ : St) (ξ : St) (one : Int32) (two : Int32) (k746 : Nat) (s746 : St) (K761 : St → Int32) : Nat → Nat → St → Int32
  | 0, _, s761 => K761 s761
  | n761 + 1, k761, s761 => (T5_L761 σ ξ one two k746 s746 K761 n761 (k761 + 1) (sS s761 3 (ix (((6 : Int32) * (nI k761)) + (4 : Int32))) ((s761 3 (ix (((6 : Int32) * (nI k761)) + (4 : Int32)))) + (T5_j793 σ ξ one two k746 s746 k761 s761))))
def T5_L761_s (σ : St) (ξ : St) (one : Int32) (two : Int32) (k746 : Nat) (s746 : St) (K761s : St → St) : Nat → Nat → St → St
  | 0, _, s761 => K761s s761
  | n761 + 1, k761, s761 => (T5_L761_s σ ξ one two k746 s746 K761s n761 (k761 + 1) (sS s761 3 (ix (((6 : Int32) * (nI k761)) + (4 : Int32))) ((s761 3 (ix (((6 : Int32) * (nI k761)) + (4 : Int32)))) + (T5_j793 σ ξ one two k746 s746 k761 s761))))
def T5_L761_x (σ : St) (ξ : St) (one : Int32) (two : Int32) (k746 : Nat) (s746 : St) (K761x : St → St) : Nat → Nat → St → St
  | 0, _, s761 => K761x s761
  | n761 + 1, k761, s761 => (T5_L761_x σ ξ one two k746 s746 K761x n761 (k761 + 1) (sS s761 3 (ix (((6 : Int32) * (nI k761)) + (4 : Int32))) ((s761 3 (ix (((6 : Int32) * (nI k761)) + (4 : Int32)))) + (T5_j793 σ ξ one two k746 s746 k761 s761))))
def T5_L746 (σ : St) (ξ : St) (one : Int32) (two : Int32) (K746 : St → Int32) : Nat → Nat → St → Int32
  | 0, _, s746 => K746 s746
  | n746 + 1, k746, s746 => (if (T5_j725 σ ξ one two) = (0 : Int32) then (K746 s746) else (T5_L761 σ ξ one two k746 s746 (fun s761 => (T5_L746 σ ξ one two K746 n746 (k746 + 1) (sS s761 7 (ix (0 : Int32)) ((s761 7 (ix (0 : Int32))) + (1 : Int32))))) (ix (s746 7 (ix (3 : Int32)))) 0 s746))
def T5_L746_s (σ : St) (ξ : St) (one : Int32) (two : Int32) (K746s : St → St) : Nat → Nat → St → St
  | 0, _, s746 => K746s s746
  | n746 + 1, k746, s746 => (if (T5_j725 σ ξ one two) = (0 : Int32) then (K746s s746) else (T5_L761_s σ ξ one two k746 s746 (fun s761 => (T5_L746_s σ ξ one two K746s n746 (k746 + 1) (sS s761 7 (ix (0 : Int32)) ((s761 7 (ix (0 : Int32))) + (1 : Int32))))) (ix (s746 7 (ix (3 : Int32)))) 0 s746))
def T5_L746_x (σ : St) (ξ : St) (one : Int32) (two : Int32) (K746x : St → St) : Nat → Nat → St → St
  | 0, _, s746 => K746x s746
  | n746 + 1, k746, s746 => (if (T5_j725 σ ξ one two) = (0 : Int32) then (K746x s746) else (T5_L761_x σ ξ one two k746 s746 (fun s761 => (T5_L746_x σ ξ one two K746x n746 (k746 + 1) (sS s761 7 (ix (0 : Int32)) ((s761 7 (ix (0 : Int32))) + (1 : Int32))))) (ix (s746 7 (ix (3 : Int32)))) 0 s746))
def T5_j836 (σ : St) (ξ : St) (one : Int32) (two : Int32) (s746 : St) : Int32 := (if (T5_j725 σ ξ one two) = (0 : Int32) then (-2000000 : Int32) else (s746 7 (ix (0 : Int32))))
def T5_j848 (σ : St) (ξ : St) (one : Int32) (two : Int32) (s746 : St) : Int32 := (if (DV_4 ξ (T5_j682 σ ξ one two)) = (T5_j836 σ ξ one two s746) then (1 : Int32) else (0 : Int32))
theorem T5_j848_b (σ : St) (ξ : St) (one : Int32) (two : Int32) (s746 : St) : T5_j848 σ ξ one two s746 = 0 ∨ T5_j848 σ ξ one two s746 = 1 := by
  unfold T5_j848
  (repeat' split) <;> first | exact Or.inl (by with_reducible rfl) | exact Or.inr (by with_reducible rfl)
def T5 (σ : St) (ξ : St) (one : Int32) (two : Int32) : Int32 := (T5_L746 σ ξ one two (fun s746 => (T5_j848 σ ξ one two s746)) (ix (T5_j682 σ ξ one two)) 0 σ)
def T5_s (σ : St) (ξ : St) (one : Int32) (two : Int32) : St := (T5_L746_s σ ξ one two (fun s746 => s746) (ix (T5_j682 σ ξ one two)) 0 σ)
def T5_x (σ : St) (ξ : St) (one : Int32) (two : Int32) : St := (T5_L746_x σ ξ one two (fun s746 => (M_pass_s ξ (T5_j682 σ ξ one two))) (ix (T5_j682 σ ξ one two)) 0 σ)
theorem T5_pl {σ ξ : St} {one two : Int32} (h1 : vp_in one 60000) : vp_in (T5_j7 σ ξ one two) 65 := by
  unfold T5_j7
  split
  · exact vp_in_nI (n := 64) (by decide) (by decide)
  · exact vp_up (vr_add (vp_in_nI (n := 16) (N := 17) (by decide) (by decide)) (vr_rem (c := 24) h1 (by decide) (by decide) (by decide)) (by decide)) (by decide)
theorem T5_zn {σ ξ : St} {one two : Int32} (h2 : vp_in two 60000) : vp_in (T5_j32 σ ξ one two) 5 := by
  unfold T5_j32
  split
  · exact vp_in_nI (n := 4) (by decide) (by decide)
  · exact vp_up (vr_rem (c := 2) h2 (by decide) (by decide) (by decide)) (by decide)
theorem T5_hr {σ ξ : St} {one two : Int32} (h1 : vp_in one 60000) (h2 : vp_in two 60000) : vp_in (T5_j682 σ ξ one two) 502 := by
  unfold T5_j682
  split
  · exact vp_up (vr_mul (vr_rem (c := 2) h2 (by decide) (by decide) (by decide)) (vp_in_nI (n := 501) (N := 502) (by decide) (by decide)) (by decide)) (by decide)
  · split
    · exact vp_up (vr_add (vp_in_nI (n := 1) (N := 2) (by decide) (by decide)) (vr_rem (c := 300) h2 (by decide) (by decide) (by decide)) (by decide)) (by decide)
    · exact vp_up (vr_add (vp_in_nI (n := 1) (N := 2) (by decide) (by decide)) (vr_rem (c := 14) h2 (by decide) (by decide) (by decide)) (by decide)) (by decide)
theorem T5_300 {σ ξ : St} {one two : Int32} (h2 : vp_in two 60000) (c : ¬ T5_j725 σ ξ one two = 0) : vp_in (T5_j682 σ ξ one two) 301 := by
  unfold T5_j725 at c
  unfold T5_j682 at c ⊢
  by_cases d : one - one / (11 : Int32) * (11 : Int32) = 0
  · rw [if_pos d] at c
    obtain ⟨j, hj, e⟩ := vn (vr_rem (c := 2) h2 (by decide) (by decide) (by decide)) (by decide)
    rw [show (2 : Int32) = nI 2 from rfl, e] at c
    have hj' : j = 0 ∨ j = 1 := by omega
    rcases hj' with z | z
    · subst z
      exact absurd (by decide +kernel) c
    · subst z
      exact absurd (by decide +kernel) c
  · rw [if_neg d]
    split
    · exact vp_up (vr_add (vp_in_nI (n := 1) (N := 2) (by decide) (by decide)) (vr_rem (c := 300) h2 (by decide) (by decide) (by decide)) (by decide)) (by decide)
    · exact vp_up (vr_add (vp_in_nI (n := 1) (N := 2) (by decide) (by decide)) (vr_rem (c := 14) h2 (by decide) (by decide) (by decide)) (by decide)) (by decide)
set_option maxRecDepth 100000 in
set_option maxHeartbeats 4000000 in
theorem c_T5 {l : Launch} {D : va_G} {ca : Nat → Nat} {h hx : fH} {r : Nat} {α : Nat → Nat} {σ ξ : St} (hL : LH ca hx h α σ) (hX : RA ca hx r ξ) (hIX : InvX ξ) (hIO : InvO ξ) (hQ : LQ ξ σ) (one : Int32) (two : Int32) (h1 : vp_in one 60000) (h2 : vp_in two 60000) (ht : ix (ξ 0 0) ≤ 19700) : FM l D ca yL_isTold (.code yL_isTold cL_isTold 15 (some .boolean)) { frames := 9, cells := 2, slots := 12, locals := 172 } [.ref r, .ref (α 0), .ref (α 1), .ref (α 2), .ref (α 3), .ref (α 7), .int (5 : Int32), .int one, .int two] h (fun v h2 => v = some (.int (T5 σ ξ one two)) ∧ ∃ hx2, LH ca hx2 h2 α (T5_s σ ξ one two) ∧ RA ca hx2 r (T5_x σ ξ one two)) noX := by
  refine FM.of [some (.ref r), some (.ref (α 0)), some (.ref (α 1)), some (.ref (α 2)), some (.ref (α 3)), some (.ref (α 7)), some (.int (5 : Int32)), some (.int one), some (.int two), none, none, none, none, none, none] (by decide) (Nat.le_of_ble_eq_true rfl) rfl ?_
  rintro K X rfl rfl rfl
  have hI := IL_of hQ hIX
  have q_v : (T5 σ ξ one two) = (T5_L746 σ ξ one two (fun s746 => (T5_j848 σ ξ one two s746)) (ix (T5_j682 σ ξ one two)) 0 σ) := rfl
  have q_s : (T5_s σ ξ one two) = (T5_L746_s σ ξ one two (fun s746 => s746) (ix (T5_j682 σ ξ one two)) 0 σ) := rfl
  have q_x : (T5_x σ ξ one two) = (T5_L746_x σ ξ one two (fun s746 => (M_pass_s ξ (T5_j682 σ ξ one two))) (ix (T5_j682 σ ξ one two)) 0 σ) := rfl
  refine J_iload_7 X dL_isTold_0 ?_
  refine J_bipush (v := (17 : Int32)) X dL_isTold_2 (by decide) ?_
  refine J_irem X dL_isTold_4 (by decide) ?_
  refine J_bipush (v := (16 : Int32)) X dL_isTold_5 (by decide) ?_
  have K7_23 : ∀ (v7_0 : Int32), v7_0 = (T5_j7 σ ξ one two) → J K h [some (.ref r), some (.ref (α 0)), some (.ref (α 1)), some (.ref (α 2)), some (.ref (α 3)), some (.ref (α 7)), some (.int (5 : Int32)), some (.int one), some (.int two), none, none, none, none, none, none] [.int v7_0] 23 0 0 := by
    intro v7_0 ev7_0
    try rw [ev7_0]
    clear ev7_0
    refine J_istore_9 X dL_isTold_23 rfl (by decide) ?_
    refine J_iload_8 X dL_isTold_25 ?_
    refine J_bipush (v := (13 : Int32)) X dL_isTold_27 (by decide) ?_
    refine J_irem X dL_isTold_29 (by decide) ?_
    refine J_bipush (v := (12 : Int32)) X dL_isTold_30 (by decide) ?_
    have K32_43 : ∀ (v32_0 : Int32), v32_0 = (T5_j32 σ ξ one two) → J K h [some (.ref r), some (.ref (α 0)), some (.ref (α 1)), some (.ref (α 2)), some (.ref (α 3)), some (.ref (α 7)), some (.int (5 : Int32)), some (.int one), some (.int two), some (.int (T5_j7 σ ξ one two)), none, none, none, none, none] [.int v32_0] 43 0 0 := by
      intro v32_0 ev32_0
      try rw [ev32_0]
      clear ev32_0
      refine J_istore_10 X dL_isTold_43 rfl (by decide) ?_
      refine J_iload_6 X dL_isTold_45 ?_
      refine J_if_ne (tgt := 142) X dL_isTold_47 (by decide) (fun _ => ?_) (fun c => absurd c (by decide))
      refine J_iload_6 X dL_isTold_142 ?_
      refine J_iconst (v := 1) X dL_isTold_144 rfl ?_
      refine J_icmp_ne (tgt := 248) X dL_isTold_145 (by decide) (fun _ => ?_) (fun c => absurd c (by decide))
      refine J_iload_6 X dL_isTold_248 ?_
      refine J_iconst (v := 2) X dL_isTold_250 rfl ?_
      refine J_icmp_ne (tgt := 433) X dL_isTold_251 (by decide) (fun _ => ?_) (fun c => absurd c (by decide))
      refine J_iload_6 X dL_isTold_433 ?_
      refine J_iconst (v := 3) X dL_isTold_435 rfl ?_
      refine J_icmp_ne (tgt := 603) X dL_isTold_436 (by decide) (fun _ => ?_) (fun c => absurd c (by decide))
      refine J_iload_6 X dL_isTold_603 ?_
      refine J_iconst (v := 4) X dL_isTold_605 rfl ?_
      refine J_icmp_ne (tgt := 671) X dL_isTold_606 (by decide) (fun _ => ?_) (fun c => absurd c (by decide))
      refine J_iload_6 X dL_isTold_671 ?_
      refine J_iconst (v := 5) X dL_isTold_673 rfl ?_
      refine J_icmp_ne (tgt := 857) X dL_isTold_674 (by decide) (fun c => absurd (by decide) c) (fun _ => ?_)
      refine J_iload_7 X dL_isTold_677 ?_
      refine J_bipush (v := (11 : Int32)) X dL_isTold_679 (by decide) ?_
      refine J_irem X dL_isTold_681 (by decide) ?_
      have K682_721 : ∀ (v682_0 : Int32), v682_0 = (T5_j682 σ ξ one two) → J K h [some (.ref r), some (.ref (α 0)), some (.ref (α 1)), some (.ref (α 2)), some (.ref (α 3)), some (.ref (α 7)), some (.int (5 : Int32)), some (.int one), some (.int two), some (.int (T5_j7 σ ξ one two)), some (.int (T5_j32 σ ξ one two)), none, none, none, none] [.int v682_0] 721 0 0 := by
        intro v682_0 ev682_0
        try rw [ev682_0]
        clear ev682_0
        refine J_istore_11 X dL_isTold_721 rfl (by decide) ?_
        refine J_iload_11 X dL_isTold_723 ?_
        have K725_741 : ∀ (v725_0 : Int32), v725_0 = (T5_j725 σ ξ one two) → J K h [some (.ref r), some (.ref (α 0)), some (.ref (α 1)), some (.ref (α 2)), some (.ref (α 3)), some (.ref (α 7)), some (.int (5 : Int32)), some (.int one), some (.int two), some (.int (T5_j7 σ ξ one two)), some (.int (T5_j32 σ ξ one two)), some (.int (T5_j682 σ ξ one two)), none, none, none] [.int v725_0] 741 0 0 := by
          intro v725_0 ev725_0
          try rw [ev725_0]
          clear ev725_0
          refine J_istore_12 X dL_isTold_741 rfl (by decide) ?_
          refine J_iconst (v := 0) X dL_isTold_743 rfl ?_
          refine J_istore_13 X dL_isTold_744 rfl (by decide) ?_
          have e0 : σ 7 (ix (0 : Int32)) = ξ 0 0 := hQ.g.1
          have l0 := (cnt (N := 20000) (IL_7_0 hI) (by decide)).1
          obtain ⟨K746, hK746⟩ : ∃ f : St → Int32, f = (fun s746 => (T5_j848 σ ξ one two s746)) := ⟨_, rfl⟩
          obtain ⟨K746s, hK746s⟩ : ∃ f : St → St, f = (fun s746 => s746) := ⟨_, rfl⟩
          obtain ⟨K746x, hK746x⟩ : ∃ f : St → St, f = (fun s746 => (M_pass_s ξ (T5_j682 σ ξ one two))) := ⟨_, rfl⟩
          have X746 : ∀ (s746 : St) (h746_ : fH) (_ : True), LH (kca K) hx h746_ α s746 → IL s746 → (T5 σ ξ one two) = (T5_j848 σ ξ one two s746) → (T5_s σ ξ one two) = s746 → (T5_x σ ξ one two) = (M_pass_s ξ (T5_j682 σ ξ one two)) → J K h746_ [some (.ref r), some (.ref (α 0)), some (.ref (α 1)), some (.ref (α 2)), some (.ref (α 3)), some (.ref (α 7)), some (.int (5 : Int32)), some (.int one), some (.int two), some (.int (T5_j7 σ ξ one two)), some (.int (T5_j32 σ ξ one two)), some (.int (T5_j682 σ ξ one two)), some (.int (T5_j725 σ ξ one two)), none, none] [] 823 0 0 := by
            intro s746 h746_ _ hR746_ hI746_ q_v q_s q_x
            refine J_aload_0 X dL_isTold_823 ?_
            refine J_iconst (v := 4) X dL_isTold_824 rfl ?_
            refine J_iload_11 X dL_isTold_825 ?_
            refine J_iconst (v := 0) X dL_isTold_827 rfl ?_
            refine J_iconst (v := 0) X dL_isTold_828 rfl ?_
            refine J_iconst (v := 0) X dL_isTold_829 rfl ?_
            refine J_iconst (v := 0) X dL_isTold_830 rfl ?_
            obtain ⟨la, eh, hap, hLA, hα⟩ := hR746_
            subst eh
            refine J_callSW X ((c_D_4 hX hIX hIO (T5_j682 σ ξ one two) (0 : Int32) (0 : Int32) (0 : Int32) (0 : Int32)).frame hap) (And.intro gw_2_177 cw_L_does) rfl rfl (Nat.le_of_ble_eq_true rfl) dL_isTold_831 rfl (fun v h11 e => ?_) (fun E h11 e => by obtain ⟨_, q, _⟩ := e; exact q.elim)
            obtain ⟨hx11, ⟨e0, hX11⟩, hap11, eh⟩ := e
            subst e0
            subst eh
            have hR11 : LH (kca K) hx11 (un hx11 la) α s746 := ⟨la, rfl, hap11, hLA, hα⟩
            show J K (un hx11 la) [some (.ref r), some (.ref (α 0)), some (.ref (α 1)), some (.ref (α 2)), some (.ref (α 3)), some (.ref (α 7)), some (.int (5 : Int32)), some (.int one), some (.int two), some (.int (T5_j7 σ ξ one two)), some (.int (T5_j32 σ ξ one two)), some (.int (T5_j682 σ ξ one two)), some (.int (T5_j725 σ ξ one two)), none, none] [.int (DV_4 ξ (T5_j682 σ ξ one two))] 834 2 12
            refine J_iload_12 X dL_isTold_834 ?_
            have K836_848 : ∀ (v836_0 : Int32), v836_0 = (T5_j836 σ ξ one two s746) → J K (un hx11 la) [some (.ref r), some (.ref (α 0)), some (.ref (α 1)), some (.ref (α 2)), some (.ref (α 3)), some (.ref (α 7)), some (.int (5 : Int32)), some (.int one), some (.int two), some (.int (T5_j7 σ ξ one two)), some (.int (T5_j32 σ ξ one two)), some (.int (T5_j682 σ ξ one two)), some (.int (T5_j725 σ ξ one two)), none, none] [.int v836_0, .int (DV_4 ξ (T5_j682 σ ξ one two))] 848 2 12 := by
              intro v836_0 ev836_0
              try rw [ev836_0]
              clear ev836_0
              have K848_856 : ∀ (v848_0 : Int32), v848_0 = (T5_j848 σ ξ one two s746) → J K (un hx11 la) [some (.ref r), some (.ref (α 0)), some (.ref (α 1)), some (.ref (α 2)), some (.ref (α 3)), some (.ref (α 7)), some (.int (5 : Int32)), some (.int one), some (.int two), some (.int (T5_j7 σ ξ one two)), some (.int (T5_j32 σ ξ one two)), some (.int (T5_j682 σ ξ one two)), some (.int (T5_j725 σ ξ one two)), none, none] [.int v848_0] 856 2 12 := by
                intro v848_0 ev848_0
                try rw [ev848_0]
                clear ev848_0
                exact J_zret X rfl (T5_j848_b ..) rfl ⟨by rw [q_v], hx11, by rw [q_s]; exact hR11, by rw [q_x]; exact hX11⟩ dL_isTold_856
              have j848_0 : T5_j848 σ ξ one two s746 = (if (DV_4 ξ (T5_j682 σ ξ one two)) = (T5_j836 σ ξ one two s746) then (1 : Int32) else (0 : Int32)) := rfl
              refine J_icmp_ne (tgt := 855) X dL_isTold_848 (by decide) (fun c848 => ?_) (fun c848 => ?_)
              · skip
                rw [if_neg c848] at j848_0
                refine J_iconst (v := 0) X dL_isTold_855 rfl ?_
                exact K848_856 _ j848_0.symm
              · skip
                rw [if_pos c848] at j848_0
                refine J_iconst (v := 1) X dL_isTold_851 rfl ?_
                refine J_goto (tgt := 856) X dL_isTold_852 (by decide) ?_
                exact K848_856 _ j848_0.symm
            have j836_0 : T5_j836 σ ξ one two s746 = (if (T5_j725 σ ξ one two) = (0 : Int32) then (-2000000 : Int32) else (s746 7 (ix (0 : Int32)))) := rfl
            refine J_if_eq (tgt := 846) X dL_isTold_836 (by decide) (fun c836 => ?_) (fun c836 => ?_)
            · skip
              rw [if_pos c836] at j836_0
              refine J_ldc (v := (-2000000 : Int32)) X dL_isTold_846 gw_4_73 ?_
              exact K836_848 _ j836_0.symm
            · skip
              rw [if_neg c836] at j836_0
              refine J_aload_5 X dL_isTold_839 ?_
              refine J_iconst (v := 0) X dL_isTold_841 rfl ?_
              refine JL_ld X hR11.la 7 (by decide) (vp_up (vp_in_nI (n := 0) (N := 1) (by decide) (by decide)) (by decide)) dL_isTold_842 ?_
              refine J_goto (tgt := 848) X dL_isTold_843 (by decide) ?_
              exact K836_848 _ j836_0.symm
          have L746 : ∀ (n746 k746 : Nat) (s746 : St) (h746_ : fH), k746 + n746 = ix (T5_j682 σ ξ one two) → LH (kca K) hx h746_ α s746 → IL s746 → s746 7 (ix (0 : Int32)) = nI (ix (σ 7 (ix (0 : Int32))) + k746) → (T5 σ ξ one two) = (T5_L746 σ ξ one two K746 n746 k746 s746) → (T5_s σ ξ one two) = (T5_L746_s σ ξ one two K746s n746 k746 s746) → (T5_x σ ξ one two) = (T5_L746_x σ ξ one two K746x n746 k746 s746) → J K h746_ [some (.ref r), some (.ref (α 0)), some (.ref (α 1)), some (.ref (α 2)), some (.ref (α 3)), some (.ref (α 7)), some (.int (5 : Int32)), some (.int one), some (.int two), some (.int (T5_j7 σ ξ one two)), some (.int (T5_j32 σ ξ one two)), some (.int (T5_j682 σ ξ one two)), some (.int (T5_j725 σ ξ one two)), some (.int (nI k746)), none] [] 746 0 0 := by
            intro n746
            induction n746 with
            | zero =>
              intro k746 s746 h746_ hk746 hR746_ hI746_ ht746 q_v q_s q_x
              rw [T5_L746] at q_v
              rw [T5_L746_s] at q_s
              rw [T5_L746_x] at q_x
              have ek746 : k746 = ix (T5_j682 σ ξ one two) := by omega
              subst ek746
              refine J_iload_13 X dL_isTold_746 ?_
              refine J_iload_11 X dL_isTold_748 ?_
              refine J_icmp_ge (tgt := 823) X dL_isTold_750 (by decide) (fun _ => ?_) (fun c => absurd (lp_exit (vp_nI' (T5_hr h1 h2) (by decide)) (by have := vp_lt (T5_hr (σ := σ) (ξ := ξ) h1 h2); omega) hk746) c)
              rw [hK746] at q_v
              rw [hK746s] at q_s
              rw [hK746x] at q_x
              refine J.subL (lv' := [some (.ref r), some (.ref (α 0)), some (.ref (α 1)), some (.ref (α 2)), some (.ref (α 3)), some (.ref (α 7)), some (.int (5 : Int32)), some (.int one), some (.int two), some (.int (T5_j7 σ ξ one two)), some (.int (T5_j32 σ ξ one two)), some (.int (T5_j682 σ ξ one two)), some (.int (T5_j725 σ ξ one two)), none, none]) (And.intro rfl (And.intro rfl (And.intro rfl (And.intro rfl (And.intro rfl (And.intro rfl (And.intro rfl (And.intro rfl (And.intro rfl (And.intro rfl (And.intro rfl (And.intro rfl (And.intro rfl trivial))))))))))))) ?_
              exact X746 s746 h746_ trivial hR746_ hI746_ q_v q_s q_x
            | succ n746 ih746 =>
              intro k746 s746 h746_ hk746 hR746_ hI746_ ht746 q_v q_s q_x
              rw [T5_L746] at q_v
              rw [T5_L746_s] at q_s
              rw [T5_L746_x] at q_x
              have hlt746 : k746 < ix (T5_j682 σ ξ one two) := by omega
              refine J_iload_13 X dL_isTold_746 ?_
              refine J_iload_11 X dL_isTold_748 ?_
              refine J_icmp_ge (tgt := 823) X dL_isTold_750 (by decide) (fun c => absurd c (lp_stay (vp_nI' (T5_hr h1 h2) (by decide)) (by have := vp_lt (T5_hr (σ := σ) (ξ := ξ) h1 h2); omega) hk746)) (fun _ => ?_)
              refine J_iload_12 X dL_isTold_753 ?_
              refine J_if_eq (tgt := 823) X dL_isTold_755 (by decide) (fun c755 => ?_) (fun c755 => ?_)
              · skip
                rw [if_pos c755] at q_v
                rw [if_pos c755] at q_s
                rw [if_pos c755] at q_x
                refine J.subL (lv' := [some (.ref r), some (.ref (α 0)), some (.ref (α 1)), some (.ref (α 2)), some (.ref (α 3)), some (.ref (α 7)), some (.int (5 : Int32)), some (.int one), some (.int two), some (.int (T5_j7 σ ξ one two)), some (.int (T5_j32 σ ξ one two)), some (.int (T5_j682 σ ξ one two)), some (.int (T5_j725 σ ξ one two)), none, none]) (And.intro rfl (And.intro rfl (And.intro rfl (And.intro rfl (And.intro rfl (And.intro rfl (And.intro rfl (And.intro rfl (And.intro rfl (And.intro rfl (And.intro rfl (And.intro rfl (And.intro rfl trivial))))))))))))) ?_
                rw [hK746] at q_v
                rw [hK746s] at q_s
                rw [hK746x] at q_x
                exact X746 s746 h746_ trivial hR746_ hI746_ q_v q_s q_x
              · skip
                rw [if_neg c755] at q_v
                rw [if_neg c755] at q_s
                rw [if_neg c755] at q_x
                refine J_iconst (v := 0) X dL_isTold_758 rfl ?_
                refine J_istore_14 X dL_isTold_759 rfl (by decide) ?_
                have hp := vp_lt (T5_300 (σ := σ) (ξ := ξ) (one := one) h2 c755)
                have hle := (cnt (N := 10) (IL_7_3 hI746_) (by decide)).2
                obtain ⟨K761, hK761⟩ : ∃ f : St → Int32, f = (fun s761 => (T5_L746 σ ξ one two K746 n746 (k746 + 1) (sS s761 7 (ix (0 : Int32)) ((s761 7 (ix (0 : Int32))) + (1 : Int32))))) := ⟨_, rfl⟩
                obtain ⟨K761s, hK761s⟩ : ∃ f : St → St, f = (fun s761 => (T5_L746_s σ ξ one two K746s n746 (k746 + 1) (sS s761 7 (ix (0 : Int32)) ((s761 7 (ix (0 : Int32))) + (1 : Int32))))) := ⟨_, rfl⟩
                obtain ⟨K761x, hK761x⟩ : ∃ f : St → St, f = (fun s761 => (T5_L746_x σ ξ one two K746x n746 (k746 + 1) (sS s761 7 (ix (0 : Int32)) ((s761 7 (ix (0 : Int32))) + (1 : Int32))))) := ⟨_, rfl⟩
                have X761 : ∀ (s761 : St) (h761_ : fH) (_ : True), LH (kca K) hx h761_ α s761 → IL s761 → s761 7 = s746 7 → (T5 σ ξ one two) = (T5_L746 σ ξ one two K746 n746 (k746 + 1) (sS s761 7 (ix (0 : Int32)) ((s761 7 (ix (0 : Int32))) + (1 : Int32)))) → (T5_s σ ξ one two) = (T5_L746_s σ ξ one two K746s n746 (k746 + 1) (sS s761 7 (ix (0 : Int32)) ((s761 7 (ix (0 : Int32))) + (1 : Int32)))) → (T5_x σ ξ one two) = (T5_L746_x σ ξ one two K746x n746 (k746 + 1) (sS s761 7 (ix (0 : Int32)) ((s761 7 (ix (0 : Int32))) + (1 : Int32)))) → J K h761_ [some (.ref r), some (.ref (α 0)), some (.ref (α 1)), some (.ref (α 2)), some (.ref (α 3)), some (.ref (α 7)), some (.int (5 : Int32)), some (.int one), some (.int two), some (.int (T5_j7 σ ξ one two)), some (.int (T5_j32 σ ξ one two)), some (.int (T5_j682 σ ξ one two)), some (.int (T5_j725 σ ξ one two)), some (.int (nI k746)), none] [] 809 0 0 := by
                  intro s761 h761_ _ hR761_ hI761_ hg761 q_v q_s q_x
                  refine J_aload_5 X dL_isTold_809 ?_
                  refine J_iconst (v := 0) X dL_isTold_811 rfl ?_
                  refine J_dup2 X dL_isTold_812 rfl rfl ?_
                  refine JL_ld X hR761_.la 7 (by decide) (vp_up (vp_in_nI (n := 0) (N := 1) (by decide) (by decide)) (by decide)) dL_isTold_813 ?_
                  refine J_iconst (v := 1) X dL_isTold_814 rfl ?_
                  refine J_iadd X dL_isTold_815 ?_
                  refine JL_st X hR761_ 7 (by decide) (vp_up (vp_in_nI (n := 0) (N := 1) (by decide) (by decide)) (by decide)) dL_isTold_816 (fun h12 hR12 => ?_)
                  have hI12 : IL (sS s761 7 (ix (0 : Int32)) ((s761 7 (ix (0 : Int32))) + (1 : Int32))) := (IL_sS hI761_ (lOK70 (by rw [hg761, ht746, nI_1]; exact vp_in_nI (by rw [e0]; omega) (by decide))))
                  refine J_iinc_13 (v := (nI (k746 + 1))) X dL_isTold_817 (nI_1 _) rfl (by decide) ?_
                  refine J_goto (tgt := 746) X dL_isTold_820 (by decide) ?_
                  exact ih746 (k746 + 1) (sS s761 7 (ix (0 : Int32)) ((s761 7 (ix (0 : Int32))) + (1 : Int32))) h12 (by omega) hR12 hI12 (by rw [show ix (0 : Int32) = 0 from rfl, sS_same]; have q := ht746; rw [show ix (0 : Int32) = 0 from rfl] at q; rw [hg761, q, nI_1]; rfl) q_v q_s q_x
                have L761 : ∀ (n761 k761 : Nat) (s761 : St) (h761_ : fH), k761 + n761 = ix (s746 7 (ix (3 : Int32))) → LH (kca K) hx h761_ α s761 → IL s761 → s761 7 = s746 7 → (T5 σ ξ one two) = (T5_L761 σ ξ one two k746 s746 K761 n761 k761 s761) → (T5_s σ ξ one two) = (T5_L761_s σ ξ one two k746 s746 K761s n761 k761 s761) → (T5_x σ ξ one two) = (T5_L761_x σ ξ one two k746 s746 K761x n761 k761 s761) → J K h761_ [some (.ref r), some (.ref (α 0)), some (.ref (α 1)), some (.ref (α 2)), some (.ref (α 3)), some (.ref (α 7)), some (.int (5 : Int32)), some (.int one), some (.int two), some (.int (T5_j7 σ ξ one two)), some (.int (T5_j32 σ ξ one two)), some (.int (T5_j682 σ ξ one two)), some (.int (T5_j725 σ ξ one two)), some (.int (nI k746)), some (.int (nI k761))] [] 761 0 0 := by
                  intro n761
                  induction n761 with
                  | zero =>
                    intro k761 s761 h761_ hk761 hR761_ hI761_ hg761 q_v q_s q_x
                    rw [T5_L761] at q_v
                    rw [T5_L761_s] at q_s
                    rw [T5_L761_x] at q_x
                    refine J_iload_14 X dL_isTold_761 ?_
                    refine J_aload_5 X dL_isTold_763 ?_
                    refine J_iconst (v := 3) X dL_isTold_765 rfl ?_
                    refine JL_ld X hR761_.la 7 (by decide) (vp_up (vp_in_nI (n := 3) (N := 4) (by decide) (by decide)) (by decide)) dL_isTold_766 ?_
                    refine J_icmp_ge (tgt := 809) X dL_isTold_767 (by decide) (fun _ => ?_) (fun c => absurd (lp_exit ((congrFun hg761 _).trans (cnt (N := 10) (IL_7_3 hI746_) (by decide)).1) (by omega) hk761) c)
                    rw [hK761] at q_v
                    rw [hK761s] at q_s
                    rw [hK761x] at q_x
                    refine J.subL (lv' := [some (.ref r), some (.ref (α 0)), some (.ref (α 1)), some (.ref (α 2)), some (.ref (α 3)), some (.ref (α 7)), some (.int (5 : Int32)), some (.int one), some (.int two), some (.int (T5_j7 σ ξ one two)), some (.int (T5_j32 σ ξ one two)), some (.int (T5_j682 σ ξ one two)), some (.int (T5_j725 σ ξ one two)), some (.int (nI k746)), none]) (And.intro rfl (And.intro rfl (And.intro rfl (And.intro rfl (And.intro rfl (And.intro rfl (And.intro rfl (And.intro rfl (And.intro rfl (And.intro rfl (And.intro rfl (And.intro rfl (And.intro rfl (And.intro rfl trivial)))))))))))))) ?_
                    exact X761 s761 h761_ trivial hR761_ hI761_ hg761 q_v q_s q_x
                  | succ n761 ih761 =>
                    intro k761 s761 h761_ hk761 hR761_ hI761_ hg761 q_v q_s q_x
                    rw [T5_L761] at q_v
                    rw [T5_L761_s] at q_s
                    rw [T5_L761_x] at q_x
                    have hlt761 : k761 < ix (s746 7 (ix (3 : Int32))) := by omega
                    refine J_iload_14 X dL_isTold_761 ?_
                    refine J_aload_5 X dL_isTold_763 ?_
                    refine J_iconst (v := 3) X dL_isTold_765 rfl ?_
                    refine JL_ld X hR761_.la 7 (by decide) (vp_up (vp_in_nI (n := 3) (N := 4) (by decide) (by decide)) (by decide)) dL_isTold_766 ?_
                    refine J_icmp_ge (tgt := 809) X dL_isTold_767 (by decide) (fun c => absurd c (lp_stay ((congrFun hg761 _).trans (cnt (N := 10) (IL_7_3 hI746_) (by decide)).1) (by omega) hk761)) (fun _ => ?_)
                    refine J_aload_4 X dL_isTold_770 ?_
                    refine J_bipush (v := (6 : Int32)) X dL_isTold_772 (by decide) ?_
                    refine J_iload_14 X dL_isTold_774 ?_
                    refine J_imul X dL_isTold_776 ?_
                    refine J_iconst (v := 4) X dL_isTold_777 rfl ?_
                    refine J_iadd X dL_isTold_778 ?_
                    refine J_dup2 X dL_isTold_779 rfl rfl ?_
                    refine JL_ld X hR761_.la 3 (by decide) (vp_up (vr_add (vr_mul (vp_in_nI (n := 6) (N := 7) (by decide) (by decide)) (vp_in_nI (n := k761) (N := 10) (by omega) (by decide)) (by decide)) (vp_in_nI (n := 4) (N := 5) (by decide) (by decide)) (by decide)) (by decide)) dL_isTold_780 ?_
                    refine J_aload_1 X dL_isTold_781 ?_
                    refine J_aload_2 X dL_isTold_782 ?_
                    refine J_aload_3 X dL_isTold_783 ?_
                    refine J_aload_4 X dL_isTold_784 ?_
                    refine J_aload_5 X dL_isTold_786 ?_
                    refine J_iload_14 X dL_isTold_788 ?_
                    refine J_callS X (c_L_burns hR761_.la hI761_ (nI k761) (vp_up (vp_in_nI (n := k761) (N := 10) (by omega) (by decide)) (by decide))) (And.intro gw_4_86 cw_L_burns) rfl rfl (Nat.le_of_ble_eq_true rfl) dL_isTold_790 rfl (J.pi ?_) JE.no
                    have K793_801 : ∀ (v793_0 : Int32), v793_0 = (T5_j793 σ ξ one two k746 s746 k761 s761) → J K h761_ [some (.ref r), some (.ref (α 0)), some (.ref (α 1)), some (.ref (α 2)), some (.ref (α 3)), some (.ref (α 7)), some (.int (5 : Int32)), some (.int one), some (.int two), some (.int (T5_j7 σ ξ one two)), some (.int (T5_j32 σ ξ one two)), some (.int (T5_j682 σ ξ one two)), some (.int (T5_j725 σ ξ one two)), some (.int (nI k746)), some (.int (nI k761))] [.int v793_0, .int (s761 3 (ix (((6 : Int32) * (nI k761)) + (4 : Int32)))), .int (((6 : Int32) * (nI k761)) + (4 : Int32)), .ref (α 3)] 801 0 0 := by
                      intro v793_0 ev793_0
                      try rw [ev793_0]
                      clear ev793_0
                      refine J_iadd X dL_isTold_801 ?_
                      refine JL_st X hR761_ 3 (by decide) (vp_up (vr_add (vr_mul (vp_in_nI (n := 6) (N := 7) (by decide) (by decide)) (vp_in_nI (n := k761) (N := 10) (by omega) (by decide)) (by decide)) (vp_in_nI (n := 4) (N := 5) (by decide) (by decide)) (by decide)) (by decide)) dL_isTold_802 (fun h13 hR13 => ?_)
                      have hI13 : IL (sS s761 3 (ix (((6 : Int32) * (nI k761)) + (4 : Int32))) ((s761 3 (ix (((6 : Int32) * (nI k761)) + (4 : Int32)))) + (T5_j793 σ ξ one two k746 s746 k761 s761))) := (IL_sS hI761_ (lOK3v (vp_in_nI (n := k761) (N := 10) (by omega) (by decide)) _))
                      refine J_iinc_14 (v := (nI (k761 + 1))) X dL_isTold_803 (nI_1 _) rfl (by decide) ?_
                      refine J_goto (tgt := 761) X dL_isTold_806 (by decide) ?_
                      exact ih761 (k761 + 1) (sS s761 3 (ix (((6 : Int32) * (nI k761)) + (4 : Int32))) ((s761 3 (ix (((6 : Int32) * (nI k761)) + (4 : Int32)))) + (T5_j793 σ ξ one two k746 s746 k761 s761))) h13 (by omega) hR13 hI13 (by rw [sS_col (by decide)]; exact hg761) q_v q_s q_x
                    have j793_0 : T5_j793 σ ξ one two k746 s746 k761 s761 = (if (L_burns s761 (nI k761)) = (0 : Int32) then (0 : Int32) else (1 : Int32)) := rfl
                    refine J_if_eq (tgt := 800) X dL_isTold_793 (by decide) (fun c793 => ?_) (fun c793 => ?_)
                    · skip
                      rw [if_pos c793] at j793_0
                      refine J_iconst (v := 0) X dL_isTold_800 rfl ?_
                      exact K793_801 _ j793_0.symm
                    · skip
                      rw [if_neg c793] at j793_0
                      refine J_iconst (v := 1) X dL_isTold_796 rfl ?_
                      refine J_goto (tgt := 801) X dL_isTold_797 (by decide) ?_
                      exact K793_801 _ j793_0.symm
                have q_v : (T5 σ ξ one two) = (T5_L761 σ ξ one two k746 s746 K761 (ix (s746 7 (ix (3 : Int32)))) 0 s746) := by rw [hK761]; exact q_v
                have q_s : (T5_s σ ξ one two) = (T5_L761_s σ ξ one two k746 s746 K761s (ix (s746 7 (ix (3 : Int32)))) 0 s746) := by rw [hK761s]; exact q_s
                have q_x : (T5_x σ ξ one two) = (T5_L761_x σ ξ one two k746 s746 K761x (ix (s746 7 (ix (3 : Int32)))) 0 s746) := by rw [hK761x]; exact q_x
                exact L761 (ix (s746 7 (ix (3 : Int32)))) 0 s746 h746_ (Nat.zero_add _) hR746_ hI746_ rfl q_v q_s q_x
          have q_v : (T5 σ ξ one two) = (T5_L746 σ ξ one two K746 (ix (T5_j682 σ ξ one two)) 0 σ) := by rw [hK746]; exact q_v
          have q_s : (T5_s σ ξ one two) = (T5_L746_s σ ξ one two K746s (ix (T5_j682 σ ξ one two)) 0 σ) := by rw [hK746s]; exact q_s
          have q_x : (T5_x σ ξ one two) = (T5_L746_x σ ξ one two K746x (ix (T5_j682 σ ξ one two)) 0 σ) := by rw [hK746x]; exact q_x
          exact L746 (ix (T5_j682 σ ξ one two)) 0 σ h (Nat.zero_add _) hL hI l0 q_v q_s q_x
        have j725_0 : T5_j725 σ ξ one two = (if (T5_j682 σ ξ one two) ≤ (0 : Int32) then (0 : Int32) else (if (501 : Int32) ≤ (T5_j682 σ ξ one two) then (0 : Int32) else (1 : Int32))) := rfl
        refine J_if_le (tgt := 740) X dL_isTold_725 (by decide) (fun c725 => ?_) (fun c725 => ?_)
        · skip
          rw [if_pos c725] at j725_0
          refine J_iconst (v := 0) X dL_isTold_740 rfl ?_
          exact K725_741 _ j725_0.symm
        · skip
          rw [if_neg c725] at j725_0
          refine J_iload_11 X dL_isTold_728 ?_
          refine J_sipush (v := (501 : Int32)) X dL_isTold_730 (by decide) ?_
          refine J_icmp_ge (tgt := 740) X dL_isTold_733 (by decide) (fun c733 => ?_) (fun c733 => ?_)
          · skip
            rw [if_pos c733] at j725_0
            refine J_iconst (v := 0) X dL_isTold_740 rfl ?_
            exact K725_741 _ j725_0.symm
          · skip
            rw [if_neg c733] at j725_0
            refine J_iconst (v := 1) X dL_isTold_736 rfl ?_
            refine J_goto (tgt := 741) X dL_isTold_737 (by decide) ?_
            exact K725_741 _ j725_0.symm
      have j682_0 : T5_j682 σ ξ one two = (if (one - one / (11 : Int32) * (11 : Int32)) = (0 : Int32) then ((two - two / (2 : Int32) * (2 : Int32)) * (501 : Int32)) else (if (one - one / (4 : Int32) * (4 : Int32)) = (0 : Int32) then ((1 : Int32) + (two - two / (300 : Int32) * (300 : Int32))) else ((1 : Int32) + (two - two / (14 : Int32) * (14 : Int32))))) := rfl
      refine J_if_ne (tgt := 696) X dL_isTold_682 (by decide) (fun c682 => ?_) (fun c682 => ?_)
      · skip
        rw [if_neg c682] at j682_0
        refine J_iload_7 X dL_isTold_696 ?_
        refine J_iconst (v := 4) X dL_isTold_698 rfl ?_
        refine J_irem X dL_isTold_699 (by decide) ?_
        refine J_if_ne (tgt := 714) X dL_isTold_700 (by decide) (fun c700 => ?_) (fun c700 => ?_)
        · skip
          rw [if_neg c700] at j682_0
          refine J_iconst (v := 1) X dL_isTold_714 rfl ?_
          refine J_iload_8 X dL_isTold_715 ?_
          refine J_bipush (v := (14 : Int32)) X dL_isTold_717 (by decide) ?_
          refine J_irem X dL_isTold_719 (by decide) ?_
          refine J_iadd X dL_isTold_720 ?_
          exact K682_721 _ j682_0.symm
        · skip
          rw [if_pos c700] at j682_0
          refine J_iconst (v := 1) X dL_isTold_703 rfl ?_
          refine J_iload_8 X dL_isTold_704 ?_
          refine J_sipush (v := (300 : Int32)) X dL_isTold_706 (by decide) ?_
          refine J_irem X dL_isTold_709 (by decide) ?_
          refine J_iadd X dL_isTold_710 ?_
          refine J_goto (tgt := 721) X dL_isTold_711 (by decide) ?_
          exact K682_721 _ j682_0.symm
      · skip
        rw [if_pos c682] at j682_0
        refine J_iload_8 X dL_isTold_685 ?_
        refine J_iconst (v := 2) X dL_isTold_687 rfl ?_
        refine J_irem X dL_isTold_688 (by decide) ?_
        refine J_sipush (v := (501 : Int32)) X dL_isTold_689 (by decide) ?_
        refine J_imul X dL_isTold_692 ?_
        refine J_goto (tgt := 721) X dL_isTold_693 (by decide) ?_
        exact K682_721 _ j682_0.symm
    have j32_0 : T5_j32 σ ξ one two = (if (two - two / (13 : Int32) * (13 : Int32)) = (12 : Int32) then (4 : Int32) else (two - two / (2 : Int32) * (2 : Int32))) := rfl
    refine J_icmp_ne (tgt := 39) X dL_isTold_32 (by decide) (fun c32 => ?_) (fun c32 => ?_)
    · skip
      rw [if_neg c32] at j32_0
      refine J_iload_8 X dL_isTold_39 ?_
      refine J_iconst (v := 2) X dL_isTold_41 rfl ?_
      refine J_irem X dL_isTold_42 (by decide) ?_
      exact K32_43 _ j32_0.symm
    · skip
      rw [if_pos c32] at j32_0
      refine J_iconst (v := 4) X dL_isTold_35 rfl ?_
      refine J_goto (tgt := 43) X dL_isTold_36 (by decide) ?_
      exact K32_43 _ j32_0.symm
  have j7_0 : T5_j7 σ ξ one two = (if (one - one / (17 : Int32) * (17 : Int32)) = (16 : Int32) then (64 : Int32) else ((16 : Int32) + (one - one / (24 : Int32) * (24 : Int32)))) := rfl
  refine J_icmp_ne (tgt := 15) X dL_isTold_7 (by decide) (fun c7 => ?_) (fun c7 => ?_)
  · skip
    rw [if_neg c7] at j7_0
    refine J_bipush (v := (16 : Int32)) X dL_isTold_15 (by decide) ?_
    refine J_iload_7 X dL_isTold_17 ?_
    refine J_bipush (v := (24 : Int32)) X dL_isTold_19 (by decide) ?_
    refine J_irem X dL_isTold_21 (by decide) ?_
    refine J_iadd X dL_isTold_22 ?_
    exact K7_23 _ j7_0.symm
  · skip
    rw [if_pos c7] at j7_0
    refine J_bipush (v := (64 : Int32)) X dL_isTold_10 (by decide) ?_
    refine J_goto (tgt := 23) X dL_isTold_12 (by decide) ?_
    exact K7_23 _ j7_0.symm
def T6_j7 (σ : St) (ξ : St) (one : Int32) (two : Int32) : Int32 := (if (one - one / (17 : Int32) * (17 : Int32)) = (16 : Int32) then (64 : Int32) else ((16 : Int32) + (one - one / (24 : Int32) * (24 : Int32))))
def T6_j32 (σ : St) (ξ : St) (one : Int32) (two : Int32) : Int32 := (if (two - two / (13 : Int32) * (13 : Int32)) = (12 : Int32) then (4 : Int32) else (two - two / (2 : Int32) * (2 : Int32)))
def T6_j872 (σ : St) (ξ : St) (one : Int32) (two : Int32) : Int32 := (if (one - one / (9 : Int32) * (9 : Int32)) = (0 : Int32) then (((one / (9 : Int32)) - (one / (9 : Int32)) / (2 : Int32) * (2 : Int32)) * (501 : Int32)) else ((1 : Int32) + (one - one / (30 : Int32) * (30 : Int32))))
def T6_j905 (σ : St) (ξ : St) (one : Int32) (two : Int32) : Int32 := (if (two - two / (13 : Int32) * (13 : Int32)) = (12 : Int32) then (10001 : Int32) else (two - two / (80 : Int32) * (80 : Int32)))
def T6_j923 (σ : St) (ξ : St) (one : Int32) (two : Int32) : Int32 := (if (T6_j872 σ ξ one two) ≤ (0 : Int32) then (0 : Int32) else (if (501 : Int32) ≤ (T6_j872 σ ξ one two) then (0 : Int32) else (if (10001 : Int32) ≤ (T6_j905 σ ξ one two) then (0 : Int32) else (1 : Int32))))
theorem T6_j923_b (σ : St) (ξ : St) (one : Int32) (two : Int32) : T6_j923 σ ξ one two = 0 ∨ T6_j923 σ ξ one two = 1 := by
  unfold T6_j923
  (repeat' split) <;> first | exact Or.inl (by with_reducible rfl) | exact Or.inr (by with_reducible rfl)
def T6_j951_s (σ : St) (ξ : St) (one : Int32) (two : Int32) : St := (if (T6_j923 σ ξ one two) = (0 : Int32) then σ else (sS (sS (sS σ 2 (ix ((4 : Int32) * (σ 7 (ix (2 : Int32))))) (T6_j872 σ ξ one two)) 2 (ix (((4 : Int32) * (σ 7 (ix (2 : Int32)))) + (1 : Int32))) (T6_j905 σ ξ one two)) 7 (ix (2 : Int32)) ((σ 7 (ix (2 : Int32))) + (1 : Int32))))
def T6_j998 (σ : St) (ξ : St) (one : Int32) (two : Int32) : Int32 := (if (T6_j923 σ ξ one two) = (0 : Int32) then (-2000000 : Int32) else (((T6_j951_s σ ξ one two) 7 (ix (2 : Int32))) - (1 : Int32)))
def T6_j1012 (σ : St) (ξ : St) (one : Int32) (two : Int32) : Int32 := (if (DV_5 ξ (T6_j872 σ ξ one two) (T6_j905 σ ξ one two)) = (T6_j998 σ ξ one two) then (1 : Int32) else (0 : Int32))
theorem T6_j1012_b (σ : St) (ξ : St) (one : Int32) (two : Int32) : T6_j1012 σ ξ one two = 0 ∨ T6_j1012 σ ξ one two = 1 := by
  unfold T6_j1012
  (repeat' split) <;> first | exact Or.inl (by with_reducible rfl) | exact Or.inr (by with_reducible rfl)
def T6 (σ : St) (ξ : St) (one : Int32) (two : Int32) : Int32 := (if (σ 7 (ix (2 : Int32))) = (2 : Int32) then (1 : Int32) else (T6_j1012 σ ξ one two))
def T6_s (σ : St) (ξ : St) (one : Int32) (two : Int32) : St := (if (σ 7 (ix (2 : Int32))) = (2 : Int32) then σ else (T6_j951_s σ ξ one two))
def T6_x (σ : St) (ξ : St) (one : Int32) (two : Int32) : St := (if (σ 7 (ix (2 : Int32))) = (2 : Int32) then ξ else (M_village_s ξ (T6_j872 σ ξ one two) (T6_j905 σ ξ one two)))
theorem T6_b (σ : St) (ξ : St) (one : Int32) (two : Int32) : (T6 σ ξ one two) = 0 ∨ (T6 σ ξ one two) = 1 := by
  unfold T6
  (repeat' split) <;> first | exact Or.inl (by with_reducible rfl) | exact Or.inr (by with_reducible rfl) | exact T6_j1012_b ..
theorem T6_pl {σ ξ : St} {one two : Int32} (h1 : vp_in one 60000) : vp_in (T6_j7 σ ξ one two) 65 := by
  unfold T6_j7
  split
  · exact vp_in_nI (n := 64) (by decide) (by decide)
  · exact vp_up (vr_add (vp_in_nI (n := 16) (N := 17) (by decide) (by decide)) (vr_rem (c := 24) h1 (by decide) (by decide) (by decide)) (by decide)) (by decide)
theorem T6_zn {σ ξ : St} {one two : Int32} (h2 : vp_in two 60000) : vp_in (T6_j32 σ ξ one two) 5 := by
  unfold T6_j32
  split
  · exact vp_in_nI (n := 4) (by decide) (by decide)
  · exact vp_up (vr_rem (c := 2) h2 (by decide) (by decide) (by decide)) (by decide)
set_option maxRecDepth 100000 in
set_option maxHeartbeats 4000000 in
theorem c_T6 {l : Launch} {D : va_G} {ca : Nat → Nat} {h hx : fH} {r : Nat} {α : Nat → Nat} {σ ξ : St} (hL : LH ca hx h α σ) (hX : RA ca hx r ξ) (hIX : InvX ξ) (hIO : InvO ξ) (hQ : LQ ξ σ) (one : Int32) (two : Int32) (h1 : vp_in one 60000) (h2 : vp_in two 60000) : FM l D ca yL_isTold (.code yL_isTold cL_isTold 15 (some .boolean)) { frames := 9, cells := 5, slots := 123, locals := 340 } [.ref r, .ref (α 0), .ref (α 1), .ref (α 2), .ref (α 3), .ref (α 7), .int (6 : Int32), .int one, .int two] h (fun v h2 => v = some (.int (T6 σ ξ one two)) ∧ ∃ hx2, LH ca hx2 h2 α (T6_s σ ξ one two) ∧ RA ca hx2 r (T6_x σ ξ one two)) noX := by
  refine FM.of [some (.ref r), some (.ref (α 0)), some (.ref (α 1)), some (.ref (α 2)), some (.ref (α 3)), some (.ref (α 7)), some (.int (6 : Int32)), some (.int one), some (.int two), none, none, none, none, none, none] (by decide) (Nat.le_of_ble_eq_true rfl) rfl ?_
  rintro K X rfl rfl rfl
  have hI := IL_of hQ hIX
  have q_v : (T6 σ ξ one two) = (if (σ 7 (ix (2 : Int32))) = (2 : Int32) then (1 : Int32) else (T6_j1012 σ ξ one two)) := rfl
  have q_s : (T6_s σ ξ one two) = (if (σ 7 (ix (2 : Int32))) = (2 : Int32) then σ else (T6_j951_s σ ξ one two)) := rfl
  have q_x : (T6_x σ ξ one two) = (if (σ 7 (ix (2 : Int32))) = (2 : Int32) then ξ else (M_village_s ξ (T6_j872 σ ξ one two) (T6_j905 σ ξ one two))) := rfl
  refine J_iload_7 X dL_isTold_0 ?_
  refine J_bipush (v := (17 : Int32)) X dL_isTold_2 (by decide) ?_
  refine J_irem X dL_isTold_4 (by decide) ?_
  refine J_bipush (v := (16 : Int32)) X dL_isTold_5 (by decide) ?_
  have K7_23 : ∀ (v7_0 : Int32), v7_0 = (T6_j7 σ ξ one two) → J K h [some (.ref r), some (.ref (α 0)), some (.ref (α 1)), some (.ref (α 2)), some (.ref (α 3)), some (.ref (α 7)), some (.int (6 : Int32)), some (.int one), some (.int two), none, none, none, none, none, none] [.int v7_0] 23 0 0 := by
    intro v7_0 ev7_0
    try rw [ev7_0]
    clear ev7_0
    refine J_istore_9 X dL_isTold_23 rfl (by decide) ?_
    refine J_iload_8 X dL_isTold_25 ?_
    refine J_bipush (v := (13 : Int32)) X dL_isTold_27 (by decide) ?_
    refine J_irem X dL_isTold_29 (by decide) ?_
    refine J_bipush (v := (12 : Int32)) X dL_isTold_30 (by decide) ?_
    have K32_43 : ∀ (v32_0 : Int32), v32_0 = (T6_j32 σ ξ one two) → J K h [some (.ref r), some (.ref (α 0)), some (.ref (α 1)), some (.ref (α 2)), some (.ref (α 3)), some (.ref (α 7)), some (.int (6 : Int32)), some (.int one), some (.int two), some (.int (T6_j7 σ ξ one two)), none, none, none, none, none] [.int v32_0] 43 0 0 := by
      intro v32_0 ev32_0
      try rw [ev32_0]
      clear ev32_0
      refine J_istore_10 X dL_isTold_43 rfl (by decide) ?_
      refine J_iload_6 X dL_isTold_45 ?_
      refine J_if_ne (tgt := 142) X dL_isTold_47 (by decide) (fun _ => ?_) (fun c => absurd c (by decide))
      refine J_iload_6 X dL_isTold_142 ?_
      refine J_iconst (v := 1) X dL_isTold_144 rfl ?_
      refine J_icmp_ne (tgt := 248) X dL_isTold_145 (by decide) (fun _ => ?_) (fun c => absurd c (by decide))
      refine J_iload_6 X dL_isTold_248 ?_
      refine J_iconst (v := 2) X dL_isTold_250 rfl ?_
      refine J_icmp_ne (tgt := 433) X dL_isTold_251 (by decide) (fun _ => ?_) (fun c => absurd c (by decide))
      refine J_iload_6 X dL_isTold_433 ?_
      refine J_iconst (v := 3) X dL_isTold_435 rfl ?_
      refine J_icmp_ne (tgt := 603) X dL_isTold_436 (by decide) (fun _ => ?_) (fun c => absurd c (by decide))
      refine J_iload_6 X dL_isTold_603 ?_
      refine J_iconst (v := 4) X dL_isTold_605 rfl ?_
      refine J_icmp_ne (tgt := 671) X dL_isTold_606 (by decide) (fun _ => ?_) (fun c => absurd c (by decide))
      refine J_iload_6 X dL_isTold_671 ?_
      refine J_iconst (v := 5) X dL_isTold_673 rfl ?_
      refine J_icmp_ne (tgt := 857) X dL_isTold_674 (by decide) (fun _ => ?_) (fun c => absurd c (by decide))
      refine J_aload_5 X dL_isTold_857 ?_
      refine J_iconst (v := 2) X dL_isTold_859 rfl ?_
      refine JL_ld X hL.la 7 (by decide) (vp_up (vp_in_nI (n := 2) (N := 3) (by decide) (by decide)) (by decide)) dL_isTold_860 ?_
      refine J_iconst (v := 2) X dL_isTold_861 rfl ?_
      refine J_icmp_ne (tgt := 867) X dL_isTold_862 (by decide) (fun c862 => ?_) (fun c862 => ?_)
      · skip
        rw [if_neg c862] at q_v
        rw [if_neg c862] at q_s
        rw [if_neg c862] at q_x
        refine J_iload_7 X dL_isTold_867 ?_
        refine J_bipush (v := (9 : Int32)) X dL_isTold_869 (by decide) ?_
        refine J_irem X dL_isTold_871 (by decide) ?_
        have K872_896 : ∀ (v872_0 : Int32), v872_0 = (T6_j872 σ ξ one two) → J K h [some (.ref r), some (.ref (α 0)), some (.ref (α 1)), some (.ref (α 2)), some (.ref (α 3)), some (.ref (α 7)), some (.int (6 : Int32)), some (.int one), some (.int two), some (.int (T6_j7 σ ξ one two)), some (.int (T6_j32 σ ξ one two)), none, none, none, none] [.int v872_0] 896 0 0 := by
          intro v872_0 ev872_0
          try rw [ev872_0]
          clear ev872_0
          refine J_istore_11 X dL_isTold_896 rfl (by decide) ?_
          refine J_iload_8 X dL_isTold_898 ?_
          refine J_bipush (v := (13 : Int32)) X dL_isTold_900 (by decide) ?_
          refine J_irem X dL_isTold_902 (by decide) ?_
          refine J_bipush (v := (12 : Int32)) X dL_isTold_903 (by decide) ?_
          have K905_919 : ∀ (v905_0 : Int32), v905_0 = (T6_j905 σ ξ one two) → J K h [some (.ref r), some (.ref (α 0)), some (.ref (α 1)), some (.ref (α 2)), some (.ref (α 3)), some (.ref (α 7)), some (.int (6 : Int32)), some (.int one), some (.int two), some (.int (T6_j7 σ ξ one two)), some (.int (T6_j32 σ ξ one two)), some (.int (T6_j872 σ ξ one two)), none, none, none] [.int v905_0] 919 0 0 := by
            intro v905_0 ev905_0
            try rw [ev905_0]
            clear ev905_0
            refine J_istore_12 X dL_isTold_919 rfl (by decide) ?_
            refine J_iload_11 X dL_isTold_921 ?_
            have K923_947 : ∀ (v923_0 : Int32), v923_0 = (T6_j923 σ ξ one two) → J K h [some (.ref r), some (.ref (α 0)), some (.ref (α 1)), some (.ref (α 2)), some (.ref (α 3)), some (.ref (α 7)), some (.int (6 : Int32)), some (.int one), some (.int two), some (.int (T6_j7 σ ξ one two)), some (.int (T6_j32 σ ξ one two)), some (.int (T6_j872 σ ξ one two)), some (.int (T6_j905 σ ξ one two)), none, none] [.int v923_0] 947 0 0 := by
              intro v923_0 ev923_0
              try rw [ev923_0]
              clear ev923_0
              refine J_istore_13 X dL_isTold_947 rfl (by decide) ?_
              refine J_iload_13 X dL_isTold_949 ?_
              have K951_984 : ∀ hj11 : fH, LH (kca K) hx hj11 α (T6_j951_s σ ξ one two) → J K hj11 [some (.ref r), some (.ref (α 0)), some (.ref (α 1)), some (.ref (α 2)), some (.ref (α 3)), some (.ref (α 7)), some (.int (6 : Int32)), some (.int one), some (.int two), some (.int (T6_j7 σ ξ one two)), some (.int (T6_j32 σ ξ one two)), some (.int (T6_j872 σ ξ one two)), some (.int (T6_j905 σ ξ one two)), some (.int (T6_j923 σ ξ one two)), none] [] 984 0 0 := by
                intro hj11 hRj11
                refine J_aload_0 X dL_isTold_984 ?_
                refine J_iconst (v := 5) X dL_isTold_985 rfl ?_
                refine J_iload_11 X dL_isTold_986 ?_
                refine J_iload_12 X dL_isTold_988 ?_
                refine J_iconst (v := 0) X dL_isTold_990 rfl ?_
                refine J_iconst (v := 0) X dL_isTold_991 rfl ?_
                refine J_iconst (v := 0) X dL_isTold_992 rfl ?_
                obtain ⟨la, eh, hap, hLA, hα⟩ := hRj11
                subst eh
                refine J_callSW X ((c_D_5 hX hIX hIO (T6_j872 σ ξ one two) (T6_j905 σ ξ one two) (0 : Int32) (0 : Int32) (0 : Int32)).frame hap) (And.intro gw_2_177 cw_L_does) rfl rfl (Nat.le_of_ble_eq_true rfl) dL_isTold_993 rfl (fun v h12 e => ?_) (fun E h12 e => by obtain ⟨_, q, _⟩ := e; exact q.elim)
                obtain ⟨hx12, ⟨e0, hX12⟩, hap12, eh⟩ := e
                subst e0
                subst eh
                have hR12 : LH (kca K) hx12 (un hx12 la) α (T6_j951_s σ ξ one two) := ⟨la, rfl, hap12, hLA, hα⟩
                show J K (un hx12 la) [some (.ref r), some (.ref (α 0)), some (.ref (α 1)), some (.ref (α 2)), some (.ref (α 3)), some (.ref (α 7)), some (.int (6 : Int32)), some (.int one), some (.int two), some (.int (T6_j7 σ ξ one two)), some (.int (T6_j32 σ ξ one two)), some (.int (T6_j872 σ ξ one two)), some (.int (T6_j905 σ ξ one two)), some (.int (T6_j923 σ ξ one two)), none] [.int (DV_5 ξ (T6_j872 σ ξ one two) (T6_j905 σ ξ one two))] 996 5 123
                refine J_iload_13 X dL_isTold_996 ?_
                have K998_1012 : ∀ (v998_0 : Int32), v998_0 = (T6_j998 σ ξ one two) → J K (un hx12 la) [some (.ref r), some (.ref (α 0)), some (.ref (α 1)), some (.ref (α 2)), some (.ref (α 3)), some (.ref (α 7)), some (.int (6 : Int32)), some (.int one), some (.int two), some (.int (T6_j7 σ ξ one two)), some (.int (T6_j32 σ ξ one two)), some (.int (T6_j872 σ ξ one two)), some (.int (T6_j905 σ ξ one two)), some (.int (T6_j923 σ ξ one two)), none] [.int v998_0, .int (DV_5 ξ (T6_j872 σ ξ one two) (T6_j905 σ ξ one two))] 1012 5 123 := by
                  intro v998_0 ev998_0
                  try rw [ev998_0]
                  clear ev998_0
                  have K1012_1020 : ∀ (v1012_0 : Int32), v1012_0 = (T6_j1012 σ ξ one two) → J K (un hx12 la) [some (.ref r), some (.ref (α 0)), some (.ref (α 1)), some (.ref (α 2)), some (.ref (α 3)), some (.ref (α 7)), some (.int (6 : Int32)), some (.int one), some (.int two), some (.int (T6_j7 σ ξ one two)), some (.int (T6_j32 σ ξ one two)), some (.int (T6_j872 σ ξ one two)), some (.int (T6_j905 σ ξ one two)), some (.int (T6_j923 σ ξ one two)), none] [.int v1012_0] 1020 5 123 := by
                    intro v1012_0 ev1012_0
                    try rw [ev1012_0]
                    clear ev1012_0
                    exact J_zret X rfl (T6_j1012_b ..) rfl ⟨by rw [q_v], hx12, by rw [q_s]; exact hR12, by rw [q_x]; exact hX12⟩ dL_isTold_1020
                  have j1012_0 : T6_j1012 σ ξ one two = (if (DV_5 ξ (T6_j872 σ ξ one two) (T6_j905 σ ξ one two)) = (T6_j998 σ ξ one two) then (1 : Int32) else (0 : Int32)) := rfl
                  refine J_icmp_ne (tgt := 1019) X dL_isTold_1012 (by decide) (fun c1012 => ?_) (fun c1012 => ?_)
                  · skip
                    rw [if_neg c1012] at j1012_0
                    refine J_iconst (v := 0) X dL_isTold_1019 rfl ?_
                    exact K1012_1020 _ j1012_0.symm
                  · skip
                    rw [if_pos c1012] at j1012_0
                    refine J_iconst (v := 1) X dL_isTold_1015 rfl ?_
                    refine J_goto (tgt := 1020) X dL_isTold_1016 (by decide) ?_
                    exact K1012_1020 _ j1012_0.symm
                have j998_0 : T6_j998 σ ξ one two = (if (T6_j923 σ ξ one two) = (0 : Int32) then (-2000000 : Int32) else (((T6_j951_s σ ξ one two) 7 (ix (2 : Int32))) - (1 : Int32))) := rfl
                refine J_if_eq (tgt := 1010) X dL_isTold_998 (by decide) (fun c998 => ?_) (fun c998 => ?_)
                · skip
                  rw [if_pos c998] at j998_0
                  refine J_ldc (v := (-2000000 : Int32)) X dL_isTold_1010 gw_4_73 ?_
                  exact K998_1012 _ j998_0.symm
                · skip
                  rw [if_neg c998] at j998_0
                  refine J_aload_5 X dL_isTold_1001 ?_
                  refine J_iconst (v := 2) X dL_isTold_1003 rfl ?_
                  refine JL_ld X hR12.la 7 (by decide) (vp_up (vp_in_nI (n := 2) (N := 3) (by decide) (by decide)) (by decide)) dL_isTold_1004 ?_
                  refine J_iconst (v := 1) X dL_isTold_1005 rfl ?_
                  refine J_isub X dL_isTold_1006 ?_
                  refine J_goto (tgt := 1012) X dL_isTold_1007 (by decide) ?_
                  exact K998_1012 _ j998_0.symm
              have j951_0 : T6_j951_s σ ξ one two = (if (T6_j923 σ ξ one two) = (0 : Int32) then σ else (sS (sS (sS σ 2 (ix ((4 : Int32) * (σ 7 (ix (2 : Int32))))) (T6_j872 σ ξ one two)) 2 (ix (((4 : Int32) * (σ 7 (ix (2 : Int32)))) + (1 : Int32))) (T6_j905 σ ξ one two)) 7 (ix (2 : Int32)) ((σ 7 (ix (2 : Int32))) + (1 : Int32)))) := rfl
              refine J_if_eq (tgt := 984) X dL_isTold_951 (by decide) (fun c951 => ?_) (fun c951 => ?_)
              · skip
                rw [if_pos c951] at j951_0
                exact K951_984 _ (by rw [j951_0]; exact hL)
              · skip
                rw [if_neg c951] at j951_0
                refine J_aload_3 X dL_isTold_954 ?_
                refine J_iconst (v := 4) X dL_isTold_955 rfl ?_
                refine J_aload_5 X dL_isTold_956 ?_
                refine J_iconst (v := 2) X dL_isTold_958 rfl ?_
                refine JL_ld X hL.la 7 (by decide) (vp_up (vp_in_nI (n := 2) (N := 3) (by decide) (by decide)) (by decide)) dL_isTold_959 ?_
                refine J_imul X dL_isTold_960 ?_
                refine J_iload_11 X dL_isTold_961 ?_
                refine JL_st X hL 2 (by decide) (vp_up (vr_mul (vp_in_nI (n := 4) (N := 5) (by decide) (by decide)) (ne_up (N := 2) (IL_7_2 hI) (by decide) rfl c862) (by decide)) (by decide)) dL_isTold_963 (fun h13 hR13 => ?_)
                have hI13 : IL (sS σ 2 (ix ((4 : Int32) * (σ 7 (ix (2 : Int32))))) (T6_j872 σ ξ one two)) := (IL_sS hI trivial)
                refine J_aload_3 X dL_isTold_964 ?_
                refine J_iconst (v := 4) X dL_isTold_965 rfl ?_
                refine J_aload_5 X dL_isTold_966 ?_
                refine J_iconst (v := 2) X dL_isTold_968 rfl ?_
                refine JL_lv X hR13.la 7 (by decide) (vp_up (vp_in_nI (n := 2) (N := 3) (by decide) (by decide)) (by decide)) (v := (σ 7 (ix (2 : Int32)))) (by rw [sS_col (by decide)]) dL_isTold_969 ?_
                refine J_imul X dL_isTold_970 ?_
                refine J_iconst (v := 1) X dL_isTold_971 rfl ?_
                refine J_iadd X dL_isTold_972 ?_
                refine J_iload_12 X dL_isTold_973 ?_
                refine JL_st X hR13 2 (by decide) (vp_up (vr_add (vr_mul (vp_in_nI (n := 4) (N := 5) (by decide) (by decide)) (ne_up (N := 2) (IL_7_2 hI) (by decide) rfl c862) (by decide)) (vp_in_nI (n := 1) (N := 2) (by decide) (by decide)) (by decide)) (by decide)) dL_isTold_975 (fun h14 hR14 => ?_)
                have hI14 : IL (sS (sS σ 2 (ix ((4 : Int32) * (σ 7 (ix (2 : Int32))))) (T6_j872 σ ξ one two)) 2 (ix (((4 : Int32) * (σ 7 (ix (2 : Int32)))) + (1 : Int32))) (T6_j905 σ ξ one two)) := (IL_sS hI13 trivial)
                refine J_aload_5 X dL_isTold_976 ?_
                refine J_iconst (v := 2) X dL_isTold_978 rfl ?_
                refine J_dup2 X dL_isTold_979 rfl rfl ?_
                refine JL_lv X hR14.la 7 (by decide) (vp_up (vp_in_nI (n := 2) (N := 3) (by decide) (by decide)) (by decide)) (v := (σ 7 (ix (2 : Int32)))) (by rw [sS_col (by decide), sS_col (by decide)]) dL_isTold_980 ?_
                refine J_iconst (v := 1) X dL_isTold_981 rfl ?_
                refine J_iadd X dL_isTold_982 ?_
                refine JL_st X hR14 7 (by decide) (vp_up (vp_in_nI (n := 2) (N := 3) (by decide) (by decide)) (by decide)) dL_isTold_983 (fun h15 hR15 => ?_)
                exact K951_984 _ (by rw [j951_0]; exact hR15)
            have j923_0 : T6_j923 σ ξ one two = (if (T6_j872 σ ξ one two) ≤ (0 : Int32) then (0 : Int32) else (if (501 : Int32) ≤ (T6_j872 σ ξ one two) then (0 : Int32) else (if (10001 : Int32) ≤ (T6_j905 σ ξ one two) then (0 : Int32) else (1 : Int32)))) := rfl
            refine J_if_le (tgt := 946) X dL_isTold_923 (by decide) (fun c923 => ?_) (fun c923 => ?_)
            · skip
              rw [if_pos c923] at j923_0
              refine J_iconst (v := 0) X dL_isTold_946 rfl ?_
              exact K923_947 _ j923_0.symm
            · skip
              rw [if_neg c923] at j923_0
              refine J_iload_11 X dL_isTold_926 ?_
              refine J_sipush (v := (501 : Int32)) X dL_isTold_928 (by decide) ?_
              refine J_icmp_ge (tgt := 946) X dL_isTold_931 (by decide) (fun c931 => ?_) (fun c931 => ?_)
              · skip
                rw [if_pos c931] at j923_0
                refine J_iconst (v := 0) X dL_isTold_946 rfl ?_
                exact K923_947 _ j923_0.symm
              · skip
                rw [if_neg c931] at j923_0
                refine J_iload_12 X dL_isTold_934 ?_
                refine J_sipush (v := (10001 : Int32)) X dL_isTold_936 (by decide) ?_
                refine J_icmp_ge (tgt := 946) X dL_isTold_939 (by decide) (fun c939 => ?_) (fun c939 => ?_)
                · skip
                  rw [if_pos c939] at j923_0
                  refine J_iconst (v := 0) X dL_isTold_946 rfl ?_
                  exact K923_947 _ j923_0.symm
                · skip
                  rw [if_neg c939] at j923_0
                  refine J_iconst (v := 1) X dL_isTold_942 rfl ?_
                  refine J_goto (tgt := 947) X dL_isTold_943 (by decide) ?_
                  exact K923_947 _ j923_0.symm
          have j905_0 : T6_j905 σ ξ one two = (if (two - two / (13 : Int32) * (13 : Int32)) = (12 : Int32) then (10001 : Int32) else (two - two / (80 : Int32) * (80 : Int32))) := rfl
          refine J_icmp_ne (tgt := 914) X dL_isTold_905 (by decide) (fun c905 => ?_) (fun c905 => ?_)
          · skip
            rw [if_neg c905] at j905_0
            refine J_iload_8 X dL_isTold_914 ?_
            refine J_bipush (v := (80 : Int32)) X dL_isTold_916 (by decide) ?_
            refine J_irem X dL_isTold_918 (by decide) ?_
            exact K905_919 _ j905_0.symm
          · skip
            rw [if_pos c905] at j905_0
            refine J_sipush (v := (10001 : Int32)) X dL_isTold_908 (by decide) ?_
            refine J_goto (tgt := 919) X dL_isTold_911 (by decide) ?_
            exact K905_919 _ j905_0.symm
        have j872_0 : T6_j872 σ ξ one two = (if (one - one / (9 : Int32) * (9 : Int32)) = (0 : Int32) then (((one / (9 : Int32)) - (one / (9 : Int32)) / (2 : Int32) * (2 : Int32)) * (501 : Int32)) else ((1 : Int32) + (one - one / (30 : Int32) * (30 : Int32)))) := rfl
        refine J_if_ne (tgt := 889) X dL_isTold_872 (by decide) (fun c872 => ?_) (fun c872 => ?_)
        · skip
          rw [if_neg c872] at j872_0
          refine J_iconst (v := 1) X dL_isTold_889 rfl ?_
          refine J_iload_7 X dL_isTold_890 ?_
          refine J_bipush (v := (30 : Int32)) X dL_isTold_892 (by decide) ?_
          refine J_irem X dL_isTold_894 (by decide) ?_
          refine J_iadd X dL_isTold_895 ?_
          exact K872_896 _ j872_0.symm
        · skip
          rw [if_pos c872] at j872_0
          refine J_iload_7 X dL_isTold_875 ?_
          refine J_bipush (v := (9 : Int32)) X dL_isTold_877 (by decide) ?_
          refine J_idiv X dL_isTold_879 (by decide) ?_
          refine J_iconst (v := 2) X dL_isTold_880 rfl ?_
          refine J_irem X dL_isTold_881 (by decide) ?_
          refine J_sipush (v := (501 : Int32)) X dL_isTold_882 (by decide) ?_
          refine J_imul X dL_isTold_885 ?_
          refine J_goto (tgt := 896) X dL_isTold_886 (by decide) ?_
          exact K872_896 _ j872_0.symm
      · skip
        rw [if_pos c862] at q_v
        rw [if_pos c862] at q_s
        rw [if_pos c862] at q_x
        refine J_iconst (v := 1) X dL_isTold_865 rfl ?_
        exact J_zret X rfl (by first | exact Or.inl rfl | exact Or.inr rfl) rfl ⟨by rw [q_v], hx, by rw [q_s]; exact hL, by rw [q_x]; exact hX⟩ dL_isTold_866
    have j32_0 : T6_j32 σ ξ one two = (if (two - two / (13 : Int32) * (13 : Int32)) = (12 : Int32) then (4 : Int32) else (two - two / (2 : Int32) * (2 : Int32))) := rfl
    refine J_icmp_ne (tgt := 39) X dL_isTold_32 (by decide) (fun c32 => ?_) (fun c32 => ?_)
    · skip
      rw [if_neg c32] at j32_0
      refine J_iload_8 X dL_isTold_39 ?_
      refine J_iconst (v := 2) X dL_isTold_41 rfl ?_
      refine J_irem X dL_isTold_42 (by decide) ?_
      exact K32_43 _ j32_0.symm
    · skip
      rw [if_pos c32] at j32_0
      refine J_iconst (v := 4) X dL_isTold_35 rfl ?_
      refine J_goto (tgt := 43) X dL_isTold_36 (by decide) ?_
      exact K32_43 _ j32_0.symm
  have j7_0 : T6_j7 σ ξ one two = (if (one - one / (17 : Int32) * (17 : Int32)) = (16 : Int32) then (64 : Int32) else ((16 : Int32) + (one - one / (24 : Int32) * (24 : Int32)))) := rfl
  refine J_icmp_ne (tgt := 15) X dL_isTold_7 (by decide) (fun c7 => ?_) (fun c7 => ?_)
  · skip
    rw [if_neg c7] at j7_0
    refine J_bipush (v := (16 : Int32)) X dL_isTold_15 (by decide) ?_
    refine J_iload_7 X dL_isTold_17 ?_
    refine J_bipush (v := (24 : Int32)) X dL_isTold_19 (by decide) ?_
    refine J_irem X dL_isTold_21 (by decide) ?_
    refine J_iadd X dL_isTold_22 ?_
    exact K7_23 _ j7_0.symm
  · skip
    rw [if_pos c7] at j7_0
    refine J_bipush (v := (64 : Int32)) X dL_isTold_10 (by decide) ?_
    refine J_goto (tgt := 23) X dL_isTold_12 (by decide) ?_
    exact K7_23 _ j7_0.symm
end
