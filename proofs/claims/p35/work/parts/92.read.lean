noncomputable section
def R0_j22 (σ : St) (ξ : St) (one : Int32) (two : Int32) : Int32 := (if (one - one / (17 : Int32) * (17 : Int32)) = (16 : Int32) then (64 : Int32) else ((16 : Int32) + (one - one / (24 : Int32) * (24 : Int32))))
def R0_j47 (σ : St) (ξ : St) (one : Int32) (two : Int32) : Int32 := (if (two - two / (13 : Int32) * (13 : Int32)) = (12 : Int32) then (51 : Int32) else ((two - two / (101 : Int32) * (101 : Int32)) - (50 : Int32)))
def R0_j81 (σ : St) (ξ : St) (one : Int32) (two : Int32) : Int32 := (if (51 : Int32) ≤ (R0_j47 σ ξ one two) then (0 : Int32) else (if (4 : Int32) ≤ (((two / (101 : Int32)) - (two / (101 : Int32)) / (8 : Int32) * (8 : Int32)) - (3 : Int32)) then (0 : Int32) else (1 : Int32)))
theorem R0_j81_b (σ : St) (ξ : St) (one : Int32) (two : Int32) : R0_j81 σ ξ one two = 0 ∨ R0_j81 σ ξ one two = 1 := by
  unfold R0_j81
  (repeat' split) <;> first | exact Or.inl (by with_reducible rfl) | exact Or.inr (by with_reducible rfl)
def R0_j101_s (σ : St) (ξ : St) (one : Int32) (two : Int32) : St := (if (64 : Int32) ≤ (R0_j22 σ ξ one two) then σ else (if (R0_j81 σ ξ one two) = (0 : Int32) then σ else (sS (sS σ 5 (ix ((3 : Int32) * (σ 7 (ix (4 : Int32))))) (((R0_j22 σ ξ one two) + ((64 : Int32) * ((R0_j47 σ ξ one two) + (50 : Int32)))) + ((8192 : Int32) * ((((two / (101 : Int32)) - (two / (101 : Int32)) / (8 : Int32) * (8 : Int32)) - (3 : Int32)) + (3 : Int32))))) 7 (ix (4 : Int32)) ((σ 7 (ix (4 : Int32))) + (1 : Int32)))))
def R0_j164 (σ : St) (ξ : St) (one : Int32) (two : Int32) : Int32 := (if (R0_j22 σ ξ one two) = (64 : Int32) then (-3000000 : Int32) else (if (R0_j81 σ ξ one two) = (0 : Int32) then (-2000000 : Int32) else (((R0_j101_s σ ξ one two) 7 (ix (4 : Int32))) - (1 : Int32))))
def R0_j188 (σ : St) (ξ : St) (one : Int32) (two : Int32) : Int32 := (if (DV_11 ξ (R0_j22 σ ξ one two) (R0_j47 σ ξ one two) (((two / (101 : Int32)) - (two / (101 : Int32)) / (8 : Int32) * (8 : Int32)) - (3 : Int32))) = (R0_j164 σ ξ one two) then (1 : Int32) else (0 : Int32))
theorem R0_j188_b (σ : St) (ξ : St) (one : Int32) (two : Int32) : R0_j188 σ ξ one two = 0 ∨ R0_j188 σ ξ one two = 1 := by
  unfold R0_j188
  (repeat' split) <;> first | exact Or.inl (by with_reducible rfl) | exact Or.inr (by with_reducible rfl)
def R0 (σ : St) (ξ : St) (one : Int32) (two : Int32) : Int32 := (if (σ 7 (ix (4 : Int32))) = (2 : Int32) then (1 : Int32) else (R0_j188 σ ξ one two))
def R0_s (σ : St) (ξ : St) (one : Int32) (two : Int32) : St := (if (σ 7 (ix (4 : Int32))) = (2 : Int32) then σ else (R0_j101_s σ ξ one two))
def R0_x (σ : St) (ξ : St) (one : Int32) (two : Int32) : St := (if (σ 7 (ix (4 : Int32))) = (2 : Int32) then ξ else (M_meter_s ξ (R0_j22 σ ξ one two) (R0_j47 σ ξ one two) (((two / (101 : Int32)) - (two / (101 : Int32)) / (8 : Int32) * (8 : Int32)) - (3 : Int32))))
theorem R0_b (σ : St) (ξ : St) (one : Int32) (two : Int32) : (R0 σ ξ one two) = 0 ∨ (R0 σ ξ one two) = 1 := by
  unfold R0
  (repeat' split) <;> first | exact Or.inl (by with_reducible rfl) | exact Or.inr (by with_reducible rfl) | exact R0_j188_b ..
theorem cw_L_isRead : Cond.static yL_isRead ∈ GW ∧ Cond.initialized yL_isRead.cls ∈ GW ∧ Cond.code yL_isRead cL_isRead 18 (some .boolean) ∈ GW ∧ (yL_isRead.cls ≠ "java/lang/invoke/MethodHandle" ∧ yL_isRead.cls ≠ "java/lang/invoke/VarHandle") ∧ (parseMethodDescriptor yL_isRead.desc).map (fun d => d.parameters.length) = some 11 := ⟨gw_4_171, gw_1_0, gw_4_172, ⟨by decide, by decide⟩, by decide +kernel⟩
set_option maxRecDepth 100000 in
set_option maxHeartbeats 4000000 in
theorem c_R0 {l : Launch} {D : va_G} {ca : Nat → Nat} {h hx : fH} {r : Nat} {α : Nat → Nat} {σ ξ : St} (hL : LH ca hx h α σ) (hX : RA ca hx r ξ) (hIX : InvX ξ) (hIO : InvO ξ) (hQ : LQ ξ σ) (one : Int32) (two : Int32) (h1 : vp_in one 60000) (h2 : vp_in two 60000) : FM l D ca yL_isRead (.code yL_isRead cL_isRead 18 (some .boolean)) { frames := 10, cells := 7, slots := 132, locals := 342 } [.ref r, .ref (α 0), .ref (α 1), .ref (α 2), .ref (α 3), .ref (α 5), .ref (α 6), .ref (α 7), .int (0 : Int32), .int one, .int two] h (fun v h2 => v = some (.int (R0 σ ξ one two)) ∧ ∃ hx2, LH ca hx2 h2 α (R0_s σ ξ one two) ∧ RA ca hx2 r (R0_x σ ξ one two)) noX := by
  refine FM.of [some (.ref r), some (.ref (α 0)), some (.ref (α 1)), some (.ref (α 2)), some (.ref (α 3)), some (.ref (α 5)), some (.ref (α 6)), some (.ref (α 7)), some (.int (0 : Int32)), some (.int one), some (.int two), none, none, none, none, none, none, none] (by decide) (Nat.le_of_ble_eq_true rfl) rfl ?_
  rintro K X rfl rfl rfl
  have hI := IL_of hQ hIX
  have q_v : (R0 σ ξ one two) = (if (σ 7 (ix (4 : Int32))) = (2 : Int32) then (1 : Int32) else (R0_j188 σ ξ one two)) := rfl
  have q_s : (R0_s σ ξ one two) = (if (σ 7 (ix (4 : Int32))) = (2 : Int32) then σ else (R0_j101_s σ ξ one two)) := rfl
  have q_x : (R0_x σ ξ one two) = (if (σ 7 (ix (4 : Int32))) = (2 : Int32) then ξ else (M_meter_s ξ (R0_j22 σ ξ one two) (R0_j47 σ ξ one two) (((two / (101 : Int32)) - (two / (101 : Int32)) / (8 : Int32) * (8 : Int32)) - (3 : Int32)))) := rfl
  refine J_iload_8 X dL_isRead_0 ?_
  refine J_if_ne (tgt := 197) X dL_isRead_2 (by decide) (fun c => absurd (by decide) c) (fun _ => ?_)
  refine J_aload_7 X dL_isRead_5 ?_
  refine J_iconst (v := 4) X dL_isRead_7 rfl ?_
  refine JL_ld X hL.la 7 (by decide) (vp_up (vp_in_nI (n := 4) (N := 5) (by decide) (by decide)) (by decide)) dL_isRead_8 ?_
  refine J_iconst (v := 2) X dL_isRead_9 rfl ?_
  refine J_icmp_ne (tgt := 15) X dL_isRead_10 (by decide) (fun c10 => ?_) (fun c10 => ?_)
  · skip
    rw [if_neg c10] at q_v
    rw [if_neg c10] at q_s
    rw [if_neg c10] at q_x
    refine J_iload_9 X dL_isRead_15 ?_
    refine J_bipush (v := (17 : Int32)) X dL_isRead_17 (by decide) ?_
    refine J_irem X dL_isRead_19 (by decide) ?_
    refine J_bipush (v := (16 : Int32)) X dL_isRead_20 (by decide) ?_
    have K22_38 : ∀ (v22_0 : Int32), v22_0 = (R0_j22 σ ξ one two) → J K h [some (.ref r), some (.ref (α 0)), some (.ref (α 1)), some (.ref (α 2)), some (.ref (α 3)), some (.ref (α 5)), some (.ref (α 6)), some (.ref (α 7)), some (.int (0 : Int32)), some (.int one), some (.int two), none, none, none, none, none, none, none] [.int v22_0] 38 0 0 := by
      intro v22_0 ev22_0
      try rw [ev22_0]
      clear ev22_0
      refine J_istore_11 X dL_isRead_38 rfl (by decide) ?_
      refine J_iload_10 X dL_isRead_40 ?_
      refine J_bipush (v := (13 : Int32)) X dL_isRead_42 (by decide) ?_
      refine J_irem X dL_isRead_44 (by decide) ?_
      refine J_bipush (v := (12 : Int32)) X dL_isRead_45 (by decide) ?_
      have K47_63 : ∀ (v47_0 : Int32), v47_0 = (R0_j47 σ ξ one two) → J K h [some (.ref r), some (.ref (α 0)), some (.ref (α 1)), some (.ref (α 2)), some (.ref (α 3)), some (.ref (α 5)), some (.ref (α 6)), some (.ref (α 7)), some (.int (0 : Int32)), some (.int one), some (.int two), some (.int (R0_j22 σ ξ one two)), none, none, none, none, none, none] [.int v47_0] 63 0 0 := by
        intro v47_0 ev47_0
        try rw [ev47_0]
        clear ev47_0
        refine J_istore_12 X dL_isRead_63 rfl (by decide) ?_
        refine J_iload_10 X dL_isRead_65 ?_
        refine J_bipush (v := (101 : Int32)) X dL_isRead_67 (by decide) ?_
        refine J_idiv X dL_isRead_69 (by decide) ?_
        refine J_bipush (v := (8 : Int32)) X dL_isRead_70 (by decide) ?_
        refine J_irem X dL_isRead_72 (by decide) ?_
        refine J_iconst (v := 3) X dL_isRead_73 rfl ?_
        refine J_isub X dL_isRead_74 ?_
        refine J_istore_13 X dL_isRead_75 rfl (by decide) ?_
        refine J_iload_12 X dL_isRead_77 ?_
        refine J_bipush (v := (51 : Int32)) X dL_isRead_79 (by decide) ?_
        have K81_95 : ∀ (v81_0 : Int32), v81_0 = (R0_j81 σ ξ one two) → J K h [some (.ref r), some (.ref (α 0)), some (.ref (α 1)), some (.ref (α 2)), some (.ref (α 3)), some (.ref (α 5)), some (.ref (α 6)), some (.ref (α 7)), some (.int (0 : Int32)), some (.int one), some (.int two), some (.int (R0_j22 σ ξ one two)), some (.int (R0_j47 σ ξ one two)), some (.int (((two / (101 : Int32)) - (two / (101 : Int32)) / (8 : Int32) * (8 : Int32)) - (3 : Int32))), none, none, none, none] [.int v81_0] 95 0 0 := by
          intro v81_0 ev81_0
          try rw [ev81_0]
          clear ev81_0
          refine J_istore_14 X dL_isRead_95 rfl (by decide) ?_
          refine J_iload_11 X dL_isRead_97 ?_
          refine J_bipush (v := (64 : Int32)) X dL_isRead_99 (by decide) ?_
          have K101_146 : ∀ hj11 : fH, LH (kca K) hx hj11 α (R0_j101_s σ ξ one two) → J K hj11 [some (.ref r), some (.ref (α 0)), some (.ref (α 1)), some (.ref (α 2)), some (.ref (α 3)), some (.ref (α 5)), some (.ref (α 6)), some (.ref (α 7)), some (.int (0 : Int32)), some (.int one), some (.int two), some (.int (R0_j22 σ ξ one two)), some (.int (R0_j47 σ ξ one two)), some (.int (((two / (101 : Int32)) - (two / (101 : Int32)) / (8 : Int32) * (8 : Int32)) - (3 : Int32))), some (.int (R0_j81 σ ξ one two)), none, none, none] [] 146 0 0 := by
            intro hj11 hRj11
            refine J_aload_0 X dL_isRead_146 ?_
            refine J_bipush (v := (11 : Int32)) X dL_isRead_147 (by decide) ?_
            refine J_iload_11 X dL_isRead_149 ?_
            refine J_iload_12 X dL_isRead_151 ?_
            refine J_iload_13 X dL_isRead_153 ?_
            refine J_iconst (v := 0) X dL_isRead_155 rfl ?_
            refine J_iconst (v := 0) X dL_isRead_156 rfl ?_
            obtain ⟨la, eh, hap, hLA, hα⟩ := hRj11
            subst eh
            refine J_callSW X ((c_D_11 hX hIX hIO (R0_j22 σ ξ one two) (R0_j47 σ ξ one two) (((two / (101 : Int32)) - (two / (101 : Int32)) / (8 : Int32) * (8 : Int32)) - (3 : Int32)) (0 : Int32) (0 : Int32)).frame hap) (And.intro gw_2_177 cw_L_does) rfl rfl (Nat.le_of_ble_eq_true rfl) dL_isRead_157 rfl (fun v h12 e => ?_) (fun E h12 e => by obtain ⟨_, q, _⟩ := e; exact q.elim)
            obtain ⟨hx12, ⟨e0, hX12⟩, hap12, eh⟩ := e
            subst e0
            subst eh
            have hR12 : LH (kca K) hx12 (un hx12 la) α (R0_j101_s σ ξ one two) := ⟨la, rfl, hap12, hLA, hα⟩
            show J K (un hx12 la) [some (.ref r), some (.ref (α 0)), some (.ref (α 1)), some (.ref (α 2)), some (.ref (α 3)), some (.ref (α 5)), some (.ref (α 6)), some (.ref (α 7)), some (.int (0 : Int32)), some (.int one), some (.int two), some (.int (R0_j22 σ ξ one two)), some (.int (R0_j47 σ ξ one two)), some (.int (((two / (101 : Int32)) - (two / (101 : Int32)) / (8 : Int32) * (8 : Int32)) - (3 : Int32))), some (.int (R0_j81 σ ξ one two)), none, none, none] [.int (DV_11 ξ (R0_j22 σ ξ one two) (R0_j47 σ ξ one two) (((two / (101 : Int32)) - (two / (101 : Int32)) / (8 : Int32) * (8 : Int32)) - (3 : Int32)))] 160 7 132
            refine J_iload_11 X dL_isRead_160 ?_
            refine J_bipush (v := (64 : Int32)) X dL_isRead_162 (by decide) ?_
            have K164_188 : ∀ (v164_0 : Int32), v164_0 = (R0_j164 σ ξ one two) → J K (un hx12 la) [some (.ref r), some (.ref (α 0)), some (.ref (α 1)), some (.ref (α 2)), some (.ref (α 3)), some (.ref (α 5)), some (.ref (α 6)), some (.ref (α 7)), some (.int (0 : Int32)), some (.int one), some (.int two), some (.int (R0_j22 σ ξ one two)), some (.int (R0_j47 σ ξ one two)), some (.int (((two / (101 : Int32)) - (two / (101 : Int32)) / (8 : Int32) * (8 : Int32)) - (3 : Int32))), some (.int (R0_j81 σ ξ one two)), none, none, none] [.int v164_0, .int (DV_11 ξ (R0_j22 σ ξ one two) (R0_j47 σ ξ one two) (((two / (101 : Int32)) - (two / (101 : Int32)) / (8 : Int32) * (8 : Int32)) - (3 : Int32)))] 188 7 132 := by
              intro v164_0 ev164_0
              try rw [ev164_0]
              clear ev164_0
              have K188_196 : ∀ (v188_0 : Int32), v188_0 = (R0_j188 σ ξ one two) → J K (un hx12 la) [some (.ref r), some (.ref (α 0)), some (.ref (α 1)), some (.ref (α 2)), some (.ref (α 3)), some (.ref (α 5)), some (.ref (α 6)), some (.ref (α 7)), some (.int (0 : Int32)), some (.int one), some (.int two), some (.int (R0_j22 σ ξ one two)), some (.int (R0_j47 σ ξ one two)), some (.int (((two / (101 : Int32)) - (two / (101 : Int32)) / (8 : Int32) * (8 : Int32)) - (3 : Int32))), some (.int (R0_j81 σ ξ one two)), none, none, none] [.int v188_0] 196 7 132 := by
                intro v188_0 ev188_0
                try rw [ev188_0]
                clear ev188_0
                exact J_zret X rfl (R0_j188_b ..) rfl ⟨by rw [q_v], hx12, by rw [q_s]; exact hR12, by rw [q_x]; exact hX12⟩ dL_isRead_196
              have j188_0 : R0_j188 σ ξ one two = (if (DV_11 ξ (R0_j22 σ ξ one two) (R0_j47 σ ξ one two) (((two / (101 : Int32)) - (two / (101 : Int32)) / (8 : Int32) * (8 : Int32)) - (3 : Int32))) = (R0_j164 σ ξ one two) then (1 : Int32) else (0 : Int32)) := rfl
              refine J_icmp_ne (tgt := 195) X dL_isRead_188 (by decide) (fun c188 => ?_) (fun c188 => ?_)
              · skip
                rw [if_neg c188] at j188_0
                refine J_iconst (v := 0) X dL_isRead_195 rfl ?_
                exact K188_196 _ j188_0.symm
              · skip
                rw [if_pos c188] at j188_0
                refine J_iconst (v := 1) X dL_isRead_191 rfl ?_
                refine J_goto (tgt := 196) X dL_isRead_192 (by decide) ?_
                exact K188_196 _ j188_0.symm
            have j164_0 : R0_j164 σ ξ one two = (if (R0_j22 σ ξ one two) = (64 : Int32) then (-3000000 : Int32) else (if (R0_j81 σ ξ one two) = (0 : Int32) then (-2000000 : Int32) else (((R0_j101_s σ ξ one two) 7 (ix (4 : Int32))) - (1 : Int32)))) := rfl
            refine J_icmp_ne (tgt := 172) X dL_isRead_164 (by decide) (fun c164 => ?_) (fun c164 => ?_)
            · skip
              rw [if_neg c164] at j164_0
              refine J_iload_14 X dL_isRead_172 ?_
              refine J_if_eq (tgt := 186) X dL_isRead_174 (by decide) (fun c174 => ?_) (fun c174 => ?_)
              · skip
                rw [if_pos c174] at j164_0
                refine J_ldc (v := (-2000000 : Int32)) X dL_isRead_186 gw_4_73 ?_
                exact K164_188 _ j164_0.symm
              · skip
                rw [if_neg c174] at j164_0
                refine J_aload_7 X dL_isRead_177 ?_
                refine J_iconst (v := 4) X dL_isRead_179 rfl ?_
                refine JL_ld X hR12.la 7 (by decide) (vp_up (vp_in_nI (n := 4) (N := 5) (by decide) (by decide)) (by decide)) dL_isRead_180 ?_
                refine J_iconst (v := 1) X dL_isRead_181 rfl ?_
                refine J_isub X dL_isRead_182 ?_
                refine J_goto (tgt := 188) X dL_isRead_183 (by decide) ?_
                exact K164_188 _ j164_0.symm
            · skip
              rw [if_pos c164] at j164_0
              refine J_ldc (v := (-3000000 : Int32)) X dL_isRead_167 gw_4_72 ?_
              refine J_goto (tgt := 188) X dL_isRead_169 (by decide) ?_
              exact K164_188 _ j164_0.symm
          have j101_0 : R0_j101_s σ ξ one two = (if (64 : Int32) ≤ (R0_j22 σ ξ one two) then σ else (if (R0_j81 σ ξ one two) = (0 : Int32) then σ else (sS (sS σ 5 (ix ((3 : Int32) * (σ 7 (ix (4 : Int32))))) (((R0_j22 σ ξ one two) + ((64 : Int32) * ((R0_j47 σ ξ one two) + (50 : Int32)))) + ((8192 : Int32) * ((((two / (101 : Int32)) - (two / (101 : Int32)) / (8 : Int32) * (8 : Int32)) - (3 : Int32)) + (3 : Int32))))) 7 (ix (4 : Int32)) ((σ 7 (ix (4 : Int32))) + (1 : Int32))))) := rfl
          refine J_icmp_ge (tgt := 146) X dL_isRead_101 (by decide) (fun c101 => ?_) (fun c101 => ?_)
          · skip
            rw [if_pos c101] at j101_0
            exact K101_146 _ (by rw [j101_0]; exact hL)
          · skip
            rw [if_neg c101] at j101_0
            refine J_iload_14 X dL_isRead_104 ?_
            refine J_if_eq (tgt := 146) X dL_isRead_106 (by decide) (fun c106 => ?_) (fun c106 => ?_)
            · skip
              rw [if_pos c106] at j101_0
              exact K101_146 _ (by rw [j101_0]; exact hL)
            · skip
              rw [if_neg c106] at j101_0
              refine J_aload_5 X dL_isRead_109 ?_
              refine J_iconst (v := 3) X dL_isRead_111 rfl ?_
              refine J_aload_7 X dL_isRead_112 ?_
              refine J_iconst (v := 4) X dL_isRead_114 rfl ?_
              refine JL_ld X hL.la 7 (by decide) (vp_up (vp_in_nI (n := 4) (N := 5) (by decide) (by decide)) (by decide)) dL_isRead_115 ?_
              refine J_imul X dL_isRead_116 ?_
              refine J_iload_11 X dL_isRead_117 ?_
              refine J_bipush (v := (64 : Int32)) X dL_isRead_119 (by decide) ?_
              refine J_iload_12 X dL_isRead_121 ?_
              refine J_bipush (v := (50 : Int32)) X dL_isRead_123 (by decide) ?_
              refine J_iadd X dL_isRead_125 ?_
              refine J_imul X dL_isRead_126 ?_
              refine J_iadd X dL_isRead_127 ?_
              refine J_sipush (v := (8192 : Int32)) X dL_isRead_128 (by decide) ?_
              refine J_iload_13 X dL_isRead_131 ?_
              refine J_iconst (v := 3) X dL_isRead_133 rfl ?_
              refine J_iadd X dL_isRead_134 ?_
              refine J_imul X dL_isRead_135 ?_
              refine J_iadd X dL_isRead_136 ?_
              refine JL_st X hL 5 (by decide) (vp_up (vr_mul (vp_in_nI (n := 3) (N := 4) (by decide) (by decide)) (ne_up (N := 2) (IL_7_4 hI) (by decide) rfl c10) (by decide)) (by decide)) dL_isRead_137 (fun h13 hR13 => ?_)
              refine J_aload_7 X dL_isRead_138 ?_
              refine J_iconst (v := 4) X dL_isRead_140 rfl ?_
              refine J_dup2 X dL_isRead_141 rfl rfl ?_
              refine JL_lv X hR13.la 7 (by decide) (vp_up (vp_in_nI (n := 4) (N := 5) (by decide) (by decide)) (by decide)) (v := (σ 7 (ix (4 : Int32)))) (by rw [sS_col (by decide)]) dL_isRead_142 ?_
              refine J_iconst (v := 1) X dL_isRead_143 rfl ?_
              refine J_iadd X dL_isRead_144 ?_
              refine JL_st X hR13 7 (by decide) (vp_up (vp_in_nI (n := 4) (N := 5) (by decide) (by decide)) (by decide)) dL_isRead_145 (fun h14 hR14 => ?_)
              exact K101_146 _ (by rw [j101_0]; exact hR14)
        have j81_0 : R0_j81 σ ξ one two = (if (51 : Int32) ≤ (R0_j47 σ ξ one two) then (0 : Int32) else (if (4 : Int32) ≤ (((two / (101 : Int32)) - (two / (101 : Int32)) / (8 : Int32) * (8 : Int32)) - (3 : Int32)) then (0 : Int32) else (1 : Int32))) := rfl
        refine J_icmp_ge (tgt := 94) X dL_isRead_81 (by decide) (fun c81 => ?_) (fun c81 => ?_)
        · skip
          rw [if_pos c81] at j81_0
          refine J_iconst (v := 0) X dL_isRead_94 rfl ?_
          exact K81_95 _ j81_0.symm
        · skip
          rw [if_neg c81] at j81_0
          refine J_iload_13 X dL_isRead_84 ?_
          refine J_iconst (v := 4) X dL_isRead_86 rfl ?_
          refine J_icmp_ge (tgt := 94) X dL_isRead_87 (by decide) (fun c87 => ?_) (fun c87 => ?_)
          · skip
            rw [if_pos c87] at j81_0
            refine J_iconst (v := 0) X dL_isRead_94 rfl ?_
            exact K81_95 _ j81_0.symm
          · skip
            rw [if_neg c87] at j81_0
            refine J_iconst (v := 1) X dL_isRead_90 rfl ?_
            refine J_goto (tgt := 95) X dL_isRead_91 (by decide) ?_
            exact K81_95 _ j81_0.symm
      have j47_0 : R0_j47 σ ξ one two = (if (two - two / (13 : Int32) * (13 : Int32)) = (12 : Int32) then (51 : Int32) else ((two - two / (101 : Int32) * (101 : Int32)) - (50 : Int32))) := rfl
      refine J_icmp_ne (tgt := 55) X dL_isRead_47 (by decide) (fun c47 => ?_) (fun c47 => ?_)
      · skip
        rw [if_neg c47] at j47_0
        refine J_iload_10 X dL_isRead_55 ?_
        refine J_bipush (v := (101 : Int32)) X dL_isRead_57 (by decide) ?_
        refine J_irem X dL_isRead_59 (by decide) ?_
        refine J_bipush (v := (50 : Int32)) X dL_isRead_60 (by decide) ?_
        refine J_isub X dL_isRead_62 ?_
        exact K47_63 _ j47_0.symm
      · skip
        rw [if_pos c47] at j47_0
        refine J_bipush (v := (51 : Int32)) X dL_isRead_50 (by decide) ?_
        refine J_goto (tgt := 63) X dL_isRead_52 (by decide) ?_
        exact K47_63 _ j47_0.symm
    have j22_0 : R0_j22 σ ξ one two = (if (one - one / (17 : Int32) * (17 : Int32)) = (16 : Int32) then (64 : Int32) else ((16 : Int32) + (one - one / (24 : Int32) * (24 : Int32)))) := rfl
    refine J_icmp_ne (tgt := 30) X dL_isRead_22 (by decide) (fun c22 => ?_) (fun c22 => ?_)
    · skip
      rw [if_neg c22] at j22_0
      refine J_bipush (v := (16 : Int32)) X dL_isRead_30 (by decide) ?_
      refine J_iload_9 X dL_isRead_32 ?_
      refine J_bipush (v := (24 : Int32)) X dL_isRead_34 (by decide) ?_
      refine J_irem X dL_isRead_36 (by decide) ?_
      refine J_iadd X dL_isRead_37 ?_
      exact K22_38 _ j22_0.symm
    · skip
      rw [if_pos c22] at j22_0
      refine J_bipush (v := (64 : Int32)) X dL_isRead_25 (by decide) ?_
      refine J_goto (tgt := 38) X dL_isRead_27 (by decide) ?_
      exact K22_38 _ j22_0.symm
  · skip
    rw [if_pos c10] at q_v
    rw [if_pos c10] at q_s
    rw [if_pos c10] at q_x
    refine J_iconst (v := 1) X dL_isRead_13 rfl ?_
    exact J_zret X rfl (by first | exact Or.inl rfl | exact Or.inr rfl) rfl ⟨by rw [q_v], hx, by rw [q_s]; exact hL, by rw [q_x]; exact hX⟩ dL_isRead_14
def R1_j214 (σ : St) (ξ : St) (one : Int32) (two : Int32) : Int32 := (if (σ 7 (ix (4 : Int32))) ≤ (one - one / ((σ 7 (ix (4 : Int32))) + (1 : Int32)) * ((σ 7 (ix (4 : Int32))) + (1 : Int32))) then (0 : Int32) else (1 : Int32))
theorem R1_j214_b (σ : St) (ξ : St) (one : Int32) (two : Int32) : R1_j214 σ ξ one two = 0 ∨ R1_j214 σ ξ one two = 1 := by
  unfold R1_j214
  (repeat' split) <;> first | exact Or.inl (by with_reducible rfl) | exact Or.inr (by with_reducible rfl)
def R1_j457 (σ : St) (ξ : St) (one : Int32) (two : Int32) : Int32 := (if (R1_j214 σ ξ one two) = (0 : Int32) then (-3000000 : Int32) else (0 : Int32))
def R1_j467 (σ : St) (ξ : St) (one : Int32) (two : Int32) : Int32 := (if (DV_12 ξ (one - one / ((σ 7 (ix (4 : Int32))) + (1 : Int32)) * ((σ 7 (ix (4 : Int32))) + (1 : Int32)))) = (R1_j457 σ ξ one two) then (1 : Int32) else (0 : Int32))
theorem R1_j467_b (σ : St) (ξ : St) (one : Int32) (two : Int32) : R1_j467 σ ξ one two = 0 ∨ R1_j467 σ ξ one two = 1 := by
  unfold R1_j467
  (repeat' split) <;> first | exact Or.inl (by with_reducible rfl) | exact Or.inr (by with_reducible rfl)
def R1_j457x1 (σ : St) (ξ : St) (one : Int32) (two : Int32) : Int32 := (if (R1_j214 σ ξ one two) = (0 : Int32) then (-3000000 : Int32) else ((((((L_glow σ ((σ 5 (ix ((3 : Int32) * (one - one / ((σ 7 (ix (4 : Int32))) + (1 : Int32)) * ((σ 7 (ix (4 : Int32))) + (1 : Int32)))))) - (σ 5 (ix ((3 : Int32) * (one - one / ((σ 7 (ix (4 : Int32))) + (1 : Int32)) * ((σ 7 (ix (4 : Int32))) + (1 : Int32)))))) / (64 : Int32) * (64 : Int32)) (5 : Int32)) + (L_moon (σ 7 (ix (0 : Int32))))) + (20 : Int32)) + (((σ 5 (ix ((3 : Int32) * (one - one / ((σ 7 (ix (4 : Int32))) + (1 : Int32)) * ((σ 7 (ix (4 : Int32))) + (1 : Int32)))))) / (64 : Int32)) - ((σ 5 (ix ((3 : Int32) * (one - one / ((σ 7 (ix (4 : Int32))) + (1 : Int32)) * ((σ 7 (ix (4 : Int32))) + (1 : Int32)))))) / (64 : Int32)) / (128 : Int32) * (128 : Int32))) - (50 : Int32)) + ((((σ 5 (ix ((3 : Int32) * (one - one / ((σ 7 (ix (4 : Int32))) + (1 : Int32)) * ((σ 7 (ix (4 : Int32))) + (1 : Int32)))))) / (8192 : Int32)) - (3 : Int32)) * ((σ 7 (ix (0 : Int32))) / (24 : Int32)))))
def R1_j467x1 (σ : St) (ξ : St) (one : Int32) (two : Int32) : Int32 := (if (DV_12 ξ (one - one / ((σ 7 (ix (4 : Int32))) + (1 : Int32)) * ((σ 7 (ix (4 : Int32))) + (1 : Int32)))) = (R1_j457x1 σ ξ one two) then (1 : Int32) else (0 : Int32))
theorem R1_j467x1_b (σ : St) (ξ : St) (one : Int32) (two : Int32) : R1_j467x1 σ ξ one two = 0 ∨ R1_j467x1 σ ξ one two = 1 := by
  unfold R1_j467x1
  (repeat' split) <;> first | exact Or.inl (by with_reducible rfl) | exact Or.inr (by with_reducible rfl)
def R1_L327 (σ : St) (ξ : St) (one : Int32) (two : Int32) (K327 : St → Int32) : Nat → Nat → St → Int32
  | 0, _, s327 => K327 s327
  | n327 + 1, k327, s327 => (R1_L327 σ ξ one two K327 n327 (k327 + 1) (sS (sS s327 6 (ix (nI k327)) (s327 6 (ix ((nI k327) + (1 : Int32))))) 6 (ix ((20 : Int32) + (nI k327))) ((sS s327 6 (ix (nI k327)) (s327 6 (ix ((nI k327) + (1 : Int32))))) 6 (ix ((21 : Int32) + (nI k327))))))
def R1_L327_s (σ : St) (ξ : St) (one : Int32) (two : Int32) (K327s : St → St) : Nat → Nat → St → St
  | 0, _, s327 => K327s s327
  | n327 + 1, k327, s327 => (R1_L327_s σ ξ one two K327s n327 (k327 + 1) (sS (sS s327 6 (ix (nI k327)) (s327 6 (ix ((nI k327) + (1 : Int32))))) 6 (ix ((20 : Int32) + (nI k327))) ((sS s327 6 (ix (nI k327)) (s327 6 (ix ((nI k327) + (1 : Int32))))) 6 (ix ((21 : Int32) + (nI k327))))))
def R1_L327_x (σ : St) (ξ : St) (one : Int32) (two : Int32) (K327x : St → St) : Nat → Nat → St → St
  | 0, _, s327 => K327x s327
  | n327 + 1, k327, s327 => (R1_L327_x σ ξ one two K327x n327 (k327 + 1) (sS (sS s327 6 (ix (nI k327)) (s327 6 (ix ((nI k327) + (1 : Int32))))) 6 (ix ((20 : Int32) + (nI k327))) ((sS s327 6 (ix (nI k327)) (s327 6 (ix ((nI k327) + (1 : Int32))))) 6 (ix ((21 : Int32) + (nI k327))))))
def R1_j457x2 (σ : St) (ξ : St) (one : Int32) (two : Int32) (s327 : St) : Int32 := (if (R1_j214 σ ξ one two) = (0 : Int32) then (-3000000 : Int32) else ((((((L_glow σ ((σ 5 (ix ((3 : Int32) * (one - one / ((σ 7 (ix (4 : Int32))) + (1 : Int32)) * ((σ 7 (ix (4 : Int32))) + (1 : Int32)))))) - (σ 5 (ix ((3 : Int32) * (one - one / ((σ 7 (ix (4 : Int32))) + (1 : Int32)) * ((σ 7 (ix (4 : Int32))) + (1 : Int32)))))) / (64 : Int32) * (64 : Int32)) (5 : Int32)) + (L_moon (σ 7 (ix (0 : Int32))))) + (20 : Int32)) + (((σ 5 (ix ((3 : Int32) * (one - one / ((σ 7 (ix (4 : Int32))) + (1 : Int32)) * ((σ 7 (ix (4 : Int32))) + (1 : Int32)))))) / (64 : Int32)) - ((σ 5 (ix ((3 : Int32) * (one - one / ((σ 7 (ix (4 : Int32))) + (1 : Int32)) * ((σ 7 (ix (4 : Int32))) + (1 : Int32)))))) / (64 : Int32)) / (128 : Int32) * (128 : Int32))) - (50 : Int32)) + ((((σ 5 (ix ((3 : Int32) * (one - one / ((σ 7 (ix (4 : Int32))) + (1 : Int32)) * ((σ 7 (ix (4 : Int32))) + (1 : Int32)))))) / (8192 : Int32)) - (3 : Int32)) * ((σ 7 (ix (0 : Int32))) / (24 : Int32)))))
def R1_j467x2 (σ : St) (ξ : St) (one : Int32) (two : Int32) (s327 : St) : Int32 := (if (DV_12 ξ (one - one / ((σ 7 (ix (4 : Int32))) + (1 : Int32)) * ((σ 7 (ix (4 : Int32))) + (1 : Int32)))) = (R1_j457x2 σ ξ one two s327) then (1 : Int32) else (0 : Int32))
theorem R1_j467x2_b (σ : St) (ξ : St) (one : Int32) (two : Int32) (s327 : St) : R1_j467x2 σ ξ one two s327 = 0 ∨ R1_j467x2 σ ξ one two s327 = 1 := by
  unfold R1_j467x2
  (repeat' split) <;> first | exact Or.inl (by with_reducible rfl) | exact Or.inr (by with_reducible rfl)
def R1 (σ : St) (ξ : St) (one : Int32) (two : Int32) : Int32 := (if (R1_j214 σ ξ one two) = (0 : Int32) then (R1_j467 σ ξ one two) else (if (σ 5 (ix (((3 : Int32) * (one - one / ((σ 7 (ix (4 : Int32))) + (1 : Int32)) * ((σ 7 (ix (4 : Int32))) + (1 : Int32)))) + (2 : Int32)))) = (10 : Int32) then (R1_L327 σ ξ one two (fun s327 => (R1_j467x2 σ ξ one two s327)) n9 (10 * ix (one - one / ((σ 7 (ix (4 : Int32))) + (1 : Int32)) * ((σ 7 (ix (4 : Int32))) + (1 : Int32)))) σ) else (R1_j467x1 σ ξ one two)))
def R1_s (σ : St) (ξ : St) (one : Int32) (two : Int32) : St := (if (R1_j214 σ ξ one two) = (0 : Int32) then σ else (if (σ 5 (ix (((3 : Int32) * (one - one / ((σ 7 (ix (4 : Int32))) + (1 : Int32)) * ((σ 7 (ix (4 : Int32))) + (1 : Int32)))) + (2 : Int32)))) = (10 : Int32) then (R1_L327_s σ ξ one two (fun s327 => (sS (sS (sS (sS s327 5 (ix (((3 : Int32) * (one - one / ((σ 7 (ix (4 : Int32))) + (1 : Int32)) * ((σ 7 (ix (4 : Int32))) + (1 : Int32)))) + (2 : Int32))) (9 : Int32)) 6 (ix (((10 : Int32) * (one - one / ((σ 7 (ix (4 : Int32))) + (1 : Int32)) * ((σ 7 (ix (4 : Int32))) + (1 : Int32)))) + (9 : Int32))) (s327 7 (ix (0 : Int32)))) 6 (ix (((20 : Int32) + ((10 : Int32) * (one - one / ((σ 7 (ix (4 : Int32))) + (1 : Int32)) * ((σ 7 (ix (4 : Int32))) + (1 : Int32))))) + (9 : Int32))) ((((((L_glow σ ((σ 5 (ix ((3 : Int32) * (one - one / ((σ 7 (ix (4 : Int32))) + (1 : Int32)) * ((σ 7 (ix (4 : Int32))) + (1 : Int32)))))) - (σ 5 (ix ((3 : Int32) * (one - one / ((σ 7 (ix (4 : Int32))) + (1 : Int32)) * ((σ 7 (ix (4 : Int32))) + (1 : Int32)))))) / (64 : Int32) * (64 : Int32)) (5 : Int32)) + (L_moon (σ 7 (ix (0 : Int32))))) + (20 : Int32)) + (((σ 5 (ix ((3 : Int32) * (one - one / ((σ 7 (ix (4 : Int32))) + (1 : Int32)) * ((σ 7 (ix (4 : Int32))) + (1 : Int32)))))) / (64 : Int32)) - ((σ 5 (ix ((3 : Int32) * (one - one / ((σ 7 (ix (4 : Int32))) + (1 : Int32)) * ((σ 7 (ix (4 : Int32))) + (1 : Int32)))))) / (64 : Int32)) / (128 : Int32) * (128 : Int32))) - (50 : Int32)) + ((((σ 5 (ix ((3 : Int32) * (one - one / ((σ 7 (ix (4 : Int32))) + (1 : Int32)) * ((σ 7 (ix (4 : Int32))) + (1 : Int32)))))) / (8192 : Int32)) - (3 : Int32)) * ((σ 7 (ix (0 : Int32))) / (24 : Int32))))) 5 (ix (((3 : Int32) * (one - one / ((σ 7 (ix (4 : Int32))) + (1 : Int32)) * ((σ 7 (ix (4 : Int32))) + (1 : Int32)))) + (2 : Int32))) ((9 : Int32) + (1 : Int32)))) n9 (10 * ix (one - one / ((σ 7 (ix (4 : Int32))) + (1 : Int32)) * ((σ 7 (ix (4 : Int32))) + (1 : Int32)))) σ) else (sS (sS (sS σ 6 (ix (((10 : Int32) * (one - one / ((σ 7 (ix (4 : Int32))) + (1 : Int32)) * ((σ 7 (ix (4 : Int32))) + (1 : Int32)))) + (σ 5 (ix (((3 : Int32) * (one - one / ((σ 7 (ix (4 : Int32))) + (1 : Int32)) * ((σ 7 (ix (4 : Int32))) + (1 : Int32)))) + (2 : Int32)))))) (σ 7 (ix (0 : Int32)))) 6 (ix (((20 : Int32) + ((10 : Int32) * (one - one / ((σ 7 (ix (4 : Int32))) + (1 : Int32)) * ((σ 7 (ix (4 : Int32))) + (1 : Int32))))) + (σ 5 (ix (((3 : Int32) * (one - one / ((σ 7 (ix (4 : Int32))) + (1 : Int32)) * ((σ 7 (ix (4 : Int32))) + (1 : Int32)))) + (2 : Int32)))))) ((((((L_glow σ ((σ 5 (ix ((3 : Int32) * (one - one / ((σ 7 (ix (4 : Int32))) + (1 : Int32)) * ((σ 7 (ix (4 : Int32))) + (1 : Int32)))))) - (σ 5 (ix ((3 : Int32) * (one - one / ((σ 7 (ix (4 : Int32))) + (1 : Int32)) * ((σ 7 (ix (4 : Int32))) + (1 : Int32)))))) / (64 : Int32) * (64 : Int32)) (5 : Int32)) + (L_moon (σ 7 (ix (0 : Int32))))) + (20 : Int32)) + (((σ 5 (ix ((3 : Int32) * (one - one / ((σ 7 (ix (4 : Int32))) + (1 : Int32)) * ((σ 7 (ix (4 : Int32))) + (1 : Int32)))))) / (64 : Int32)) - ((σ 5 (ix ((3 : Int32) * (one - one / ((σ 7 (ix (4 : Int32))) + (1 : Int32)) * ((σ 7 (ix (4 : Int32))) + (1 : Int32)))))) / (64 : Int32)) / (128 : Int32) * (128 : Int32))) - (50 : Int32)) + ((((σ 5 (ix ((3 : Int32) * (one - one / ((σ 7 (ix (4 : Int32))) + (1 : Int32)) * ((σ 7 (ix (4 : Int32))) + (1 : Int32)))))) / (8192 : Int32)) - (3 : Int32)) * ((σ 7 (ix (0 : Int32))) / (24 : Int32))))) 5 (ix (((3 : Int32) * (one - one / ((σ 7 (ix (4 : Int32))) + (1 : Int32)) * ((σ 7 (ix (4 : Int32))) + (1 : Int32)))) + (2 : Int32))) ((σ 5 (ix (((3 : Int32) * (one - one / ((σ 7 (ix (4 : Int32))) + (1 : Int32)) * ((σ 7 (ix (4 : Int32))) + (1 : Int32)))) + (2 : Int32)))) + (1 : Int32)))))
def R1_x (σ : St) (ξ : St) (one : Int32) (two : Int32) : St := (if (R1_j214 σ ξ one two) = (0 : Int32) then (M_read_s ξ (one - one / ((σ 7 (ix (4 : Int32))) + (1 : Int32)) * ((σ 7 (ix (4 : Int32))) + (1 : Int32)))) else (if (σ 5 (ix (((3 : Int32) * (one - one / ((σ 7 (ix (4 : Int32))) + (1 : Int32)) * ((σ 7 (ix (4 : Int32))) + (1 : Int32)))) + (2 : Int32)))) = (10 : Int32) then (R1_L327_x σ ξ one two (fun s327 => (M_read_s ξ (one - one / ((σ 7 (ix (4 : Int32))) + (1 : Int32)) * ((σ 7 (ix (4 : Int32))) + (1 : Int32))))) n9 (10 * ix (one - one / ((σ 7 (ix (4 : Int32))) + (1 : Int32)) * ((σ 7 (ix (4 : Int32))) + (1 : Int32)))) σ) else (M_read_s ξ (one - one / ((σ 7 (ix (4 : Int32))) + (1 : Int32)) * ((σ 7 (ix (4 : Int32))) + (1 : Int32))))))
theorem R1_is {σ ξ : St} {one two : Int32} (hI : IL σ) (h1 : vp_in one 60000) (c : ¬ R1_j214 σ ξ one two = 0) : vp_in (one - one / ((σ 7 (ix (4 : Int32))) + (1 : Int32)) * ((σ 7 (ix (4 : Int32))) + (1 : Int32))) (ix (σ 7 (ix (4 : Int32)))) ∧ vp_in (one - one / ((σ 7 (ix (4 : Int32))) + (1 : Int32)) * ((σ 7 (ix (4 : Int32))) + (1 : Int32))) 2 := by
  unfold R1_j214 at c
  split at c
  · exact absurd rfl c
  · have h := below (remv h1 (by decide) (IL_7_4 hI) (by decide)) (by decide) (IL_7_4 hI) (by decide) (by assumption)
    exact ⟨h, vp_up h (cnt (N := 2) (IL_7_4 hI) (by decide)).2⟩
theorem R1_ra {x : Int32} (h : vp_in x 2) : (10 : Int32) * x = nI (10 * ix x) := by
  have e := vp_nI' h (by decide)
  generalize ix x = j at *
  subst e
  exact pk_mul 10 j
set_option maxRecDepth 100000 in
set_option maxHeartbeats 4000000 in
theorem c_R1 {l : Launch} {D : va_G} {ca : Nat → Nat} {h hx : fH} {r : Nat} {α : Nat → Nat} {σ ξ : St} (hL : LH ca hx h α σ) (hX : RA ca hx r ξ) (hIX : InvX ξ) (hIO : InvO ξ) (hQ : LQ ξ σ) (one : Int32) (two : Int32) (h1 : vp_in one 60000) (h2 : vp_in two 60000) : FM l D ca yL_isRead (.code yL_isRead cL_isRead 18 (some .boolean)) { frames := 10, cells := 3, slots := 108, locals := 392 } [.ref r, .ref (α 0), .ref (α 1), .ref (α 2), .ref (α 3), .ref (α 5), .ref (α 6), .ref (α 7), .int (1 : Int32), .int one, .int two] h (fun v h2 => v = some (.int (R1 σ ξ one two)) ∧ ∃ hx2, LH ca hx2 h2 α (R1_s σ ξ one two) ∧ RA ca hx2 r (R1_x σ ξ one two)) noX := by
  refine FM.of [some (.ref r), some (.ref (α 0)), some (.ref (α 1)), some (.ref (α 2)), some (.ref (α 3)), some (.ref (α 5)), some (.ref (α 6)), some (.ref (α 7)), some (.int (1 : Int32)), some (.int one), some (.int two), none, none, none, none, none, none, none] (by decide) (Nat.le_of_ble_eq_true rfl) rfl ?_
  rintro K X rfl rfl rfl
  have hI := IL_of hQ hIX
  have q_v : (R1 σ ξ one two) = (if (R1_j214 σ ξ one two) = (0 : Int32) then (R1_j467 σ ξ one two) else (if (σ 5 (ix (((3 : Int32) * (one - one / ((σ 7 (ix (4 : Int32))) + (1 : Int32)) * ((σ 7 (ix (4 : Int32))) + (1 : Int32)))) + (2 : Int32)))) = (10 : Int32) then (R1_L327 σ ξ one two (fun s327 => (R1_j467x2 σ ξ one two s327)) n9 (10 * ix (one - one / ((σ 7 (ix (4 : Int32))) + (1 : Int32)) * ((σ 7 (ix (4 : Int32))) + (1 : Int32)))) σ) else (R1_j467x1 σ ξ one two))) := rfl
  have q_s : (R1_s σ ξ one two) = (if (R1_j214 σ ξ one two) = (0 : Int32) then σ else (if (σ 5 (ix (((3 : Int32) * (one - one / ((σ 7 (ix (4 : Int32))) + (1 : Int32)) * ((σ 7 (ix (4 : Int32))) + (1 : Int32)))) + (2 : Int32)))) = (10 : Int32) then (R1_L327_s σ ξ one two (fun s327 => (sS (sS (sS (sS s327 5 (ix (((3 : Int32) * (one - one / ((σ 7 (ix (4 : Int32))) + (1 : Int32)) * ((σ 7 (ix (4 : Int32))) + (1 : Int32)))) + (2 : Int32))) (9 : Int32)) 6 (ix (((10 : Int32) * (one - one / ((σ 7 (ix (4 : Int32))) + (1 : Int32)) * ((σ 7 (ix (4 : Int32))) + (1 : Int32)))) + (9 : Int32))) (s327 7 (ix (0 : Int32)))) 6 (ix (((20 : Int32) + ((10 : Int32) * (one - one / ((σ 7 (ix (4 : Int32))) + (1 : Int32)) * ((σ 7 (ix (4 : Int32))) + (1 : Int32))))) + (9 : Int32))) ((((((L_glow σ ((σ 5 (ix ((3 : Int32) * (one - one / ((σ 7 (ix (4 : Int32))) + (1 : Int32)) * ((σ 7 (ix (4 : Int32))) + (1 : Int32)))))) - (σ 5 (ix ((3 : Int32) * (one - one / ((σ 7 (ix (4 : Int32))) + (1 : Int32)) * ((σ 7 (ix (4 : Int32))) + (1 : Int32)))))) / (64 : Int32) * (64 : Int32)) (5 : Int32)) + (L_moon (σ 7 (ix (0 : Int32))))) + (20 : Int32)) + (((σ 5 (ix ((3 : Int32) * (one - one / ((σ 7 (ix (4 : Int32))) + (1 : Int32)) * ((σ 7 (ix (4 : Int32))) + (1 : Int32)))))) / (64 : Int32)) - ((σ 5 (ix ((3 : Int32) * (one - one / ((σ 7 (ix (4 : Int32))) + (1 : Int32)) * ((σ 7 (ix (4 : Int32))) + (1 : Int32)))))) / (64 : Int32)) / (128 : Int32) * (128 : Int32))) - (50 : Int32)) + ((((σ 5 (ix ((3 : Int32) * (one - one / ((σ 7 (ix (4 : Int32))) + (1 : Int32)) * ((σ 7 (ix (4 : Int32))) + (1 : Int32)))))) / (8192 : Int32)) - (3 : Int32)) * ((σ 7 (ix (0 : Int32))) / (24 : Int32))))) 5 (ix (((3 : Int32) * (one - one / ((σ 7 (ix (4 : Int32))) + (1 : Int32)) * ((σ 7 (ix (4 : Int32))) + (1 : Int32)))) + (2 : Int32))) ((9 : Int32) + (1 : Int32)))) n9 (10 * ix (one - one / ((σ 7 (ix (4 : Int32))) + (1 : Int32)) * ((σ 7 (ix (4 : Int32))) + (1 : Int32)))) σ) else (sS (sS (sS σ 6 (ix (((10 : Int32) * (one - one / ((σ 7 (ix (4 : Int32))) + (1 : Int32)) * ((σ 7 (ix (4 : Int32))) + (1 : Int32)))) + (σ 5 (ix (((3 : Int32) * (one - one / ((σ 7 (ix (4 : Int32))) + (1 : Int32)) * ((σ 7 (ix (4 : Int32))) + (1 : Int32)))) + (2 : Int32)))))) (σ 7 (ix (0 : Int32)))) 6 (ix (((20 : Int32) + ((10 : Int32) * (one - one / ((σ 7 (ix (4 : Int32))) + (1 : Int32)) * ((σ 7 (ix (4 : Int32))) + (1 : Int32))))) + (σ 5 (ix (((3 : Int32) * (one - one / ((σ 7 (ix (4 : Int32))) + (1 : Int32)) * ((σ 7 (ix (4 : Int32))) + (1 : Int32)))) + (2 : Int32)))))) ((((((L_glow σ ((σ 5 (ix ((3 : Int32) * (one - one / ((σ 7 (ix (4 : Int32))) + (1 : Int32)) * ((σ 7 (ix (4 : Int32))) + (1 : Int32)))))) - (σ 5 (ix ((3 : Int32) * (one - one / ((σ 7 (ix (4 : Int32))) + (1 : Int32)) * ((σ 7 (ix (4 : Int32))) + (1 : Int32)))))) / (64 : Int32) * (64 : Int32)) (5 : Int32)) + (L_moon (σ 7 (ix (0 : Int32))))) + (20 : Int32)) + (((σ 5 (ix ((3 : Int32) * (one - one / ((σ 7 (ix (4 : Int32))) + (1 : Int32)) * ((σ 7 (ix (4 : Int32))) + (1 : Int32)))))) / (64 : Int32)) - ((σ 5 (ix ((3 : Int32) * (one - one / ((σ 7 (ix (4 : Int32))) + (1 : Int32)) * ((σ 7 (ix (4 : Int32))) + (1 : Int32)))))) / (64 : Int32)) / (128 : Int32) * (128 : Int32))) - (50 : Int32)) + ((((σ 5 (ix ((3 : Int32) * (one - one / ((σ 7 (ix (4 : Int32))) + (1 : Int32)) * ((σ 7 (ix (4 : Int32))) + (1 : Int32)))))) / (8192 : Int32)) - (3 : Int32)) * ((σ 7 (ix (0 : Int32))) / (24 : Int32))))) 5 (ix (((3 : Int32) * (one - one / ((σ 7 (ix (4 : Int32))) + (1 : Int32)) * ((σ 7 (ix (4 : Int32))) + (1 : Int32)))) + (2 : Int32))) ((σ 5 (ix (((3 : Int32) * (one - one / ((σ 7 (ix (4 : Int32))) + (1 : Int32)) * ((σ 7 (ix (4 : Int32))) + (1 : Int32)))) + (2 : Int32)))) + (1 : Int32))))) := rfl
  have q_x : (R1_x σ ξ one two) = (if (R1_j214 σ ξ one two) = (0 : Int32) then (M_read_s ξ (one - one / ((σ 7 (ix (4 : Int32))) + (1 : Int32)) * ((σ 7 (ix (4 : Int32))) + (1 : Int32)))) else (if (σ 5 (ix (((3 : Int32) * (one - one / ((σ 7 (ix (4 : Int32))) + (1 : Int32)) * ((σ 7 (ix (4 : Int32))) + (1 : Int32)))) + (2 : Int32)))) = (10 : Int32) then (R1_L327_x σ ξ one two (fun s327 => (M_read_s ξ (one - one / ((σ 7 (ix (4 : Int32))) + (1 : Int32)) * ((σ 7 (ix (4 : Int32))) + (1 : Int32))))) n9 (10 * ix (one - one / ((σ 7 (ix (4 : Int32))) + (1 : Int32)) * ((σ 7 (ix (4 : Int32))) + (1 : Int32)))) σ) else (M_read_s ξ (one - one / ((σ 7 (ix (4 : Int32))) + (1 : Int32)) * ((σ 7 (ix (4 : Int32))) + (1 : Int32)))))) := rfl
  refine J_iload_8 X dL_isRead_0 ?_
  refine J_if_ne (tgt := 197) X dL_isRead_2 (by decide) (fun _ => ?_) (fun c => absurd c (by decide))
  refine J_iload_9 X dL_isRead_197 ?_
  refine J_aload_7 X dL_isRead_199 ?_
  refine J_iconst (v := 4) X dL_isRead_201 rfl ?_
  refine JL_ld X hL.la 7 (by decide) (vp_up (vp_in_nI (n := 4) (N := 5) (by decide) (by decide)) (by decide)) dL_isRead_202 ?_
  refine J_iconst (v := 1) X dL_isRead_203 rfl ?_
  refine J_iadd X dL_isRead_204 ?_
  refine J_irem X dL_isRead_205 (gp1 (IL_7_4 hI) (by decide)) ?_
  refine J_istore_11 X dL_isRead_206 rfl (by decide) ?_
  refine J_iload_11 X dL_isRead_208 ?_
  refine J_aload_7 X dL_isRead_210 ?_
  refine J_iconst (v := 4) X dL_isRead_212 rfl ?_
  refine JL_ld X hL.la 7 (by decide) (vp_up (vp_in_nI (n := 4) (N := 5) (by decide) (by decide)) (by decide)) dL_isRead_213 ?_
  have K214_222 : ∀ (v214_0 : Int32), v214_0 = (R1_j214 σ ξ one two) → J K h [some (.ref r), some (.ref (α 0)), some (.ref (α 1)), some (.ref (α 2)), some (.ref (α 3)), some (.ref (α 5)), some (.ref (α 6)), some (.ref (α 7)), some (.int (1 : Int32)), some (.int one), some (.int two), some (.int (one - one / ((σ 7 (ix (4 : Int32))) + (1 : Int32)) * ((σ 7 (ix (4 : Int32))) + (1 : Int32)))), none, none, none, none, none, none] [.int v214_0] 222 0 0 := by
    intro v214_0 ev214_0
    try rw [ev214_0]
    clear ev214_0
    refine J_istore_12 X dL_isRead_222 rfl (by decide) ?_
    refine J_iload_8 X dL_isRead_224 ?_
    refine J_iconst (v := 1) X dL_isRead_226 rfl ?_
    refine J_icmp_ne (tgt := 476) X dL_isRead_227 (by decide) (fun c => absurd (by decide) c) (fun _ => ?_)
    refine J_iconst (v := 0) X dL_isRead_230 rfl ?_
    refine J_istore_13 X dL_isRead_231 rfl (by decide) ?_
    refine J_iload_12 X dL_isRead_233 ?_
    refine J_if_eq (tgt := 443) X dL_isRead_235 (by decide) (fun c235 => ?_) (fun c235 => ?_)
    · skip
      rw [if_pos c235] at q_v
      rw [if_pos c235] at q_s
      rw [if_pos c235] at q_x
      refine J_aload_0 X dL_isRead_443 ?_
      refine J_bipush (v := (12 : Int32)) X dL_isRead_444 (by decide) ?_
      refine J_iload_11 X dL_isRead_446 ?_
      refine J_iconst (v := 0) X dL_isRead_448 rfl ?_
      refine J_iconst (v := 0) X dL_isRead_449 rfl ?_
      refine J_iconst (v := 0) X dL_isRead_450 rfl ?_
      refine J_iconst (v := 0) X dL_isRead_451 rfl ?_
      obtain ⟨la, eh, hap, hLA, hα⟩ := hL
      subst eh
      refine J_callSW X ((c_D_12 hX hIX hIO (one - one / ((σ 7 (ix (4 : Int32))) + (1 : Int32)) * ((σ 7 (ix (4 : Int32))) + (1 : Int32))) (0 : Int32) (0 : Int32) (0 : Int32) (0 : Int32)).frame hap) (And.intro gw_2_177 cw_L_does) rfl rfl (Nat.le_of_ble_eq_true rfl) dL_isRead_452 rfl (fun v h11 e => ?_) (fun E h11 e => by obtain ⟨_, q, _⟩ := e; exact q.elim)
      obtain ⟨hx11, ⟨e0, hX11⟩, hap11, eh⟩ := e
      subst e0
      subst eh
      have hR11 : LH (kca K) hx11 (un hx11 la) α σ := ⟨la, rfl, hap11, hLA, hα⟩
      show J K (un hx11 la) [some (.ref r), some (.ref (α 0)), some (.ref (α 1)), some (.ref (α 2)), some (.ref (α 3)), some (.ref (α 5)), some (.ref (α 6)), some (.ref (α 7)), some (.int (1 : Int32)), some (.int one), some (.int two), some (.int (one - one / ((σ 7 (ix (4 : Int32))) + (1 : Int32)) * ((σ 7 (ix (4 : Int32))) + (1 : Int32)))), some (.int (R1_j214 σ ξ one two)), some (.int (0 : Int32)), none, none, none, none] [.int (DV_12 ξ (one - one / ((σ 7 (ix (4 : Int32))) + (1 : Int32)) * ((σ 7 (ix (4 : Int32))) + (1 : Int32))))] 455 3 108
      refine J_iload_12 X dL_isRead_455 ?_
      have K457_467 : ∀ (v457_0 : Int32), v457_0 = (R1_j457 σ ξ one two) → J K (un hx11 la) [some (.ref r), some (.ref (α 0)), some (.ref (α 1)), some (.ref (α 2)), some (.ref (α 3)), some (.ref (α 5)), some (.ref (α 6)), some (.ref (α 7)), some (.int (1 : Int32)), some (.int one), some (.int two), some (.int (one - one / ((σ 7 (ix (4 : Int32))) + (1 : Int32)) * ((σ 7 (ix (4 : Int32))) + (1 : Int32)))), some (.int (R1_j214 σ ξ one two)), some (.int (0 : Int32)), none, none, none, none] [.int v457_0, .int (DV_12 ξ (one - one / ((σ 7 (ix (4 : Int32))) + (1 : Int32)) * ((σ 7 (ix (4 : Int32))) + (1 : Int32))))] 467 3 108 := by
        intro v457_0 ev457_0
        try rw [ev457_0]
        clear ev457_0
        have K467_475 : ∀ (v467_0 : Int32), v467_0 = (R1_j467 σ ξ one two) → J K (un hx11 la) [some (.ref r), some (.ref (α 0)), some (.ref (α 1)), some (.ref (α 2)), some (.ref (α 3)), some (.ref (α 5)), some (.ref (α 6)), some (.ref (α 7)), some (.int (1 : Int32)), some (.int one), some (.int two), some (.int (one - one / ((σ 7 (ix (4 : Int32))) + (1 : Int32)) * ((σ 7 (ix (4 : Int32))) + (1 : Int32)))), some (.int (R1_j214 σ ξ one two)), some (.int (0 : Int32)), none, none, none, none] [.int v467_0] 475 3 108 := by
          intro v467_0 ev467_0
          try rw [ev467_0]
          clear ev467_0
          exact J_zret X rfl (R1_j467_b ..) rfl ⟨by rw [q_v], hx11, by rw [q_s]; exact hR11, by rw [q_x]; exact hX11⟩ dL_isRead_475
        have j467_0 : R1_j467 σ ξ one two = (if (DV_12 ξ (one - one / ((σ 7 (ix (4 : Int32))) + (1 : Int32)) * ((σ 7 (ix (4 : Int32))) + (1 : Int32)))) = (R1_j457 σ ξ one two) then (1 : Int32) else (0 : Int32)) := rfl
        refine J_icmp_ne (tgt := 474) X dL_isRead_467 (by decide) (fun c467 => ?_) (fun c467 => ?_)
        · skip
          rw [if_neg c467] at j467_0
          refine J_iconst (v := 0) X dL_isRead_474 rfl ?_
          exact K467_475 _ j467_0.symm
        · skip
          rw [if_pos c467] at j467_0
          refine J_iconst (v := 1) X dL_isRead_470 rfl ?_
          refine J_goto (tgt := 475) X dL_isRead_471 (by decide) ?_
          exact K467_475 _ j467_0.symm
      have j457_0 : R1_j457 σ ξ one two = (if (R1_j214 σ ξ one two) = (0 : Int32) then (-3000000 : Int32) else (0 : Int32)) := rfl
      refine J_if_eq (tgt := 465) X dL_isRead_457 (by decide) (fun c457 => ?_) (fun c457 => ?_)
      · skip
        rw [if_pos c457] at j457_0
        refine J_ldc (v := (-3000000 : Int32)) X dL_isRead_465 gw_4_72 ?_
        exact K457_467 _ j457_0.symm
      · skip
        rw [if_neg c457] at j457_0
        refine J_iload_13 X dL_isRead_460 ?_
        refine J_goto (tgt := 467) X dL_isRead_462 (by decide) ?_
        exact K457_467 _ j457_0.symm
    · skip
      rw [if_neg c235] at q_v
      rw [if_neg c235] at q_s
      rw [if_neg c235] at q_x
      refine J_aload_5 X dL_isRead_238 ?_
      refine J_iconst (v := 3) X dL_isRead_240 rfl ?_
      refine J_iload_11 X dL_isRead_241 ?_
      refine J_imul X dL_isRead_243 ?_
      refine JL_ld X hL.la 5 (by decide) (vp_up (vr_mul (vp_in_nI (n := 3) (N := 4) (by decide) (by decide)) (R1_is (ξ := ξ) (two := two) hI h1 c235).2 (by decide)) (by decide)) dL_isRead_244 ?_
      refine J_istore_14 X dL_isRead_245 rfl (by decide) ?_
      refine J_aload_1 X dL_isRead_247 ?_
      refine J_aload_2 X dL_isRead_248 ?_
      refine J_aload_3 X dL_isRead_249 ?_
      refine J_aload_4 X dL_isRead_250 ?_
      refine J_aload_7 X dL_isRead_252 ?_
      refine J_iload_14 X dL_isRead_254 ?_
      refine J_bipush (v := (64 : Int32)) X dL_isRead_256 (by decide) ?_
      refine J_irem X dL_isRead_258 (by decide) ?_
      refine J_iconst (v := 5) X dL_isRead_259 rfl ?_
      refine J_callS X (c_L_glow hL.la hI ((σ 5 (ix ((3 : Int32) * (one - one / ((σ 7 (ix (4 : Int32))) + (1 : Int32)) * ((σ 7 (ix (4 : Int32))) + (1 : Int32)))))) - (σ 5 (ix ((3 : Int32) * (one - one / ((σ 7 (ix (4 : Int32))) + (1 : Int32)) * ((σ 7 (ix (4 : Int32))) + (1 : Int32)))))) / (64 : Int32) * (64 : Int32)) (5 : Int32) (vp_up (vr_rem (c := 64) (IL_5_0 hI (vp_up (R1_is (ξ := ξ) (two := two) hI h1 c235).2 (by decide : _ ≤ 2))) (by decide) (by decide) (by decide)) (by decide))) (And.intro gw_4_115 cw_L_glow) rfl rfl (Nat.le_of_ble_eq_true rfl) dL_isRead_260 rfl (J.pi ?_) JE.no
      refine J_aload_7 X dL_isRead_263 ?_
      refine J_iconst (v := 0) X dL_isRead_265 rfl ?_
      refine JL_ld X hL.la 7 (by decide) (vp_up (vp_in_nI (n := 0) (N := 1) (by decide) (by decide)) (by decide)) dL_isRead_266 ?_
      refine J_callS X (c_L_moon (σ 7 (ix (0 : Int32)))) (And.intro gw_4_134 cw_L_moon) rfl rfl (Nat.le_of_ble_eq_true rfl) dL_isRead_267 rfl (J.pi ?_) JE.no
      refine J_iadd X dL_isRead_270 ?_
      refine J_bipush (v := (20 : Int32)) X dL_isRead_271 (by decide) ?_
      refine J_iadd X dL_isRead_273 ?_
      refine J_iload_14 X dL_isRead_274 ?_
      refine J_bipush (v := (64 : Int32)) X dL_isRead_276 (by decide) ?_
      refine J_idiv X dL_isRead_278 (by decide) ?_
      refine J_sipush (v := (128 : Int32)) X dL_isRead_279 (by decide) ?_
      refine J_irem X dL_isRead_282 (by decide) ?_
      refine J_iadd X dL_isRead_283 ?_
      refine J_bipush (v := (50 : Int32)) X dL_isRead_284 (by decide) ?_
      refine J_isub X dL_isRead_286 ?_
      refine J_iload_14 X dL_isRead_287 ?_
      refine J_sipush (v := (8192 : Int32)) X dL_isRead_289 (by decide) ?_
      refine J_idiv X dL_isRead_292 (by decide) ?_
      refine J_iconst (v := 3) X dL_isRead_293 rfl ?_
      refine J_isub X dL_isRead_294 ?_
      refine J_aload_7 X dL_isRead_295 ?_
      refine J_iconst (v := 0) X dL_isRead_297 rfl ?_
      refine JL_ld X hL.la 7 (by decide) (vp_up (vp_in_nI (n := 0) (N := 1) (by decide) (by decide)) (by decide)) dL_isRead_298 ?_
      refine J_bipush (v := (24 : Int32)) X dL_isRead_299 (by decide) ?_
      refine J_idiv X dL_isRead_301 (by decide) ?_
      refine J_imul X dL_isRead_302 ?_
      refine J_iadd X dL_isRead_303 ?_
      refine J_istore_13 X dL_isRead_304 rfl (by decide) ?_
      refine J_aload_5 X dL_isRead_306 ?_
      refine J_iconst (v := 3) X dL_isRead_308 rfl ?_
      refine J_iload_11 X dL_isRead_309 ?_
      refine J_imul X dL_isRead_311 ?_
      refine J_iconst (v := 2) X dL_isRead_312 rfl ?_
      refine J_iadd X dL_isRead_313 ?_
      refine JL_ld X hL.la 5 (by decide) (vp_up (vr_add (vr_mul (vp_in_nI (n := 3) (N := 4) (by decide) (by decide)) (R1_is (ξ := ξ) (two := two) hI h1 c235).2 (by decide)) (vp_in_nI (n := 2) (N := 3) (by decide) (by decide)) (by decide)) (by decide)) dL_isRead_314 ?_
      refine J_bipush (v := (10 : Int32)) X dL_isRead_315 (by decide) ?_
      refine J_icmp_ne (tgt := 385) X dL_isRead_317 (by decide) (fun c317 => ?_) (fun c317 => ?_)
      · skip
        rw [if_neg c317] at q_v
        rw [if_neg c317] at q_s
        rw [if_neg c317] at q_x
        refine J_aload_6 X dL_isRead_385 ?_
        refine J_bipush (v := (10 : Int32)) X dL_isRead_387 (by decide) ?_
        refine J_iload_11 X dL_isRead_389 ?_
        refine J_imul X dL_isRead_391 ?_
        refine J_aload_5 X dL_isRead_392 ?_
        refine J_iconst (v := 3) X dL_isRead_394 rfl ?_
        refine J_iload_11 X dL_isRead_395 ?_
        refine J_imul X dL_isRead_397 ?_
        refine J_iconst (v := 2) X dL_isRead_398 rfl ?_
        refine J_iadd X dL_isRead_399 ?_
        refine JL_ld X hL.la 5 (by decide) (vp_up (vr_add (vr_mul (vp_in_nI (n := 3) (N := 4) (by decide) (by decide)) (R1_is (ξ := ξ) (two := two) hI h1 c235).2 (by decide)) (vp_in_nI (n := 2) (N := 3) (by decide) (by decide)) (by decide)) (by decide)) dL_isRead_400 ?_
        refine J_iadd X dL_isRead_401 ?_
        refine J_aload_7 X dL_isRead_402 ?_
        refine J_iconst (v := 0) X dL_isRead_404 rfl ?_
        refine JL_ld X hL.la 7 (by decide) (vp_up (vp_in_nI (n := 0) (N := 1) (by decide) (by decide)) (by decide)) dL_isRead_405 ?_
        refine JL_st X hL 6 (by decide) (vp_up (vr_add (vr_mul (vp_in_nI (n := 10) (N := 11) (by decide) (by decide)) (R1_is (ξ := ξ) (two := two) hI h1 c235).2 (by decide)) (ne_up (N := 10) (IL_5_2 hI (R1_is (ξ := ξ) (two := two) hI h1 c235).2) (by decide) rfl c317) (by decide)) (by decide)) dL_isRead_406 (fun h12 hR12 => ?_)
        refine J_aload_6 X dL_isRead_407 ?_
        refine J_bipush (v := (20 : Int32)) X dL_isRead_409 (by decide) ?_
        refine J_bipush (v := (10 : Int32)) X dL_isRead_411 (by decide) ?_
        refine J_iload_11 X dL_isRead_413 ?_
        refine J_imul X dL_isRead_415 ?_
        refine J_iadd X dL_isRead_416 ?_
        refine J_aload_5 X dL_isRead_417 ?_
        refine J_iconst (v := 3) X dL_isRead_419 rfl ?_
        refine J_iload_11 X dL_isRead_420 ?_
        refine J_imul X dL_isRead_422 ?_
        refine J_iconst (v := 2) X dL_isRead_423 rfl ?_
        refine J_iadd X dL_isRead_424 ?_
        refine JL_lv X hR12.la 5 (by decide) (vp_up (vr_add (vr_mul (vp_in_nI (n := 3) (N := 4) (by decide) (by decide)) (R1_is (ξ := ξ) (two := two) hI h1 c235).2 (by decide)) (vp_in_nI (n := 2) (N := 3) (by decide) (by decide)) (by decide)) (by decide)) (v := (σ 5 (ix (((3 : Int32) * (one - one / ((σ 7 (ix (4 : Int32))) + (1 : Int32)) * ((σ 7 (ix (4 : Int32))) + (1 : Int32)))) + (2 : Int32))))) (by rw [sS_col (by decide)]) dL_isRead_425 ?_
        refine J_iadd X dL_isRead_426 ?_
        refine J_iload_13 X dL_isRead_427 ?_
        refine JL_st X hR12 6 (by decide) (vp_up (vr_add (vr_add (vp_in_nI (n := 20) (N := 21) (by decide) (by decide)) (vr_mul (vp_in_nI (n := 10) (N := 11) (by decide) (by decide)) (R1_is (ξ := ξ) (two := two) hI h1 c235).2 (by decide)) (by decide)) (ne_up (N := 10) (IL_5_2 hI (R1_is (ξ := ξ) (two := two) hI h1 c235).2) (by decide) rfl c317) (by decide)) (by decide)) dL_isRead_429 (fun h13 hR13 => ?_)
        refine J_aload_5 X dL_isRead_430 ?_
        refine J_iconst (v := 3) X dL_isRead_432 rfl ?_
        refine J_iload_11 X dL_isRead_433 ?_
        refine J_imul X dL_isRead_435 ?_
        refine J_iconst (v := 2) X dL_isRead_436 rfl ?_
        refine J_iadd X dL_isRead_437 ?_
        refine J_dup2 X dL_isRead_438 rfl rfl ?_
        refine JL_lv X hR13.la 5 (by decide) (vp_up (vr_add (vr_mul (vp_in_nI (n := 3) (N := 4) (by decide) (by decide)) (R1_is (ξ := ξ) (two := two) hI h1 c235).2 (by decide)) (vp_in_nI (n := 2) (N := 3) (by decide) (by decide)) (by decide)) (by decide)) (v := (σ 5 (ix (((3 : Int32) * (one - one / ((σ 7 (ix (4 : Int32))) + (1 : Int32)) * ((σ 7 (ix (4 : Int32))) + (1 : Int32)))) + (2 : Int32))))) (by rw [sS_col (by decide), sS_col (by decide)]) dL_isRead_439 ?_
        refine J_iconst (v := 1) X dL_isRead_440 rfl ?_
        refine J_iadd X dL_isRead_441 ?_
        refine JL_st X hR13 5 (by decide) (vp_up (vr_add (vr_mul (vp_in_nI (n := 3) (N := 4) (by decide) (by decide)) (R1_is (ξ := ξ) (two := two) hI h1 c235).2 (by decide)) (vp_in_nI (n := 2) (N := 3) (by decide) (by decide)) (by decide)) (by decide)) dL_isRead_442 (fun h14 hR14 => ?_)
        refine J_aload_0 X dL_isRead_443 ?_
        refine J_bipush (v := (12 : Int32)) X dL_isRead_444 (by decide) ?_
        refine J_iload_11 X dL_isRead_446 ?_
        refine J_iconst (v := 0) X dL_isRead_448 rfl ?_
        refine J_iconst (v := 0) X dL_isRead_449 rfl ?_
        refine J_iconst (v := 0) X dL_isRead_450 rfl ?_
        refine J_iconst (v := 0) X dL_isRead_451 rfl ?_
        obtain ⟨la, eh, hap, hLA, hα⟩ := hR14
        subst eh
        refine J_callSW X ((c_D_12 hX hIX hIO (one - one / ((σ 7 (ix (4 : Int32))) + (1 : Int32)) * ((σ 7 (ix (4 : Int32))) + (1 : Int32))) (0 : Int32) (0 : Int32) (0 : Int32) (0 : Int32)).frame hap) (And.intro gw_2_177 cw_L_does) rfl rfl (Nat.le_of_ble_eq_true rfl) dL_isRead_452 rfl (fun v h15 e => ?_) (fun E h15 e => by obtain ⟨_, q, _⟩ := e; exact q.elim)
        obtain ⟨hx15, ⟨e0, hX15⟩, hap15, eh⟩ := e
        subst e0
        subst eh
        have hR15 : LH (kca K) hx15 (un hx15 la) α (sS (sS (sS σ 6 (ix (((10 : Int32) * (one - one / ((σ 7 (ix (4 : Int32))) + (1 : Int32)) * ((σ 7 (ix (4 : Int32))) + (1 : Int32)))) + (σ 5 (ix (((3 : Int32) * (one - one / ((σ 7 (ix (4 : Int32))) + (1 : Int32)) * ((σ 7 (ix (4 : Int32))) + (1 : Int32)))) + (2 : Int32)))))) (σ 7 (ix (0 : Int32)))) 6 (ix (((20 : Int32) + ((10 : Int32) * (one - one / ((σ 7 (ix (4 : Int32))) + (1 : Int32)) * ((σ 7 (ix (4 : Int32))) + (1 : Int32))))) + (σ 5 (ix (((3 : Int32) * (one - one / ((σ 7 (ix (4 : Int32))) + (1 : Int32)) * ((σ 7 (ix (4 : Int32))) + (1 : Int32)))) + (2 : Int32)))))) ((((((L_glow σ ((σ 5 (ix ((3 : Int32) * (one - one / ((σ 7 (ix (4 : Int32))) + (1 : Int32)) * ((σ 7 (ix (4 : Int32))) + (1 : Int32)))))) - (σ 5 (ix ((3 : Int32) * (one - one / ((σ 7 (ix (4 : Int32))) + (1 : Int32)) * ((σ 7 (ix (4 : Int32))) + (1 : Int32)))))) / (64 : Int32) * (64 : Int32)) (5 : Int32)) + (L_moon (σ 7 (ix (0 : Int32))))) + (20 : Int32)) + (((σ 5 (ix ((3 : Int32) * (one - one / ((σ 7 (ix (4 : Int32))) + (1 : Int32)) * ((σ 7 (ix (4 : Int32))) + (1 : Int32)))))) / (64 : Int32)) - ((σ 5 (ix ((3 : Int32) * (one - one / ((σ 7 (ix (4 : Int32))) + (1 : Int32)) * ((σ 7 (ix (4 : Int32))) + (1 : Int32)))))) / (64 : Int32)) / (128 : Int32) * (128 : Int32))) - (50 : Int32)) + ((((σ 5 (ix ((3 : Int32) * (one - one / ((σ 7 (ix (4 : Int32))) + (1 : Int32)) * ((σ 7 (ix (4 : Int32))) + (1 : Int32)))))) / (8192 : Int32)) - (3 : Int32)) * ((σ 7 (ix (0 : Int32))) / (24 : Int32))))) 5 (ix (((3 : Int32) * (one - one / ((σ 7 (ix (4 : Int32))) + (1 : Int32)) * ((σ 7 (ix (4 : Int32))) + (1 : Int32)))) + (2 : Int32))) ((σ 5 (ix (((3 : Int32) * (one - one / ((σ 7 (ix (4 : Int32))) + (1 : Int32)) * ((σ 7 (ix (4 : Int32))) + (1 : Int32)))) + (2 : Int32)))) + (1 : Int32))) := ⟨la, rfl, hap15, hLA, hα⟩
        show J K (un hx15 la) [some (.ref r), some (.ref (α 0)), some (.ref (α 1)), some (.ref (α 2)), some (.ref (α 3)), some (.ref (α 5)), some (.ref (α 6)), some (.ref (α 7)), some (.int (1 : Int32)), some (.int one), some (.int two), some (.int (one - one / ((σ 7 (ix (4 : Int32))) + (1 : Int32)) * ((σ 7 (ix (4 : Int32))) + (1 : Int32)))), some (.int (R1_j214 σ ξ one two)), some (.int ((((((L_glow σ ((σ 5 (ix ((3 : Int32) * (one - one / ((σ 7 (ix (4 : Int32))) + (1 : Int32)) * ((σ 7 (ix (4 : Int32))) + (1 : Int32)))))) - (σ 5 (ix ((3 : Int32) * (one - one / ((σ 7 (ix (4 : Int32))) + (1 : Int32)) * ((σ 7 (ix (4 : Int32))) + (1 : Int32)))))) / (64 : Int32) * (64 : Int32)) (5 : Int32)) + (L_moon (σ 7 (ix (0 : Int32))))) + (20 : Int32)) + (((σ 5 (ix ((3 : Int32) * (one - one / ((σ 7 (ix (4 : Int32))) + (1 : Int32)) * ((σ 7 (ix (4 : Int32))) + (1 : Int32)))))) / (64 : Int32)) - ((σ 5 (ix ((3 : Int32) * (one - one / ((σ 7 (ix (4 : Int32))) + (1 : Int32)) * ((σ 7 (ix (4 : Int32))) + (1 : Int32)))))) / (64 : Int32)) / (128 : Int32) * (128 : Int32))) - (50 : Int32)) + ((((σ 5 (ix ((3 : Int32) * (one - one / ((σ 7 (ix (4 : Int32))) + (1 : Int32)) * ((σ 7 (ix (4 : Int32))) + (1 : Int32)))))) / (8192 : Int32)) - (3 : Int32)) * ((σ 7 (ix (0 : Int32))) / (24 : Int32))))), some (.int (σ 5 (ix ((3 : Int32) * (one - one / ((σ 7 (ix (4 : Int32))) + (1 : Int32)) * ((σ 7 (ix (4 : Int32))) + (1 : Int32))))))), none, none, none] [.int (DV_12 ξ (one - one / ((σ 7 (ix (4 : Int32))) + (1 : Int32)) * ((σ 7 (ix (4 : Int32))) + (1 : Int32))))] 455 3 108
        refine J_iload_12 X dL_isRead_455 ?_
        have K457_467 : ∀ (v457_0 : Int32), v457_0 = (R1_j457x1 σ ξ one two) → J K (un hx15 la) [some (.ref r), some (.ref (α 0)), some (.ref (α 1)), some (.ref (α 2)), some (.ref (α 3)), some (.ref (α 5)), some (.ref (α 6)), some (.ref (α 7)), some (.int (1 : Int32)), some (.int one), some (.int two), some (.int (one - one / ((σ 7 (ix (4 : Int32))) + (1 : Int32)) * ((σ 7 (ix (4 : Int32))) + (1 : Int32)))), some (.int (R1_j214 σ ξ one two)), some (.int ((((((L_glow σ ((σ 5 (ix ((3 : Int32) * (one - one / ((σ 7 (ix (4 : Int32))) + (1 : Int32)) * ((σ 7 (ix (4 : Int32))) + (1 : Int32)))))) - (σ 5 (ix ((3 : Int32) * (one - one / ((σ 7 (ix (4 : Int32))) + (1 : Int32)) * ((σ 7 (ix (4 : Int32))) + (1 : Int32)))))) / (64 : Int32) * (64 : Int32)) (5 : Int32)) + (L_moon (σ 7 (ix (0 : Int32))))) + (20 : Int32)) + (((σ 5 (ix ((3 : Int32) * (one - one / ((σ 7 (ix (4 : Int32))) + (1 : Int32)) * ((σ 7 (ix (4 : Int32))) + (1 : Int32)))))) / (64 : Int32)) - ((σ 5 (ix ((3 : Int32) * (one - one / ((σ 7 (ix (4 : Int32))) + (1 : Int32)) * ((σ 7 (ix (4 : Int32))) + (1 : Int32)))))) / (64 : Int32)) / (128 : Int32) * (128 : Int32))) - (50 : Int32)) + ((((σ 5 (ix ((3 : Int32) * (one - one / ((σ 7 (ix (4 : Int32))) + (1 : Int32)) * ((σ 7 (ix (4 : Int32))) + (1 : Int32)))))) / (8192 : Int32)) - (3 : Int32)) * ((σ 7 (ix (0 : Int32))) / (24 : Int32))))), some (.int (σ 5 (ix ((3 : Int32) * (one - one / ((σ 7 (ix (4 : Int32))) + (1 : Int32)) * ((σ 7 (ix (4 : Int32))) + (1 : Int32))))))), none, none, none] [.int v457_0, .int (DV_12 ξ (one - one / ((σ 7 (ix (4 : Int32))) + (1 : Int32)) * ((σ 7 (ix (4 : Int32))) + (1 : Int32))))] 467 3 108 := by
          intro v457_0 ev457_0
          try rw [ev457_0]
          clear ev457_0
          have K467_475 : ∀ (v467_0 : Int32), v467_0 = (R1_j467x1 σ ξ one two) → J K (un hx15 la) [some (.ref r), some (.ref (α 0)), some (.ref (α 1)), some (.ref (α 2)), some (.ref (α 3)), some (.ref (α 5)), some (.ref (α 6)), some (.ref (α 7)), some (.int (1 : Int32)), some (.int one), some (.int two), some (.int (one - one / ((σ 7 (ix (4 : Int32))) + (1 : Int32)) * ((σ 7 (ix (4 : Int32))) + (1 : Int32)))), some (.int (R1_j214 σ ξ one two)), some (.int ((((((L_glow σ ((σ 5 (ix ((3 : Int32) * (one - one / ((σ 7 (ix (4 : Int32))) + (1 : Int32)) * ((σ 7 (ix (4 : Int32))) + (1 : Int32)))))) - (σ 5 (ix ((3 : Int32) * (one - one / ((σ 7 (ix (4 : Int32))) + (1 : Int32)) * ((σ 7 (ix (4 : Int32))) + (1 : Int32)))))) / (64 : Int32) * (64 : Int32)) (5 : Int32)) + (L_moon (σ 7 (ix (0 : Int32))))) + (20 : Int32)) + (((σ 5 (ix ((3 : Int32) * (one - one / ((σ 7 (ix (4 : Int32))) + (1 : Int32)) * ((σ 7 (ix (4 : Int32))) + (1 : Int32)))))) / (64 : Int32)) - ((σ 5 (ix ((3 : Int32) * (one - one / ((σ 7 (ix (4 : Int32))) + (1 : Int32)) * ((σ 7 (ix (4 : Int32))) + (1 : Int32)))))) / (64 : Int32)) / (128 : Int32) * (128 : Int32))) - (50 : Int32)) + ((((σ 5 (ix ((3 : Int32) * (one - one / ((σ 7 (ix (4 : Int32))) + (1 : Int32)) * ((σ 7 (ix (4 : Int32))) + (1 : Int32)))))) / (8192 : Int32)) - (3 : Int32)) * ((σ 7 (ix (0 : Int32))) / (24 : Int32))))), some (.int (σ 5 (ix ((3 : Int32) * (one - one / ((σ 7 (ix (4 : Int32))) + (1 : Int32)) * ((σ 7 (ix (4 : Int32))) + (1 : Int32))))))), none, none, none] [.int v467_0] 475 3 108 := by
            intro v467_0 ev467_0
            try rw [ev467_0]
            clear ev467_0
            exact J_zret X rfl (R1_j467x1_b ..) rfl ⟨by rw [q_v], hx15, by rw [q_s]; exact hR15, by rw [q_x]; exact hX15⟩ dL_isRead_475
          have j467_0 : R1_j467x1 σ ξ one two = (if (DV_12 ξ (one - one / ((σ 7 (ix (4 : Int32))) + (1 : Int32)) * ((σ 7 (ix (4 : Int32))) + (1 : Int32)))) = (R1_j457x1 σ ξ one two) then (1 : Int32) else (0 : Int32)) := rfl
          refine J_icmp_ne (tgt := 474) X dL_isRead_467 (by decide) (fun c467 => ?_) (fun c467 => ?_)
          · skip
            rw [if_neg c467] at j467_0
            refine J_iconst (v := 0) X dL_isRead_474 rfl ?_
            exact K467_475 _ j467_0.symm
          · skip
            rw [if_pos c467] at j467_0
            refine J_iconst (v := 1) X dL_isRead_470 rfl ?_
            refine J_goto (tgt := 475) X dL_isRead_471 (by decide) ?_
            exact K467_475 _ j467_0.symm
        have j457_0 : R1_j457x1 σ ξ one two = (if (R1_j214 σ ξ one two) = (0 : Int32) then (-3000000 : Int32) else ((((((L_glow σ ((σ 5 (ix ((3 : Int32) * (one - one / ((σ 7 (ix (4 : Int32))) + (1 : Int32)) * ((σ 7 (ix (4 : Int32))) + (1 : Int32)))))) - (σ 5 (ix ((3 : Int32) * (one - one / ((σ 7 (ix (4 : Int32))) + (1 : Int32)) * ((σ 7 (ix (4 : Int32))) + (1 : Int32)))))) / (64 : Int32) * (64 : Int32)) (5 : Int32)) + (L_moon (σ 7 (ix (0 : Int32))))) + (20 : Int32)) + (((σ 5 (ix ((3 : Int32) * (one - one / ((σ 7 (ix (4 : Int32))) + (1 : Int32)) * ((σ 7 (ix (4 : Int32))) + (1 : Int32)))))) / (64 : Int32)) - ((σ 5 (ix ((3 : Int32) * (one - one / ((σ 7 (ix (4 : Int32))) + (1 : Int32)) * ((σ 7 (ix (4 : Int32))) + (1 : Int32)))))) / (64 : Int32)) / (128 : Int32) * (128 : Int32))) - (50 : Int32)) + ((((σ 5 (ix ((3 : Int32) * (one - one / ((σ 7 (ix (4 : Int32))) + (1 : Int32)) * ((σ 7 (ix (4 : Int32))) + (1 : Int32)))))) / (8192 : Int32)) - (3 : Int32)) * ((σ 7 (ix (0 : Int32))) / (24 : Int32))))) := rfl
        refine J_if_eq (tgt := 465) X dL_isRead_457 (by decide) (fun c457 => ?_) (fun c457 => ?_)
        · skip
          rw [if_pos c457] at j457_0
          refine J_ldc (v := (-3000000 : Int32)) X dL_isRead_465 gw_4_72 ?_
          exact K457_467 _ j457_0.symm
        · skip
          rw [if_neg c457] at j457_0
          refine J_iload_13 X dL_isRead_460 ?_
          refine J_goto (tgt := 467) X dL_isRead_462 (by decide) ?_
          exact K457_467 _ j457_0.symm
      · skip
        rw [if_pos c317] at q_v
        rw [if_pos c317] at q_s
        rw [if_pos c317] at q_x
        refine J_bipush (v := (10 : Int32)) X dL_isRead_320 (by decide) ?_
        refine J_iload_11 X dL_isRead_322 ?_
        refine J_imul X dL_isRead_324 ?_
        refine J_istore_15 X dL_isRead_325 rfl (by decide) ?_
        have h9 := n9_eq
        have hml := vp_lt (R1_is (ξ := ξ) (two := two) hI h1 c235).2
        obtain ⟨K327, hK327⟩ : ∃ f : St → Int32, f = (fun s327 => (R1_j467x2 σ ξ one two s327)) := ⟨_, rfl⟩
        obtain ⟨K327s, hK327s⟩ : ∃ f : St → St, f = (fun s327 => (sS (sS (sS (sS s327 5 (ix (((3 : Int32) * (one - one / ((σ 7 (ix (4 : Int32))) + (1 : Int32)) * ((σ 7 (ix (4 : Int32))) + (1 : Int32)))) + (2 : Int32))) (9 : Int32)) 6 (ix (((10 : Int32) * (one - one / ((σ 7 (ix (4 : Int32))) + (1 : Int32)) * ((σ 7 (ix (4 : Int32))) + (1 : Int32)))) + (9 : Int32))) (s327 7 (ix (0 : Int32)))) 6 (ix (((20 : Int32) + ((10 : Int32) * (one - one / ((σ 7 (ix (4 : Int32))) + (1 : Int32)) * ((σ 7 (ix (4 : Int32))) + (1 : Int32))))) + (9 : Int32))) ((((((L_glow σ ((σ 5 (ix ((3 : Int32) * (one - one / ((σ 7 (ix (4 : Int32))) + (1 : Int32)) * ((σ 7 (ix (4 : Int32))) + (1 : Int32)))))) - (σ 5 (ix ((3 : Int32) * (one - one / ((σ 7 (ix (4 : Int32))) + (1 : Int32)) * ((σ 7 (ix (4 : Int32))) + (1 : Int32)))))) / (64 : Int32) * (64 : Int32)) (5 : Int32)) + (L_moon (σ 7 (ix (0 : Int32))))) + (20 : Int32)) + (((σ 5 (ix ((3 : Int32) * (one - one / ((σ 7 (ix (4 : Int32))) + (1 : Int32)) * ((σ 7 (ix (4 : Int32))) + (1 : Int32)))))) / (64 : Int32)) - ((σ 5 (ix ((3 : Int32) * (one - one / ((σ 7 (ix (4 : Int32))) + (1 : Int32)) * ((σ 7 (ix (4 : Int32))) + (1 : Int32)))))) / (64 : Int32)) / (128 : Int32) * (128 : Int32))) - (50 : Int32)) + ((((σ 5 (ix ((3 : Int32) * (one - one / ((σ 7 (ix (4 : Int32))) + (1 : Int32)) * ((σ 7 (ix (4 : Int32))) + (1 : Int32)))))) / (8192 : Int32)) - (3 : Int32)) * ((σ 7 (ix (0 : Int32))) / (24 : Int32))))) 5 (ix (((3 : Int32) * (one - one / ((σ 7 (ix (4 : Int32))) + (1 : Int32)) * ((σ 7 (ix (4 : Int32))) + (1 : Int32)))) + (2 : Int32))) ((9 : Int32) + (1 : Int32)))) := ⟨_, rfl⟩
        obtain ⟨K327x, hK327x⟩ : ∃ f : St → St, f = (fun s327 => (M_read_s ξ (one - one / ((σ 7 (ix (4 : Int32))) + (1 : Int32)) * ((σ 7 (ix (4 : Int32))) + (1 : Int32))))) := ⟨_, rfl⟩
        have X327 : ∀ (s327 : St) (h327_ : fH) (_ : True), LH (kca K) hx h327_ α s327 → (R1 σ ξ one two) = (R1_j467x2 σ ξ one two s327) → (R1_s σ ξ one two) = (sS (sS (sS (sS s327 5 (ix (((3 : Int32) * (one - one / ((σ 7 (ix (4 : Int32))) + (1 : Int32)) * ((σ 7 (ix (4 : Int32))) + (1 : Int32)))) + (2 : Int32))) (9 : Int32)) 6 (ix (((10 : Int32) * (one - one / ((σ 7 (ix (4 : Int32))) + (1 : Int32)) * ((σ 7 (ix (4 : Int32))) + (1 : Int32)))) + (9 : Int32))) (s327 7 (ix (0 : Int32)))) 6 (ix (((20 : Int32) + ((10 : Int32) * (one - one / ((σ 7 (ix (4 : Int32))) + (1 : Int32)) * ((σ 7 (ix (4 : Int32))) + (1 : Int32))))) + (9 : Int32))) ((((((L_glow σ ((σ 5 (ix ((3 : Int32) * (one - one / ((σ 7 (ix (4 : Int32))) + (1 : Int32)) * ((σ 7 (ix (4 : Int32))) + (1 : Int32)))))) - (σ 5 (ix ((3 : Int32) * (one - one / ((σ 7 (ix (4 : Int32))) + (1 : Int32)) * ((σ 7 (ix (4 : Int32))) + (1 : Int32)))))) / (64 : Int32) * (64 : Int32)) (5 : Int32)) + (L_moon (σ 7 (ix (0 : Int32))))) + (20 : Int32)) + (((σ 5 (ix ((3 : Int32) * (one - one / ((σ 7 (ix (4 : Int32))) + (1 : Int32)) * ((σ 7 (ix (4 : Int32))) + (1 : Int32)))))) / (64 : Int32)) - ((σ 5 (ix ((3 : Int32) * (one - one / ((σ 7 (ix (4 : Int32))) + (1 : Int32)) * ((σ 7 (ix (4 : Int32))) + (1 : Int32)))))) / (64 : Int32)) / (128 : Int32) * (128 : Int32))) - (50 : Int32)) + ((((σ 5 (ix ((3 : Int32) * (one - one / ((σ 7 (ix (4 : Int32))) + (1 : Int32)) * ((σ 7 (ix (4 : Int32))) + (1 : Int32)))))) / (8192 : Int32)) - (3 : Int32)) * ((σ 7 (ix (0 : Int32))) / (24 : Int32))))) 5 (ix (((3 : Int32) * (one - one / ((σ 7 (ix (4 : Int32))) + (1 : Int32)) * ((σ 7 (ix (4 : Int32))) + (1 : Int32)))) + (2 : Int32))) ((9 : Int32) + (1 : Int32))) → (R1_x σ ξ one two) = (M_read_s ξ (one - one / ((σ 7 (ix (4 : Int32))) + (1 : Int32)) * ((σ 7 (ix (4 : Int32))) + (1 : Int32)))) → J K h327_ [some (.ref r), some (.ref (α 0)), some (.ref (α 1)), some (.ref (α 2)), some (.ref (α 3)), some (.ref (α 5)), some (.ref (α 6)), some (.ref (α 7)), some (.int (1 : Int32)), some (.int one), some (.int two), some (.int (one - one / ((σ 7 (ix (4 : Int32))) + (1 : Int32)) * ((σ 7 (ix (4 : Int32))) + (1 : Int32)))), some (.int (R1_j214 σ ξ one two)), some (.int ((((((L_glow σ ((σ 5 (ix ((3 : Int32) * (one - one / ((σ 7 (ix (4 : Int32))) + (1 : Int32)) * ((σ 7 (ix (4 : Int32))) + (1 : Int32)))))) - (σ 5 (ix ((3 : Int32) * (one - one / ((σ 7 (ix (4 : Int32))) + (1 : Int32)) * ((σ 7 (ix (4 : Int32))) + (1 : Int32)))))) / (64 : Int32) * (64 : Int32)) (5 : Int32)) + (L_moon (σ 7 (ix (0 : Int32))))) + (20 : Int32)) + (((σ 5 (ix ((3 : Int32) * (one - one / ((σ 7 (ix (4 : Int32))) + (1 : Int32)) * ((σ 7 (ix (4 : Int32))) + (1 : Int32)))))) / (64 : Int32)) - ((σ 5 (ix ((3 : Int32) * (one - one / ((σ 7 (ix (4 : Int32))) + (1 : Int32)) * ((σ 7 (ix (4 : Int32))) + (1 : Int32)))))) / (64 : Int32)) / (128 : Int32) * (128 : Int32))) - (50 : Int32)) + ((((σ 5 (ix ((3 : Int32) * (one - one / ((σ 7 (ix (4 : Int32))) + (1 : Int32)) * ((σ 7 (ix (4 : Int32))) + (1 : Int32)))))) / (8192 : Int32)) - (3 : Int32)) * ((σ 7 (ix (0 : Int32))) / (24 : Int32))))), some (.int (σ 5 (ix ((3 : Int32) * (one - one / ((σ 7 (ix (4 : Int32))) + (1 : Int32)) * ((σ 7 (ix (4 : Int32))) + (1 : Int32))))))), none, none, none] [] 374 0 0 := by
          intro s327 h327_ _ hR327_ q_v q_s q_x
          refine J_aload_5 X dL_isRead_374 ?_
          refine J_iconst (v := 3) X dL_isRead_376 rfl ?_
          refine J_iload_11 X dL_isRead_377 ?_
          refine J_imul X dL_isRead_379 ?_
          refine J_iconst (v := 2) X dL_isRead_380 rfl ?_
          refine J_iadd X dL_isRead_381 ?_
          refine J_bipush (v := (9 : Int32)) X dL_isRead_382 (by decide) ?_
          refine JL_st X hR327_ 5 (by decide) (vp_up (vr_add (vr_mul (vp_in_nI (n := 3) (N := 4) (by decide) (by decide)) (R1_is (ξ := ξ) (two := two) hI h1 c235).2 (by decide)) (vp_in_nI (n := 2) (N := 3) (by decide) (by decide)) (by decide)) (by decide)) dL_isRead_384 (fun h16 hR16 => ?_)
          refine J_aload_6 X dL_isRead_385 ?_
          refine J_bipush (v := (10 : Int32)) X dL_isRead_387 (by decide) ?_
          refine J_iload_11 X dL_isRead_389 ?_
          refine J_imul X dL_isRead_391 ?_
          refine J_aload_5 X dL_isRead_392 ?_
          refine J_iconst (v := 3) X dL_isRead_394 rfl ?_
          refine J_iload_11 X dL_isRead_395 ?_
          refine J_imul X dL_isRead_397 ?_
          refine J_iconst (v := 2) X dL_isRead_398 rfl ?_
          refine J_iadd X dL_isRead_399 ?_
          refine JL_lv X hR16.la 5 (by decide) (vp_up (vr_add (vr_mul (vp_in_nI (n := 3) (N := 4) (by decide) (by decide)) (R1_is (ξ := ξ) (two := two) hI h1 c235).2 (by decide)) (vp_in_nI (n := 2) (N := 3) (by decide) (by decide)) (by decide)) (by decide)) (v := (9 : Int32)) (by rw [sS_same]) dL_isRead_400 ?_
          refine J_iadd X dL_isRead_401 ?_
          refine J_aload_7 X dL_isRead_402 ?_
          refine J_iconst (v := 0) X dL_isRead_404 rfl ?_
          refine JL_lv X hR16.la 7 (by decide) (vp_up (vp_in_nI (n := 0) (N := 1) (by decide) (by decide)) (by decide)) (v := (s327 7 (ix (0 : Int32)))) (by rw [sS_col (by decide)]) dL_isRead_405 ?_
          refine JL_st X hR16 6 (by decide) (vp_up (vr_add (vr_mul (vp_in_nI (n := 10) (N := 11) (by decide) (by decide)) (R1_is (ξ := ξ) (two := two) hI h1 c235).2 (by decide)) (vp_in_nI (n := 9) (N := 10) (by decide) (by decide)) (by decide)) (by decide)) dL_isRead_406 (fun h17 hR17 => ?_)
          refine J_aload_6 X dL_isRead_407 ?_
          refine J_bipush (v := (20 : Int32)) X dL_isRead_409 (by decide) ?_
          refine J_bipush (v := (10 : Int32)) X dL_isRead_411 (by decide) ?_
          refine J_iload_11 X dL_isRead_413 ?_
          refine J_imul X dL_isRead_415 ?_
          refine J_iadd X dL_isRead_416 ?_
          refine J_aload_5 X dL_isRead_417 ?_
          refine J_iconst (v := 3) X dL_isRead_419 rfl ?_
          refine J_iload_11 X dL_isRead_420 ?_
          refine J_imul X dL_isRead_422 ?_
          refine J_iconst (v := 2) X dL_isRead_423 rfl ?_
          refine J_iadd X dL_isRead_424 ?_
          refine JL_lv X hR17.la 5 (by decide) (vp_up (vr_add (vr_mul (vp_in_nI (n := 3) (N := 4) (by decide) (by decide)) (R1_is (ξ := ξ) (two := two) hI h1 c235).2 (by decide)) (vp_in_nI (n := 2) (N := 3) (by decide) (by decide)) (by decide)) (by decide)) (v := (9 : Int32)) (by rw [sS_col (by decide), sS_same]) dL_isRead_425 ?_
          refine J_iadd X dL_isRead_426 ?_
          refine J_iload_13 X dL_isRead_427 ?_
          refine JL_st X hR17 6 (by decide) (vp_up (vr_add (vr_add (vp_in_nI (n := 20) (N := 21) (by decide) (by decide)) (vr_mul (vp_in_nI (n := 10) (N := 11) (by decide) (by decide)) (R1_is (ξ := ξ) (two := two) hI h1 c235).2 (by decide)) (by decide)) (vp_in_nI (n := 9) (N := 10) (by decide) (by decide)) (by decide)) (by decide)) dL_isRead_429 (fun h18 hR18 => ?_)
          refine J_aload_5 X dL_isRead_430 ?_
          refine J_iconst (v := 3) X dL_isRead_432 rfl ?_
          refine J_iload_11 X dL_isRead_433 ?_
          refine J_imul X dL_isRead_435 ?_
          refine J_iconst (v := 2) X dL_isRead_436 rfl ?_
          refine J_iadd X dL_isRead_437 ?_
          refine J_dup2 X dL_isRead_438 rfl rfl ?_
          refine JL_lv X hR18.la 5 (by decide) (vp_up (vr_add (vr_mul (vp_in_nI (n := 3) (N := 4) (by decide) (by decide)) (R1_is (ξ := ξ) (two := two) hI h1 c235).2 (by decide)) (vp_in_nI (n := 2) (N := 3) (by decide) (by decide)) (by decide)) (by decide)) (v := (9 : Int32)) (by rw [sS_col (by decide), sS_col (by decide), sS_same]) dL_isRead_439 ?_
          refine J_iconst (v := 1) X dL_isRead_440 rfl ?_
          refine J_iadd X dL_isRead_441 ?_
          refine JL_st X hR18 5 (by decide) (vp_up (vr_add (vr_mul (vp_in_nI (n := 3) (N := 4) (by decide) (by decide)) (R1_is (ξ := ξ) (two := two) hI h1 c235).2 (by decide)) (vp_in_nI (n := 2) (N := 3) (by decide) (by decide)) (by decide)) (by decide)) dL_isRead_442 (fun h19 hR19 => ?_)
          refine J_aload_0 X dL_isRead_443 ?_
          refine J_bipush (v := (12 : Int32)) X dL_isRead_444 (by decide) ?_
          refine J_iload_11 X dL_isRead_446 ?_
          refine J_iconst (v := 0) X dL_isRead_448 rfl ?_
          refine J_iconst (v := 0) X dL_isRead_449 rfl ?_
          refine J_iconst (v := 0) X dL_isRead_450 rfl ?_
          refine J_iconst (v := 0) X dL_isRead_451 rfl ?_
          obtain ⟨la, eh, hap, hLA, hα⟩ := hR19
          subst eh
          refine J_callSW X ((c_D_12 hX hIX hIO (one - one / ((σ 7 (ix (4 : Int32))) + (1 : Int32)) * ((σ 7 (ix (4 : Int32))) + (1 : Int32))) (0 : Int32) (0 : Int32) (0 : Int32) (0 : Int32)).frame hap) (And.intro gw_2_177 cw_L_does) rfl rfl (Nat.le_of_ble_eq_true rfl) dL_isRead_452 rfl (fun v h20 e => ?_) (fun E h20 e => by obtain ⟨_, q, _⟩ := e; exact q.elim)
          obtain ⟨hx20, ⟨e0, hX20⟩, hap20, eh⟩ := e
          subst e0
          subst eh
          have hR20 : LH (kca K) hx20 (un hx20 la) α (sS (sS (sS (sS s327 5 (ix (((3 : Int32) * (one - one / ((σ 7 (ix (4 : Int32))) + (1 : Int32)) * ((σ 7 (ix (4 : Int32))) + (1 : Int32)))) + (2 : Int32))) (9 : Int32)) 6 (ix (((10 : Int32) * (one - one / ((σ 7 (ix (4 : Int32))) + (1 : Int32)) * ((σ 7 (ix (4 : Int32))) + (1 : Int32)))) + (9 : Int32))) (s327 7 (ix (0 : Int32)))) 6 (ix (((20 : Int32) + ((10 : Int32) * (one - one / ((σ 7 (ix (4 : Int32))) + (1 : Int32)) * ((σ 7 (ix (4 : Int32))) + (1 : Int32))))) + (9 : Int32))) ((((((L_glow σ ((σ 5 (ix ((3 : Int32) * (one - one / ((σ 7 (ix (4 : Int32))) + (1 : Int32)) * ((σ 7 (ix (4 : Int32))) + (1 : Int32)))))) - (σ 5 (ix ((3 : Int32) * (one - one / ((σ 7 (ix (4 : Int32))) + (1 : Int32)) * ((σ 7 (ix (4 : Int32))) + (1 : Int32)))))) / (64 : Int32) * (64 : Int32)) (5 : Int32)) + (L_moon (σ 7 (ix (0 : Int32))))) + (20 : Int32)) + (((σ 5 (ix ((3 : Int32) * (one - one / ((σ 7 (ix (4 : Int32))) + (1 : Int32)) * ((σ 7 (ix (4 : Int32))) + (1 : Int32)))))) / (64 : Int32)) - ((σ 5 (ix ((3 : Int32) * (one - one / ((σ 7 (ix (4 : Int32))) + (1 : Int32)) * ((σ 7 (ix (4 : Int32))) + (1 : Int32)))))) / (64 : Int32)) / (128 : Int32) * (128 : Int32))) - (50 : Int32)) + ((((σ 5 (ix ((3 : Int32) * (one - one / ((σ 7 (ix (4 : Int32))) + (1 : Int32)) * ((σ 7 (ix (4 : Int32))) + (1 : Int32)))))) / (8192 : Int32)) - (3 : Int32)) * ((σ 7 (ix (0 : Int32))) / (24 : Int32))))) 5 (ix (((3 : Int32) * (one - one / ((σ 7 (ix (4 : Int32))) + (1 : Int32)) * ((σ 7 (ix (4 : Int32))) + (1 : Int32)))) + (2 : Int32))) ((9 : Int32) + (1 : Int32))) := ⟨la, rfl, hap20, hLA, hα⟩
          show J K (un hx20 la) [some (.ref r), some (.ref (α 0)), some (.ref (α 1)), some (.ref (α 2)), some (.ref (α 3)), some (.ref (α 5)), some (.ref (α 6)), some (.ref (α 7)), some (.int (1 : Int32)), some (.int one), some (.int two), some (.int (one - one / ((σ 7 (ix (4 : Int32))) + (1 : Int32)) * ((σ 7 (ix (4 : Int32))) + (1 : Int32)))), some (.int (R1_j214 σ ξ one two)), some (.int ((((((L_glow σ ((σ 5 (ix ((3 : Int32) * (one - one / ((σ 7 (ix (4 : Int32))) + (1 : Int32)) * ((σ 7 (ix (4 : Int32))) + (1 : Int32)))))) - (σ 5 (ix ((3 : Int32) * (one - one / ((σ 7 (ix (4 : Int32))) + (1 : Int32)) * ((σ 7 (ix (4 : Int32))) + (1 : Int32)))))) / (64 : Int32) * (64 : Int32)) (5 : Int32)) + (L_moon (σ 7 (ix (0 : Int32))))) + (20 : Int32)) + (((σ 5 (ix ((3 : Int32) * (one - one / ((σ 7 (ix (4 : Int32))) + (1 : Int32)) * ((σ 7 (ix (4 : Int32))) + (1 : Int32)))))) / (64 : Int32)) - ((σ 5 (ix ((3 : Int32) * (one - one / ((σ 7 (ix (4 : Int32))) + (1 : Int32)) * ((σ 7 (ix (4 : Int32))) + (1 : Int32)))))) / (64 : Int32)) / (128 : Int32) * (128 : Int32))) - (50 : Int32)) + ((((σ 5 (ix ((3 : Int32) * (one - one / ((σ 7 (ix (4 : Int32))) + (1 : Int32)) * ((σ 7 (ix (4 : Int32))) + (1 : Int32)))))) / (8192 : Int32)) - (3 : Int32)) * ((σ 7 (ix (0 : Int32))) / (24 : Int32))))), some (.int (σ 5 (ix ((3 : Int32) * (one - one / ((σ 7 (ix (4 : Int32))) + (1 : Int32)) * ((σ 7 (ix (4 : Int32))) + (1 : Int32))))))), none, none, none] [.int (DV_12 ξ (one - one / ((σ 7 (ix (4 : Int32))) + (1 : Int32)) * ((σ 7 (ix (4 : Int32))) + (1 : Int32))))] 455 3 108
          refine J_iload_12 X dL_isRead_455 ?_
          have K457_467 : ∀ (v457_0 : Int32), v457_0 = (R1_j457x2 σ ξ one two s327) → J K (un hx20 la) [some (.ref r), some (.ref (α 0)), some (.ref (α 1)), some (.ref (α 2)), some (.ref (α 3)), some (.ref (α 5)), some (.ref (α 6)), some (.ref (α 7)), some (.int (1 : Int32)), some (.int one), some (.int two), some (.int (one - one / ((σ 7 (ix (4 : Int32))) + (1 : Int32)) * ((σ 7 (ix (4 : Int32))) + (1 : Int32)))), some (.int (R1_j214 σ ξ one two)), some (.int ((((((L_glow σ ((σ 5 (ix ((3 : Int32) * (one - one / ((σ 7 (ix (4 : Int32))) + (1 : Int32)) * ((σ 7 (ix (4 : Int32))) + (1 : Int32)))))) - (σ 5 (ix ((3 : Int32) * (one - one / ((σ 7 (ix (4 : Int32))) + (1 : Int32)) * ((σ 7 (ix (4 : Int32))) + (1 : Int32)))))) / (64 : Int32) * (64 : Int32)) (5 : Int32)) + (L_moon (σ 7 (ix (0 : Int32))))) + (20 : Int32)) + (((σ 5 (ix ((3 : Int32) * (one - one / ((σ 7 (ix (4 : Int32))) + (1 : Int32)) * ((σ 7 (ix (4 : Int32))) + (1 : Int32)))))) / (64 : Int32)) - ((σ 5 (ix ((3 : Int32) * (one - one / ((σ 7 (ix (4 : Int32))) + (1 : Int32)) * ((σ 7 (ix (4 : Int32))) + (1 : Int32)))))) / (64 : Int32)) / (128 : Int32) * (128 : Int32))) - (50 : Int32)) + ((((σ 5 (ix ((3 : Int32) * (one - one / ((σ 7 (ix (4 : Int32))) + (1 : Int32)) * ((σ 7 (ix (4 : Int32))) + (1 : Int32)))))) / (8192 : Int32)) - (3 : Int32)) * ((σ 7 (ix (0 : Int32))) / (24 : Int32))))), some (.int (σ 5 (ix ((3 : Int32) * (one - one / ((σ 7 (ix (4 : Int32))) + (1 : Int32)) * ((σ 7 (ix (4 : Int32))) + (1 : Int32))))))), none, none, none] [.int v457_0, .int (DV_12 ξ (one - one / ((σ 7 (ix (4 : Int32))) + (1 : Int32)) * ((σ 7 (ix (4 : Int32))) + (1 : Int32))))] 467 3 108 := by
            intro v457_0 ev457_0
            try rw [ev457_0]
            clear ev457_0
            have K467_475 : ∀ (v467_0 : Int32), v467_0 = (R1_j467x2 σ ξ one two s327) → J K (un hx20 la) [some (.ref r), some (.ref (α 0)), some (.ref (α 1)), some (.ref (α 2)), some (.ref (α 3)), some (.ref (α 5)), some (.ref (α 6)), some (.ref (α 7)), some (.int (1 : Int32)), some (.int one), some (.int two), some (.int (one - one / ((σ 7 (ix (4 : Int32))) + (1 : Int32)) * ((σ 7 (ix (4 : Int32))) + (1 : Int32)))), some (.int (R1_j214 σ ξ one two)), some (.int ((((((L_glow σ ((σ 5 (ix ((3 : Int32) * (one - one / ((σ 7 (ix (4 : Int32))) + (1 : Int32)) * ((σ 7 (ix (4 : Int32))) + (1 : Int32)))))) - (σ 5 (ix ((3 : Int32) * (one - one / ((σ 7 (ix (4 : Int32))) + (1 : Int32)) * ((σ 7 (ix (4 : Int32))) + (1 : Int32)))))) / (64 : Int32) * (64 : Int32)) (5 : Int32)) + (L_moon (σ 7 (ix (0 : Int32))))) + (20 : Int32)) + (((σ 5 (ix ((3 : Int32) * (one - one / ((σ 7 (ix (4 : Int32))) + (1 : Int32)) * ((σ 7 (ix (4 : Int32))) + (1 : Int32)))))) / (64 : Int32)) - ((σ 5 (ix ((3 : Int32) * (one - one / ((σ 7 (ix (4 : Int32))) + (1 : Int32)) * ((σ 7 (ix (4 : Int32))) + (1 : Int32)))))) / (64 : Int32)) / (128 : Int32) * (128 : Int32))) - (50 : Int32)) + ((((σ 5 (ix ((3 : Int32) * (one - one / ((σ 7 (ix (4 : Int32))) + (1 : Int32)) * ((σ 7 (ix (4 : Int32))) + (1 : Int32)))))) / (8192 : Int32)) - (3 : Int32)) * ((σ 7 (ix (0 : Int32))) / (24 : Int32))))), some (.int (σ 5 (ix ((3 : Int32) * (one - one / ((σ 7 (ix (4 : Int32))) + (1 : Int32)) * ((σ 7 (ix (4 : Int32))) + (1 : Int32))))))), none, none, none] [.int v467_0] 475 3 108 := by
              intro v467_0 ev467_0
              try rw [ev467_0]
              clear ev467_0
              exact J_zret X rfl (R1_j467x2_b ..) rfl ⟨by rw [q_v], hx20, by rw [q_s]; exact hR20, by rw [q_x]; exact hX20⟩ dL_isRead_475
            have j467_0 : R1_j467x2 σ ξ one two s327 = (if (DV_12 ξ (one - one / ((σ 7 (ix (4 : Int32))) + (1 : Int32)) * ((σ 7 (ix (4 : Int32))) + (1 : Int32)))) = (R1_j457x2 σ ξ one two s327) then (1 : Int32) else (0 : Int32)) := rfl
            refine J_icmp_ne (tgt := 474) X dL_isRead_467 (by decide) (fun c467 => ?_) (fun c467 => ?_)
            · skip
              rw [if_neg c467] at j467_0
              refine J_iconst (v := 0) X dL_isRead_474 rfl ?_
              exact K467_475 _ j467_0.symm
            · skip
              rw [if_pos c467] at j467_0
              refine J_iconst (v := 1) X dL_isRead_470 rfl ?_
              refine J_goto (tgt := 475) X dL_isRead_471 (by decide) ?_
              exact K467_475 _ j467_0.symm
          have j457_0 : R1_j457x2 σ ξ one two s327 = (if (R1_j214 σ ξ one two) = (0 : Int32) then (-3000000 : Int32) else ((((((L_glow σ ((σ 5 (ix ((3 : Int32) * (one - one / ((σ 7 (ix (4 : Int32))) + (1 : Int32)) * ((σ 7 (ix (4 : Int32))) + (1 : Int32)))))) - (σ 5 (ix ((3 : Int32) * (one - one / ((σ 7 (ix (4 : Int32))) + (1 : Int32)) * ((σ 7 (ix (4 : Int32))) + (1 : Int32)))))) / (64 : Int32) * (64 : Int32)) (5 : Int32)) + (L_moon (σ 7 (ix (0 : Int32))))) + (20 : Int32)) + (((σ 5 (ix ((3 : Int32) * (one - one / ((σ 7 (ix (4 : Int32))) + (1 : Int32)) * ((σ 7 (ix (4 : Int32))) + (1 : Int32)))))) / (64 : Int32)) - ((σ 5 (ix ((3 : Int32) * (one - one / ((σ 7 (ix (4 : Int32))) + (1 : Int32)) * ((σ 7 (ix (4 : Int32))) + (1 : Int32)))))) / (64 : Int32)) / (128 : Int32) * (128 : Int32))) - (50 : Int32)) + ((((σ 5 (ix ((3 : Int32) * (one - one / ((σ 7 (ix (4 : Int32))) + (1 : Int32)) * ((σ 7 (ix (4 : Int32))) + (1 : Int32)))))) / (8192 : Int32)) - (3 : Int32)) * ((σ 7 (ix (0 : Int32))) / (24 : Int32))))) := rfl
          refine J_if_eq (tgt := 465) X dL_isRead_457 (by decide) (fun c457 => ?_) (fun c457 => ?_)
          · skip
            rw [if_pos c457] at j457_0
            refine J_ldc (v := (-3000000 : Int32)) X dL_isRead_465 gw_4_72 ?_
            exact K457_467 _ j457_0.symm
          · skip
            rw [if_neg c457] at j457_0
            refine J_iload_13 X dL_isRead_460 ?_
            refine J_goto (tgt := 467) X dL_isRead_462 (by decide) ?_
            exact K457_467 _ j457_0.symm
        have L327 : ∀ (n327 k327 : Nat) (s327 : St) (h327_ : fH), k327 + n327 = (10 * ix (one - one / ((σ 7 (ix (4 : Int32))) + (1 : Int32)) * ((σ 7 (ix (4 : Int32))) + (1 : Int32))) + 9) → LH (kca K) hx h327_ α s327 → (R1 σ ξ one two) = (R1_L327 σ ξ one two K327 n327 k327 s327) → (R1_s σ ξ one two) = (R1_L327_s σ ξ one two K327s n327 k327 s327) → (R1_x σ ξ one two) = (R1_L327_x σ ξ one two K327x n327 k327 s327) → J K h327_ [some (.ref r), some (.ref (α 0)), some (.ref (α 1)), some (.ref (α 2)), some (.ref (α 3)), some (.ref (α 5)), some (.ref (α 6)), some (.ref (α 7)), some (.int (1 : Int32)), some (.int one), some (.int two), some (.int (one - one / ((σ 7 (ix (4 : Int32))) + (1 : Int32)) * ((σ 7 (ix (4 : Int32))) + (1 : Int32)))), some (.int (R1_j214 σ ξ one two)), some (.int ((((((L_glow σ ((σ 5 (ix ((3 : Int32) * (one - one / ((σ 7 (ix (4 : Int32))) + (1 : Int32)) * ((σ 7 (ix (4 : Int32))) + (1 : Int32)))))) - (σ 5 (ix ((3 : Int32) * (one - one / ((σ 7 (ix (4 : Int32))) + (1 : Int32)) * ((σ 7 (ix (4 : Int32))) + (1 : Int32)))))) / (64 : Int32) * (64 : Int32)) (5 : Int32)) + (L_moon (σ 7 (ix (0 : Int32))))) + (20 : Int32)) + (((σ 5 (ix ((3 : Int32) * (one - one / ((σ 7 (ix (4 : Int32))) + (1 : Int32)) * ((σ 7 (ix (4 : Int32))) + (1 : Int32)))))) / (64 : Int32)) - ((σ 5 (ix ((3 : Int32) * (one - one / ((σ 7 (ix (4 : Int32))) + (1 : Int32)) * ((σ 7 (ix (4 : Int32))) + (1 : Int32)))))) / (64 : Int32)) / (128 : Int32) * (128 : Int32))) - (50 : Int32)) + ((((σ 5 (ix ((3 : Int32) * (one - one / ((σ 7 (ix (4 : Int32))) + (1 : Int32)) * ((σ 7 (ix (4 : Int32))) + (1 : Int32)))))) / (8192 : Int32)) - (3 : Int32)) * ((σ 7 (ix (0 : Int32))) / (24 : Int32))))), some (.int (σ 5 (ix ((3 : Int32) * (one - one / ((σ 7 (ix (4 : Int32))) + (1 : Int32)) * ((σ 7 (ix (4 : Int32))) + (1 : Int32))))))), some (.int (nI k327)), none, none] [] 327 0 0 := by
          intro n327
          induction n327 with
          | zero =>
            intro k327 s327 h327_ hk327 hR327_ q_v q_s q_x
            rw [R1_L327] at q_v
            rw [R1_L327_s] at q_s
            rw [R1_L327_x] at q_x
            refine J_iload_15 X dL_isRead_327 ?_
            refine J_bipush (v := (10 : Int32)) X dL_isRead_329 (by decide) ?_
            refine J_iload_11 X dL_isRead_331 ?_
            refine J_imul X dL_isRead_333 ?_
            refine J_bipush (v := (9 : Int32)) X dL_isRead_334 (by decide) ?_
            refine J_iadd X dL_isRead_336 ?_
            refine J_icmp_ge (tgt := 374) X dL_isRead_337 (by decide) (fun _ => ?_) (fun c => absurd (lp_exit (by rw [R1_ra (R1_is (ξ := ξ) (two := two) hI h1 c235).2, show (9 : Int32) = nI 9 from rfl, nI_add]) (by omega) hk327) c)
            rw [hK327] at q_v
            rw [hK327s] at q_s
            rw [hK327x] at q_x
            refine J.subL (lv' := [some (.ref r), some (.ref (α 0)), some (.ref (α 1)), some (.ref (α 2)), some (.ref (α 3)), some (.ref (α 5)), some (.ref (α 6)), some (.ref (α 7)), some (.int (1 : Int32)), some (.int one), some (.int two), some (.int (one - one / ((σ 7 (ix (4 : Int32))) + (1 : Int32)) * ((σ 7 (ix (4 : Int32))) + (1 : Int32)))), some (.int (R1_j214 σ ξ one two)), some (.int ((((((L_glow σ ((σ 5 (ix ((3 : Int32) * (one - one / ((σ 7 (ix (4 : Int32))) + (1 : Int32)) * ((σ 7 (ix (4 : Int32))) + (1 : Int32)))))) - (σ 5 (ix ((3 : Int32) * (one - one / ((σ 7 (ix (4 : Int32))) + (1 : Int32)) * ((σ 7 (ix (4 : Int32))) + (1 : Int32)))))) / (64 : Int32) * (64 : Int32)) (5 : Int32)) + (L_moon (σ 7 (ix (0 : Int32))))) + (20 : Int32)) + (((σ 5 (ix ((3 : Int32) * (one - one / ((σ 7 (ix (4 : Int32))) + (1 : Int32)) * ((σ 7 (ix (4 : Int32))) + (1 : Int32)))))) / (64 : Int32)) - ((σ 5 (ix ((3 : Int32) * (one - one / ((σ 7 (ix (4 : Int32))) + (1 : Int32)) * ((σ 7 (ix (4 : Int32))) + (1 : Int32)))))) / (64 : Int32)) / (128 : Int32) * (128 : Int32))) - (50 : Int32)) + ((((σ 5 (ix ((3 : Int32) * (one - one / ((σ 7 (ix (4 : Int32))) + (1 : Int32)) * ((σ 7 (ix (4 : Int32))) + (1 : Int32)))))) / (8192 : Int32)) - (3 : Int32)) * ((σ 7 (ix (0 : Int32))) / (24 : Int32))))), some (.int (σ 5 (ix ((3 : Int32) * (one - one / ((σ 7 (ix (4 : Int32))) + (1 : Int32)) * ((σ 7 (ix (4 : Int32))) + (1 : Int32))))))), none, none, none]) (And.intro rfl (And.intro rfl (And.intro rfl (And.intro rfl (And.intro rfl (And.intro rfl (And.intro rfl (And.intro rfl (And.intro rfl (And.intro rfl (And.intro rfl (And.intro rfl (And.intro rfl (And.intro rfl (And.intro rfl trivial))))))))))))))) ?_
            exact X327 s327 h327_ trivial hR327_ q_v q_s q_x
          | succ n327 ih327 =>
            intro k327 s327 h327_ hk327 hR327_ q_v q_s q_x
            rw [R1_L327] at q_v
            rw [R1_L327_s] at q_s
            rw [R1_L327_x] at q_x
            have hlt327 : k327 < (10 * ix (one - one / ((σ 7 (ix (4 : Int32))) + (1 : Int32)) * ((σ 7 (ix (4 : Int32))) + (1 : Int32))) + 9) := by omega
            refine J_iload_15 X dL_isRead_327 ?_
            refine J_bipush (v := (10 : Int32)) X dL_isRead_329 (by decide) ?_
            refine J_iload_11 X dL_isRead_331 ?_
            refine J_imul X dL_isRead_333 ?_
            refine J_bipush (v := (9 : Int32)) X dL_isRead_334 (by decide) ?_
            refine J_iadd X dL_isRead_336 ?_
            refine J_icmp_ge (tgt := 374) X dL_isRead_337 (by decide) (fun c => absurd c (lp_stay (by rw [R1_ra (R1_is (ξ := ξ) (two := two) hI h1 c235).2, show (9 : Int32) = nI 9 from rfl, nI_add]) (by omega) hk327)) (fun _ => ?_)
            refine J_aload_6 X dL_isRead_340 ?_
            refine J_iload_15 X dL_isRead_342 ?_
            refine J_aload_6 X dL_isRead_344 ?_
            refine J_iload_15 X dL_isRead_346 ?_
            refine J_iconst (v := 1) X dL_isRead_348 rfl ?_
            refine J_iadd X dL_isRead_349 ?_
            refine JL_ld X hR327_.la 6 (by decide) (vp_up (vr_add (vp_in_nI (n := k327) (N := 19) (by have := vp_lt (R1_is (ξ := ξ) (two := two) hI h1 c235).2; omega) (by decide)) (vp_in_nI (n := 1) (N := 2) (by decide) (by decide)) (by decide)) (by decide)) dL_isRead_350 ?_
            refine JL_st X hR327_ 6 (by decide) (vp_up (vp_in_nI (n := k327) (N := 19) (by have := vp_lt (R1_is (ξ := ξ) (two := two) hI h1 c235).2; omega) (by decide)) (by decide)) dL_isRead_351 (fun h21 hR21 => ?_)
            refine J_aload_6 X dL_isRead_352 ?_
            refine J_bipush (v := (20 : Int32)) X dL_isRead_354 (by decide) ?_
            refine J_iload_15 X dL_isRead_356 ?_
            refine J_iadd X dL_isRead_358 ?_
            refine J_aload_6 X dL_isRead_359 ?_
            refine J_bipush (v := (21 : Int32)) X dL_isRead_361 (by decide) ?_
            refine J_iload_15 X dL_isRead_363 ?_
            refine J_iadd X dL_isRead_365 ?_
            refine JL_ld X hR21.la 6 (by decide) (vp_up (vr_add (vp_in_nI (n := 21) (N := 22) (by decide) (by decide)) (vp_in_nI (n := k327) (N := 19) (by have := vp_lt (R1_is (ξ := ξ) (two := two) hI h1 c235).2; omega) (by decide)) (by decide)) (by decide)) dL_isRead_366 ?_
            refine JL_st X hR21 6 (by decide) (vp_up (vr_add (vp_in_nI (n := 20) (N := 21) (by decide) (by decide)) (vp_in_nI (n := k327) (N := 19) (by have := vp_lt (R1_is (ξ := ξ) (two := two) hI h1 c235).2; omega) (by decide)) (by decide)) (by decide)) dL_isRead_367 (fun h22 hR22 => ?_)
            refine J_iinc_15 (v := (nI (k327 + 1))) X dL_isRead_368 (nI_1 _) rfl (by decide) ?_
            refine J_goto (tgt := 327) X dL_isRead_371 (by decide) ?_
            exact ih327 (k327 + 1) (sS (sS s327 6 (ix (nI k327)) (s327 6 (ix ((nI k327) + (1 : Int32))))) 6 (ix ((20 : Int32) + (nI k327))) ((sS s327 6 (ix (nI k327)) (s327 6 (ix ((nI k327) + (1 : Int32))))) 6 (ix ((21 : Int32) + (nI k327))))) h22 (by omega) hR22 q_v q_s q_x
        have q_v : (R1 σ ξ one two) = (R1_L327 σ ξ one two K327 n9 (10 * ix (one - one / ((σ 7 (ix (4 : Int32))) + (1 : Int32)) * ((σ 7 (ix (4 : Int32))) + (1 : Int32)))) σ) := by rw [hK327]; exact q_v
        have q_s : (R1_s σ ξ one two) = (R1_L327_s σ ξ one two K327s n9 (10 * ix (one - one / ((σ 7 (ix (4 : Int32))) + (1 : Int32)) * ((σ 7 (ix (4 : Int32))) + (1 : Int32)))) σ) := by rw [hK327s]; exact q_s
        have q_x : (R1_x σ ξ one two) = (R1_L327_x σ ξ one two K327x n9 (10 * ix (one - one / ((σ 7 (ix (4 : Int32))) + (1 : Int32)) * ((σ 7 (ix (4 : Int32))) + (1 : Int32)))) σ) := by rw [hK327x]; exact q_x
        have ec327 : ((10 : Int32) * (one - one / ((σ 7 (ix (4 : Int32))) + (1 : Int32)) * ((σ 7 (ix (4 : Int32))) + (1 : Int32)))) = nI (10 * ix (one - one / ((σ 7 (ix (4 : Int32))) + (1 : Int32)) * ((σ 7 (ix (4 : Int32))) + (1 : Int32)))) := (R1_ra (R1_is (ξ := ξ) (two := two) hI h1 c235).2)
        have z327 := L327 n9 (10 * ix (one - one / ((σ 7 (ix (4 : Int32))) + (1 : Int32)) * ((σ 7 (ix (4 : Int32))) + (1 : Int32)))) σ h (by omega) hL q_v q_s q_x
        rw [← ec327] at z327
        exact z327
  have j214_0 : R1_j214 σ ξ one two = (if (σ 7 (ix (4 : Int32))) ≤ (one - one / ((σ 7 (ix (4 : Int32))) + (1 : Int32)) * ((σ 7 (ix (4 : Int32))) + (1 : Int32))) then (0 : Int32) else (1 : Int32)) := rfl
  refine J_icmp_ge (tgt := 221) X dL_isRead_214 (by decide) (fun c214 => ?_) (fun c214 => ?_)
  · skip
    rw [if_pos c214] at j214_0
    refine J_iconst (v := 0) X dL_isRead_221 rfl ?_
    exact K214_222 _ j214_0.symm
  · skip
    rw [if_neg c214] at j214_0
    refine J_iconst (v := 1) X dL_isRead_217 rfl ?_
    refine J_goto (tgt := 222) X dL_isRead_218 (by decide) ?_
    exact K214_222 _ j214_0.symm
def R2_j214 (σ : St) (ξ : St) (one : Int32) (two : Int32) : Int32 := (if (σ 7 (ix (4 : Int32))) ≤ (one - one / ((σ 7 (ix (4 : Int32))) + (1 : Int32)) * ((σ 7 (ix (4 : Int32))) + (1 : Int32))) then (0 : Int32) else (1 : Int32))
theorem R2_j214_b (σ : St) (ξ : St) (one : Int32) (two : Int32) : R2_j214 σ ξ one two = 0 ∨ R2_j214 σ ξ one two = 1 := by
  unfold R2_j214
  (repeat' split) <;> first | exact Or.inl (by with_reducible rfl) | exact Or.inr (by with_reducible rfl)
def R2_j489 (σ : St) (ξ : St) (one : Int32) (two : Int32) : Int32 := (if (two - two / (13 : Int32) * (13 : Int32)) = (12 : Int32) then (5001 : Int32) else ((two - two / (400 : Int32) * (400 : Int32)) - (200 : Int32)))
def R2_j512 (σ : St) (ξ : St) (one : Int32) (two : Int32) : Int32 := (if (R2_j214 σ ξ one two) = (0 : Int32) then (0 : Int32) else (σ 5 (ix (((3 : Int32) * (one - one / ((σ 7 (ix (4 : Int32))) + (1 : Int32)) * ((σ 7 (ix (4 : Int32))) + (1 : Int32)))) + (1 : Int32)))))
def R2_j532_s (σ : St) (ξ : St) (one : Int32) (two : Int32) : St := (if (R2_j214 σ ξ one two) = (0 : Int32) then σ else (if (5001 : Int32) ≤ (R2_j489 σ ξ one two) then σ else (sS σ 5 (ix (((3 : Int32) * (one - one / ((σ 7 (ix (4 : Int32))) + (1 : Int32)) * ((σ 7 (ix (4 : Int32))) + (1 : Int32)))) + (1 : Int32))) (R2_j489 σ ξ one two))))
def R2_j569 (σ : St) (ξ : St) (one : Int32) (two : Int32) : Int32 := (if (R2_j214 σ ξ one two) = (0 : Int32) then (-3000000 : Int32) else (if (5001 : Int32) ≤ (R2_j489 σ ξ one two) then (-2000000 : Int32) else (R2_j512 σ ξ one two)))
def R2_j592 (σ : St) (ξ : St) (one : Int32) (two : Int32) : Int32 := (if (DV_13 ξ (one - one / ((σ 7 (ix (4 : Int32))) + (1 : Int32)) * ((σ 7 (ix (4 : Int32))) + (1 : Int32))) (R2_j489 σ ξ one two)) = (R2_j569 σ ξ one two) then (1 : Int32) else (0 : Int32))
theorem R2_j592_b (σ : St) (ξ : St) (one : Int32) (two : Int32) : R2_j592 σ ξ one two = 0 ∨ R2_j592 σ ξ one two = 1 := by
  unfold R2_j592
  (repeat' split) <;> first | exact Or.inl (by with_reducible rfl) | exact Or.inr (by with_reducible rfl)
def R2 (σ : St) (ξ : St) (one : Int32) (two : Int32) : Int32 := (R2_j592 σ ξ one two)
def R2_s (σ : St) (ξ : St) (one : Int32) (two : Int32) : St := (R2_j532_s σ ξ one two)
def R2_x (σ : St) (ξ : St) (one : Int32) (two : Int32) : St := (M_tell_s ξ (one - one / ((σ 7 (ix (4 : Int32))) + (1 : Int32)) * ((σ 7 (ix (4 : Int32))) + (1 : Int32))) (R2_j489 σ ξ one two))
theorem R2_b (σ : St) (ξ : St) (one : Int32) (two : Int32) : (R2 σ ξ one two) = 0 ∨ (R2 σ ξ one two) = 1 := by
  unfold R2
  (repeat' split) <;> first | exact Or.inl (by with_reducible rfl) | exact Or.inr (by with_reducible rfl) | exact R2_j592_b ..
theorem R2_is {σ ξ : St} {one two : Int32} (hI : IL σ) (h1 : vp_in one 60000) (c : ¬ R2_j214 σ ξ one two = 0) : vp_in (one - one / ((σ 7 (ix (4 : Int32))) + (1 : Int32)) * ((σ 7 (ix (4 : Int32))) + (1 : Int32))) (ix (σ 7 (ix (4 : Int32)))) ∧ vp_in (one - one / ((σ 7 (ix (4 : Int32))) + (1 : Int32)) * ((σ 7 (ix (4 : Int32))) + (1 : Int32))) 2 := by
  unfold R2_j214 at c
  split at c
  · exact absurd rfl c
  · have h := below (remv h1 (by decide) (IL_7_4 hI) (by decide)) (by decide) (IL_7_4 hI) (by decide) (by assumption)
    exact ⟨h, vp_up h (cnt (N := 2) (IL_7_4 hI) (by decide)).2⟩
theorem R2_ra {x : Int32} (h : vp_in x 2) : (10 : Int32) * x = nI (10 * ix x) := by
  have e := vp_nI' h (by decide)
  generalize ix x = j at *
  subst e
  exact pk_mul 10 j
set_option maxRecDepth 100000 in
set_option maxHeartbeats 4000000 in
theorem c_R2 {l : Launch} {D : va_G} {ca : Nat → Nat} {h hx : fH} {r : Nat} {α : Nat → Nat} {σ ξ : St} (hL : LH ca hx h α σ) (hX : RA ca hx r ξ) (hIX : InvX ξ) (hIO : InvO ξ) (hQ : LQ ξ σ) (one : Int32) (two : Int32) (h1 : vp_in one 60000) (h2 : vp_in two 60000) : FM l D ca yL_isRead (.code yL_isRead cL_isRead 18 (some .boolean)) { frames := 10, cells := 2, slots := 12, locals := 197 } [.ref r, .ref (α 0), .ref (α 1), .ref (α 2), .ref (α 3), .ref (α 5), .ref (α 6), .ref (α 7), .int (2 : Int32), .int one, .int two] h (fun v h2 => v = some (.int (R2 σ ξ one two)) ∧ ∃ hx2, LH ca hx2 h2 α (R2_s σ ξ one two) ∧ RA ca hx2 r (R2_x σ ξ one two)) noX := by
  refine FM.of [some (.ref r), some (.ref (α 0)), some (.ref (α 1)), some (.ref (α 2)), some (.ref (α 3)), some (.ref (α 5)), some (.ref (α 6)), some (.ref (α 7)), some (.int (2 : Int32)), some (.int one), some (.int two), none, none, none, none, none, none, none] (by decide) (Nat.le_of_ble_eq_true rfl) rfl ?_
  rintro K X rfl rfl rfl
  have hI := IL_of hQ hIX
  have q_v : (R2 σ ξ one two) = (R2_j592 σ ξ one two) := rfl
  have q_s : (R2_s σ ξ one two) = (R2_j532_s σ ξ one two) := rfl
  have q_x : (R2_x σ ξ one two) = (M_tell_s ξ (one - one / ((σ 7 (ix (4 : Int32))) + (1 : Int32)) * ((σ 7 (ix (4 : Int32))) + (1 : Int32))) (R2_j489 σ ξ one two)) := rfl
  refine J_iload_8 X dL_isRead_0 ?_
  refine J_if_ne (tgt := 197) X dL_isRead_2 (by decide) (fun _ => ?_) (fun c => absurd c (by decide))
  refine J_iload_9 X dL_isRead_197 ?_
  refine J_aload_7 X dL_isRead_199 ?_
  refine J_iconst (v := 4) X dL_isRead_201 rfl ?_
  refine JL_ld X hL.la 7 (by decide) (vp_up (vp_in_nI (n := 4) (N := 5) (by decide) (by decide)) (by decide)) dL_isRead_202 ?_
  refine J_iconst (v := 1) X dL_isRead_203 rfl ?_
  refine J_iadd X dL_isRead_204 ?_
  refine J_irem X dL_isRead_205 (gp1 (IL_7_4 hI) (by decide)) ?_
  refine J_istore_11 X dL_isRead_206 rfl (by decide) ?_
  refine J_iload_11 X dL_isRead_208 ?_
  refine J_aload_7 X dL_isRead_210 ?_
  refine J_iconst (v := 4) X dL_isRead_212 rfl ?_
  refine JL_ld X hL.la 7 (by decide) (vp_up (vp_in_nI (n := 4) (N := 5) (by decide) (by decide)) (by decide)) dL_isRead_213 ?_
  have K214_222 : ∀ (v214_0 : Int32), v214_0 = (R2_j214 σ ξ one two) → J K h [some (.ref r), some (.ref (α 0)), some (.ref (α 1)), some (.ref (α 2)), some (.ref (α 3)), some (.ref (α 5)), some (.ref (α 6)), some (.ref (α 7)), some (.int (2 : Int32)), some (.int one), some (.int two), some (.int (one - one / ((σ 7 (ix (4 : Int32))) + (1 : Int32)) * ((σ 7 (ix (4 : Int32))) + (1 : Int32)))), none, none, none, none, none, none] [.int v214_0] 222 0 0 := by
    intro v214_0 ev214_0
    try rw [ev214_0]
    clear ev214_0
    refine J_istore_12 X dL_isRead_222 rfl (by decide) ?_
    refine J_iload_8 X dL_isRead_224 ?_
    refine J_iconst (v := 1) X dL_isRead_226 rfl ?_
    refine J_icmp_ne (tgt := 476) X dL_isRead_227 (by decide) (fun _ => ?_) (fun c => absurd c (by decide))
    refine J_iload_8 X dL_isRead_476 ?_
    refine J_iconst (v := 2) X dL_isRead_478 rfl ?_
    refine J_icmp_ne (tgt := 601) X dL_isRead_479 (by decide) (fun c => absurd (by decide) c) (fun _ => ?_)
    refine J_iload_10 X dL_isRead_482 ?_
    refine J_bipush (v := (13 : Int32)) X dL_isRead_484 (by decide) ?_
    refine J_irem X dL_isRead_486 (by decide) ?_
    refine J_bipush (v := (12 : Int32)) X dL_isRead_487 (by decide) ?_
    have K489_508 : ∀ (v489_0 : Int32), v489_0 = (R2_j489 σ ξ one two) → J K h [some (.ref r), some (.ref (α 0)), some (.ref (α 1)), some (.ref (α 2)), some (.ref (α 3)), some (.ref (α 5)), some (.ref (α 6)), some (.ref (α 7)), some (.int (2 : Int32)), some (.int one), some (.int two), some (.int (one - one / ((σ 7 (ix (4 : Int32))) + (1 : Int32)) * ((σ 7 (ix (4 : Int32))) + (1 : Int32)))), some (.int (R2_j214 σ ξ one two)), none, none, none, none, none] [.int v489_0] 508 0 0 := by
      intro v489_0 ev489_0
      try rw [ev489_0]
      clear ev489_0
      refine J_istore_13 X dL_isRead_508 rfl (by decide) ?_
      refine J_iload_12 X dL_isRead_510 ?_
      have K512_528 : ∀ (v512_0 : Int32), v512_0 = (R2_j512 σ ξ one two) → J K h [some (.ref r), some (.ref (α 0)), some (.ref (α 1)), some (.ref (α 2)), some (.ref (α 3)), some (.ref (α 5)), some (.ref (α 6)), some (.ref (α 7)), some (.int (2 : Int32)), some (.int one), some (.int two), some (.int (one - one / ((σ 7 (ix (4 : Int32))) + (1 : Int32)) * ((σ 7 (ix (4 : Int32))) + (1 : Int32)))), some (.int (R2_j214 σ ξ one two)), some (.int (R2_j489 σ ξ one two)), none, none, none, none] [.int v512_0] 528 0 0 := by
        intro v512_0 ev512_0
        try rw [ev512_0]
        clear ev512_0
        refine J_istore_14 X dL_isRead_528 rfl (by decide) ?_
        refine J_iload_12 X dL_isRead_530 ?_
        have K532_554 : ∀ hj11 : fH, LH (kca K) hx hj11 α (R2_j532_s σ ξ one two) → J K hj11 [some (.ref r), some (.ref (α 0)), some (.ref (α 1)), some (.ref (α 2)), some (.ref (α 3)), some (.ref (α 5)), some (.ref (α 6)), some (.ref (α 7)), some (.int (2 : Int32)), some (.int one), some (.int two), some (.int (one - one / ((σ 7 (ix (4 : Int32))) + (1 : Int32)) * ((σ 7 (ix (4 : Int32))) + (1 : Int32)))), some (.int (R2_j214 σ ξ one two)), some (.int (R2_j489 σ ξ one two)), some (.int (R2_j512 σ ξ one two)), none, none, none] [] 554 0 0 := by
          intro hj11 hRj11
          refine J_aload_0 X dL_isRead_554 ?_
          refine J_bipush (v := (13 : Int32)) X dL_isRead_555 (by decide) ?_
          refine J_iload_11 X dL_isRead_557 ?_
          refine J_iload_13 X dL_isRead_559 ?_
          refine J_iconst (v := 0) X dL_isRead_561 rfl ?_
          refine J_iconst (v := 0) X dL_isRead_562 rfl ?_
          refine J_iconst (v := 0) X dL_isRead_563 rfl ?_
          obtain ⟨la, eh, hap, hLA, hα⟩ := hRj11
          subst eh
          refine J_callSW X ((c_D_13 hX hIX hIO (one - one / ((σ 7 (ix (4 : Int32))) + (1 : Int32)) * ((σ 7 (ix (4 : Int32))) + (1 : Int32))) (R2_j489 σ ξ one two) (0 : Int32) (0 : Int32) (0 : Int32)).frame hap) (And.intro gw_2_177 cw_L_does) rfl rfl (Nat.le_of_ble_eq_true rfl) dL_isRead_564 rfl (fun v h12 e => ?_) (fun E h12 e => by obtain ⟨_, q, _⟩ := e; exact q.elim)
          obtain ⟨hx12, ⟨e0, hX12⟩, hap12, eh⟩ := e
          subst e0
          subst eh
          have hR12 : LH (kca K) hx12 (un hx12 la) α (R2_j532_s σ ξ one two) := ⟨la, rfl, hap12, hLA, hα⟩
          show J K (un hx12 la) [some (.ref r), some (.ref (α 0)), some (.ref (α 1)), some (.ref (α 2)), some (.ref (α 3)), some (.ref (α 5)), some (.ref (α 6)), some (.ref (α 7)), some (.int (2 : Int32)), some (.int one), some (.int two), some (.int (one - one / ((σ 7 (ix (4 : Int32))) + (1 : Int32)) * ((σ 7 (ix (4 : Int32))) + (1 : Int32)))), some (.int (R2_j214 σ ξ one two)), some (.int (R2_j489 σ ξ one two)), some (.int (R2_j512 σ ξ one two)), none, none, none] [.int (DV_13 ξ (one - one / ((σ 7 (ix (4 : Int32))) + (1 : Int32)) * ((σ 7 (ix (4 : Int32))) + (1 : Int32))) (R2_j489 σ ξ one two))] 567 2 12
          refine J_iload_12 X dL_isRead_567 ?_
          have K569_592 : ∀ (v569_0 : Int32), v569_0 = (R2_j569 σ ξ one two) → J K (un hx12 la) [some (.ref r), some (.ref (α 0)), some (.ref (α 1)), some (.ref (α 2)), some (.ref (α 3)), some (.ref (α 5)), some (.ref (α 6)), some (.ref (α 7)), some (.int (2 : Int32)), some (.int one), some (.int two), some (.int (one - one / ((σ 7 (ix (4 : Int32))) + (1 : Int32)) * ((σ 7 (ix (4 : Int32))) + (1 : Int32)))), some (.int (R2_j214 σ ξ one two)), some (.int (R2_j489 σ ξ one two)), some (.int (R2_j512 σ ξ one two)), none, none, none] [.int v569_0, .int (DV_13 ξ (one - one / ((σ 7 (ix (4 : Int32))) + (1 : Int32)) * ((σ 7 (ix (4 : Int32))) + (1 : Int32))) (R2_j489 σ ξ one two))] 592 2 12 := by
            intro v569_0 ev569_0
            try rw [ev569_0]
            clear ev569_0
            have K592_600 : ∀ (v592_0 : Int32), v592_0 = (R2_j592 σ ξ one two) → J K (un hx12 la) [some (.ref r), some (.ref (α 0)), some (.ref (α 1)), some (.ref (α 2)), some (.ref (α 3)), some (.ref (α 5)), some (.ref (α 6)), some (.ref (α 7)), some (.int (2 : Int32)), some (.int one), some (.int two), some (.int (one - one / ((σ 7 (ix (4 : Int32))) + (1 : Int32)) * ((σ 7 (ix (4 : Int32))) + (1 : Int32)))), some (.int (R2_j214 σ ξ one two)), some (.int (R2_j489 σ ξ one two)), some (.int (R2_j512 σ ξ one two)), none, none, none] [.int v592_0] 600 2 12 := by
              intro v592_0 ev592_0
              try rw [ev592_0]
              clear ev592_0
              exact J_zret X rfl (R2_j592_b ..) rfl ⟨by rw [q_v], hx12, by rw [q_s]; exact hR12, by rw [q_x]; exact hX12⟩ dL_isRead_600
            have j592_0 : R2_j592 σ ξ one two = (if (DV_13 ξ (one - one / ((σ 7 (ix (4 : Int32))) + (1 : Int32)) * ((σ 7 (ix (4 : Int32))) + (1 : Int32))) (R2_j489 σ ξ one two)) = (R2_j569 σ ξ one two) then (1 : Int32) else (0 : Int32)) := rfl
            refine J_icmp_ne (tgt := 599) X dL_isRead_592 (by decide) (fun c592 => ?_) (fun c592 => ?_)
            · skip
              rw [if_neg c592] at j592_0
              refine J_iconst (v := 0) X dL_isRead_599 rfl ?_
              exact K592_600 _ j592_0.symm
            · skip
              rw [if_pos c592] at j592_0
              refine J_iconst (v := 1) X dL_isRead_595 rfl ?_
              refine J_goto (tgt := 600) X dL_isRead_596 (by decide) ?_
              exact K592_600 _ j592_0.symm
          have j569_0 : R2_j569 σ ξ one two = (if (R2_j214 σ ξ one two) = (0 : Int32) then (-3000000 : Int32) else (if (5001 : Int32) ≤ (R2_j489 σ ξ one two) then (-2000000 : Int32) else (R2_j512 σ ξ one two))) := rfl
          refine J_if_ne (tgt := 577) X dL_isRead_569 (by decide) (fun c569 => ?_) (fun c569 => ?_)
          · skip
            rw [if_neg c569] at j569_0
            refine J_iload_13 X dL_isRead_577 ?_
            refine J_sipush (v := (5001 : Int32)) X dL_isRead_579 (by decide) ?_
            refine J_icmp_ge (tgt := 590) X dL_isRead_582 (by decide) (fun c582 => ?_) (fun c582 => ?_)
            · skip
              rw [if_pos c582] at j569_0
              refine J_ldc (v := (-2000000 : Int32)) X dL_isRead_590 gw_4_73 ?_
              exact K569_592 _ j569_0.symm
            · skip
              rw [if_neg c582] at j569_0
              refine J_iload_14 X dL_isRead_585 ?_
              refine J_goto (tgt := 592) X dL_isRead_587 (by decide) ?_
              exact K569_592 _ j569_0.symm
          · skip
            rw [if_pos c569] at j569_0
            refine J_ldc (v := (-3000000 : Int32)) X dL_isRead_572 gw_4_72 ?_
            refine J_goto (tgt := 592) X dL_isRead_574 (by decide) ?_
            exact K569_592 _ j569_0.symm
        have j532_0 : R2_j532_s σ ξ one two = (if (R2_j214 σ ξ one two) = (0 : Int32) then σ else (if (5001 : Int32) ≤ (R2_j489 σ ξ one two) then σ else (sS σ 5 (ix (((3 : Int32) * (one - one / ((σ 7 (ix (4 : Int32))) + (1 : Int32)) * ((σ 7 (ix (4 : Int32))) + (1 : Int32)))) + (1 : Int32))) (R2_j489 σ ξ one two)))) := rfl
        refine J_if_eq (tgt := 554) X dL_isRead_532 (by decide) (fun c532 => ?_) (fun c532 => ?_)
        · skip
          rw [if_pos c532] at j532_0
          exact K532_554 _ (by rw [j532_0]; exact hL)
        · skip
          rw [if_neg c532] at j532_0
          refine J_iload_13 X dL_isRead_535 ?_
          refine J_sipush (v := (5001 : Int32)) X dL_isRead_537 (by decide) ?_
          refine J_icmp_ge (tgt := 554) X dL_isRead_540 (by decide) (fun c540 => ?_) (fun c540 => ?_)
          · skip
            rw [if_pos c540] at j532_0
            exact K532_554 _ (by rw [j532_0]; exact hL)
          · skip
            rw [if_neg c540] at j532_0
            refine J_aload_5 X dL_isRead_543 ?_
            refine J_iconst (v := 3) X dL_isRead_545 rfl ?_
            refine J_iload_11 X dL_isRead_546 ?_
            refine J_imul X dL_isRead_548 ?_
            refine J_iconst (v := 1) X dL_isRead_549 rfl ?_
            refine J_iadd X dL_isRead_550 ?_
            refine J_iload_13 X dL_isRead_551 ?_
            refine JL_st X hL 5 (by decide) (vp_up (vr_add (vr_mul (vp_in_nI (n := 3) (N := 4) (by decide) (by decide)) (R2_is (ξ := ξ) (two := two) hI h1 c532).2 (by decide)) (vp_in_nI (n := 1) (N := 2) (by decide) (by decide)) (by decide)) (by decide)) dL_isRead_553 (fun h13 hR13 => ?_)
            exact K532_554 _ (by rw [j532_0]; exact hR13)
      have j512_0 : R2_j512 σ ξ one two = (if (R2_j214 σ ξ one two) = (0 : Int32) then (0 : Int32) else (σ 5 (ix (((3 : Int32) * (one - one / ((σ 7 (ix (4 : Int32))) + (1 : Int32)) * ((σ 7 (ix (4 : Int32))) + (1 : Int32)))) + (1 : Int32))))) := rfl
      refine J_if_eq (tgt := 527) X dL_isRead_512 (by decide) (fun c512 => ?_) (fun c512 => ?_)
      · skip
        rw [if_pos c512] at j512_0
        refine J_iconst (v := 0) X dL_isRead_527 rfl ?_
        exact K512_528 _ j512_0.symm
      · skip
        rw [if_neg c512] at j512_0
        refine J_aload_5 X dL_isRead_515 ?_
        refine J_iconst (v := 3) X dL_isRead_517 rfl ?_
        refine J_iload_11 X dL_isRead_518 ?_
        refine J_imul X dL_isRead_520 ?_
        refine J_iconst (v := 1) X dL_isRead_521 rfl ?_
        refine J_iadd X dL_isRead_522 ?_
        refine JL_ld X hL.la 5 (by decide) (vp_up (vr_add (vr_mul (vp_in_nI (n := 3) (N := 4) (by decide) (by decide)) (R2_is (ξ := ξ) (two := two) hI h1 c512).2 (by decide)) (vp_in_nI (n := 1) (N := 2) (by decide) (by decide)) (by decide)) (by decide)) dL_isRead_523 ?_
        refine J_goto (tgt := 528) X dL_isRead_524 (by decide) ?_
        exact K512_528 _ j512_0.symm
    have j489_0 : R2_j489 σ ξ one two = (if (two - two / (13 : Int32) * (13 : Int32)) = (12 : Int32) then (5001 : Int32) else ((two - two / (400 : Int32) * (400 : Int32)) - (200 : Int32))) := rfl
    refine J_icmp_ne (tgt := 498) X dL_isRead_489 (by decide) (fun c489 => ?_) (fun c489 => ?_)
    · skip
      rw [if_neg c489] at j489_0
      refine J_iload_10 X dL_isRead_498 ?_
      refine J_sipush (v := (400 : Int32)) X dL_isRead_500 (by decide) ?_
      refine J_irem X dL_isRead_503 (by decide) ?_
      refine J_sipush (v := (200 : Int32)) X dL_isRead_504 (by decide) ?_
      refine J_isub X dL_isRead_507 ?_
      exact K489_508 _ j489_0.symm
    · skip
      rw [if_pos c489] at j489_0
      refine J_sipush (v := (5001 : Int32)) X dL_isRead_492 (by decide) ?_
      refine J_goto (tgt := 508) X dL_isRead_495 (by decide) ?_
      exact K489_508 _ j489_0.symm
  have j214_0 : R2_j214 σ ξ one two = (if (σ 7 (ix (4 : Int32))) ≤ (one - one / ((σ 7 (ix (4 : Int32))) + (1 : Int32)) * ((σ 7 (ix (4 : Int32))) + (1 : Int32))) then (0 : Int32) else (1 : Int32)) := rfl
  refine J_icmp_ge (tgt := 221) X dL_isRead_214 (by decide) (fun c214 => ?_) (fun c214 => ?_)
  · skip
    rw [if_pos c214] at j214_0
    refine J_iconst (v := 0) X dL_isRead_221 rfl ?_
    exact K214_222 _ j214_0.symm
  · skip
    rw [if_neg c214] at j214_0
    refine J_iconst (v := 1) X dL_isRead_217 rfl ?_
    refine J_goto (tgt := 222) X dL_isRead_218 (by decide) ?_
    exact K214_222 _ j214_0.symm
def R3_j214 (σ : St) (ξ : St) (one : Int32) (two : Int32) : Int32 := (if (σ 7 (ix (4 : Int32))) ≤ (one - one / ((σ 7 (ix (4 : Int32))) + (1 : Int32)) * ((σ 7 (ix (4 : Int32))) + (1 : Int32))) then (0 : Int32) else (1 : Int32))
theorem R3_j214_b (σ : St) (ξ : St) (one : Int32) (two : Int32) : R3_j214 σ ξ one two = 0 ∨ R3_j214 σ ξ one two = 1 := by
  unfold R3_j214
  (repeat' split) <;> first | exact Or.inl (by with_reducible rfl) | exact Or.inr (by with_reducible rfl)
def R3_j605 (σ : St) (ξ : St) (one : Int32) (two : Int32) : Int32 := (if (two - two / (3 : Int32) * (3 : Int32)) = (0 : Int32) then (two - two / (4000 : Int32) * (4000 : Int32)) else (two - two / (60 : Int32) * (60 : Int32)))
def R3_j654 (σ : St) (ξ : St) (one : Int32) (two : Int32) (k630 : Nat) (a630_14 : Int32) : Int32 := (if (0 : Int32) ≤ ((σ 5 (ix (((3 : Int32) * (nI k630)) + (2 : Int32)))) - (1 : Int32)) then (((10 : Int32) * (nI k630)) + ((σ 5 (ix (((3 : Int32) * (nI k630)) + (2 : Int32)))) - (1 : Int32))) else (0 : Int32))
def R3_j673 (σ : St) (ξ : St) (one : Int32) (two : Int32) (k630 : Nat) (a630_14 : Int32) : Int32 := (if a630_14 = (0 : Int32) then (0 : Int32) else (if ((σ 5 (ix (((3 : Int32) * (nI k630)) + (2 : Int32)))) - (1 : Int32)) < (0 : Int32) then (1 : Int32) else (if (R3_j605 σ ξ one two) < ((((σ 6 (ix ((20 : Int32) + (R3_j654 σ ξ one two k630 a630_14)))) - (L_moon (σ 6 (ix (R3_j654 σ ξ one two k630 a630_14))))) - (20 : Int32)) - (σ 5 (ix (((3 : Int32) * (nI k630)) + (1 : Int32))))) then (0 : Int32) else (1 : Int32))))
theorem R3_j673_b (σ : St) (ξ : St) (one : Int32) (two : Int32) (k630 : Nat) (a630_14 : Int32) : R3_j673 σ ξ one two k630 a630_14 = 0 ∨ R3_j673 σ ξ one two k630 a630_14 = 1 := by
  unfold R3_j673
  (repeat' split) <;> first | exact Or.inl (by with_reducible rfl) | exact Or.inr (by with_reducible rfl)
def R3_L630 (σ : St) (ξ : St) (one : Int32) (two : Int32) (K630 : Int32 → Int32) : Nat → Nat → Int32 → Int32
  | 0, _, a630_14 => K630 a630_14
  | n630 + 1, k630, a630_14 => (R3_L630 σ ξ one two K630 n630 (k630 + 1) (R3_j673 σ ξ one two k630 a630_14))
def R3_L630_s (σ : St) (ξ : St) (one : Int32) (two : Int32) (K630s : Int32 → St) : Nat → Nat → Int32 → St
  | 0, _, a630_14 => K630s a630_14
  | n630 + 1, k630, a630_14 => (R3_L630_s σ ξ one two K630s n630 (k630 + 1) (R3_j673 σ ξ one two k630 a630_14))
def R3_L630_x (σ : St) (ξ : St) (one : Int32) (two : Int32) (K630x : Int32 → St) : Nat → Nat → Int32 → St
  | 0, _, a630_14 => K630x a630_14
  | n630 + 1, k630, a630_14 => (R3_L630_x σ ξ one two K630x n630 (k630 + 1) (R3_j673 σ ξ one two k630 a630_14))
def R3_j734 (σ : St) (ξ : St) (one : Int32) (two : Int32) (a630_14 : Int32) : Int32 := (if a630_14 = (0 : Int32) then ((σ 7 (ix (5 : Int32))) + (1 : Int32)) else (0 : Int32))
def R3_j754 (σ : St) (ξ : St) (one : Int32) (two : Int32) (a630_14 : Int32) : Int32 := (if a630_14 = (0 : Int32) then (0 : Int32) else (((sS σ 7 (ix (5 : Int32)) (R3_j734 σ ξ one two a630_14)) 7 (ix (6 : Int32))) + (1 : Int32)))
def R3_j778 (σ : St) (ξ : St) (one : Int32) (two : Int32) (a630_14 : Int32) : Int32 := (if ((sS (sS σ 7 (ix (5 : Int32)) (R3_j734 σ ξ one two a630_14)) 7 (ix (6 : Int32)) (R3_j754 σ ξ one two a630_14)) 7 (ix (5 : Int32))) ≤ (1 : Int32) then (if (R3_j754 σ ξ one two a630_14) ≤ (2 : Int32) then ((sS (sS σ 7 (ix (5 : Int32)) (R3_j734 σ ξ one two a630_14)) 7 (ix (6 : Int32)) (R3_j754 σ ξ one two a630_14)) 7 (ix (7 : Int32))) else (0 : Int32)) else (1 : Int32))
def R3_j812 (σ : St) (ξ : St) (one : Int32) (two : Int32) (a630_14 : Int32) : Int32 := (if (M_audit ξ (R3_j605 σ ξ one two)) = a630_14 then (1 : Int32) else (0 : Int32))
theorem R3_j812_b (σ : St) (ξ : St) (one : Int32) (two : Int32) (a630_14 : Int32) : R3_j812 σ ξ one two a630_14 = 0 ∨ R3_j812 σ ξ one two a630_14 = 1 := by
  unfold R3_j812
  (repeat' split) <;> first | exact Or.inl (by with_reducible rfl) | exact Or.inr (by with_reducible rfl)
def R3 (σ : St) (ξ : St) (one : Int32) (two : Int32) : Int32 := (R3_L630 σ ξ one two (fun a630_14 => (R3_j812 σ ξ one two a630_14)) (ix (σ 7 (ix (4 : Int32)))) 0 (1 : Int32))
def R3_s (σ : St) (ξ : St) (one : Int32) (two : Int32) : St := (R3_L630_s σ ξ one two (fun a630_14 => (sS (sS (sS σ 7 (ix (5 : Int32)) (R3_j734 σ ξ one two a630_14)) 7 (ix (6 : Int32)) (R3_j754 σ ξ one two a630_14)) 7 (ix (7 : Int32)) (R3_j778 σ ξ one two a630_14))) (ix (σ 7 (ix (4 : Int32)))) 0 (1 : Int32))
def R3_x (σ : St) (ξ : St) (one : Int32) (two : Int32) : St := (R3_L630_x σ ξ one two (fun a630_14 => (M_audit_s ξ (R3_j605 σ ξ one two))) (ix (σ 7 (ix (4 : Int32)))) 0 (1 : Int32))
theorem R3_at {σ ξ : St} {one two : Int32} (hI : IL σ) {k : Nat} (hk : k < 2) (a : Int32) : vp_in (R3_j654 σ ξ one two k a) 20 := by
  unfold R3_j654
  have hr := IL_5_2 hI (vp_in_nI (n := k) (N := 2) hk (by decide))
  generalize σ 5 (ix (((3 : Int32) * nI k) + (2 : Int32))) = x at *
  obtain ⟨j, hj, e⟩ := vn hr (by decide)
  subst e
  split
  · rename_i c
    have hj0 : 1 ≤ j := by
      rw [Int32.le_iff_toInt_le, show (1 : Int32) = nI 1 from rfl, pk_sub_toInt (by omega) (by decide), show (0 : Int32).toInt = 0 from rfl] at c
      omega
    rw [show (10 : Int32) = nI 10 from rfl, show (1 : Int32) = nI 1 from rfl, pk_mul, pk_sub hj0, nI_add]
    exact vp_in_nI (by omega) (by decide)
  · exact vp_in_nI (n := 0) (by decide) (by decide)
theorem R3_lim {σ ξ : St} {one two : Int32} (h2 : vp_in two 60000) : vp_in (R3_j605 σ ξ one two) 4000 := by
  unfold R3_j605
  split
  · exact vr_rem (c := 4000) h2 (by decide) (by decide) (by decide)
  · exact vp_up (vr_rem (c := 60) h2 (by decide) (by decide) (by decide)) (by decide)
theorem audit_K (ξ : St) (p1 : Int32) (K : Int32 → St) (hK : ∀ a, K a 41 0 = 0) : ∀ n k a, M_audit_L28_s ξ p1 K n k a 41 0 = 0 := by
  intro n
  induction n with
  | zero => intro k a; rw [M_audit_L28_s]; exact hK a
  | succ n ih => intro k a; rw [M_audit_L28_s]; exact ih _ _
theorem audit_ok (ξ : St) {p1 : Int32} (h : vp_in p1 4000) : M_audit_s ξ p1 41 0 = 0 := by
  have h1 := vp_in_iff.mp h
  have hj : M_audit_j8 ξ p1 = 0 := by
    unfold M_audit_j8
    exact if_neg ((isIn_iff (v := p1) (a := 0) (b := 100000)).mpr ⟨by rw [Int32.toInt_zero]; exact h1.1, by rw [show (100000 : Int32).toInt = 100000 from rfl]; omega⟩)
  unfold M_audit_s
  rw [hj, if_pos (fails_0 ξ)]
  refine audit_K _ _ _ (fun a => ?_) _ _ _
  rw [sC_col (by decide), sC_col (by decide), sC_col (by decide)]
  exact sC_same ..
set_option maxRecDepth 100000 in
set_option maxHeartbeats 4000000 in
theorem c_R3 {l : Launch} {D : va_G} {ca : Nat → Nat} {h hx : fH} {r : Nat} {α : Nat → Nat} {σ ξ : St} (hL : LH ca hx h α σ) (hX : RA ca hx r ξ) (hIX : InvX ξ) (hIO : InvO ξ) (hQ : LQ ξ σ) (one : Int32) (two : Int32) (h1 : vp_in one 60000) (h2 : vp_in two 60000) : FM l D ca yL_isRead (.code yL_isRead cL_isRead 18 (some .boolean)) { frames := 8, cells := 1, slots := 6, locals := 147 } [.ref r, .ref (α 0), .ref (α 1), .ref (α 2), .ref (α 3), .ref (α 5), .ref (α 6), .ref (α 7), .int (3 : Int32), .int one, .int two] h (fun v h2 => v = some (.int (R3 σ ξ one two)) ∧ ∃ hx2, LH ca hx2 h2 α (R3_s σ ξ one two) ∧ RA ca hx2 r (R3_x σ ξ one two)) noX := by
  refine FM.of [some (.ref r), some (.ref (α 0)), some (.ref (α 1)), some (.ref (α 2)), some (.ref (α 3)), some (.ref (α 5)), some (.ref (α 6)), some (.ref (α 7)), some (.int (3 : Int32)), some (.int one), some (.int two), none, none, none, none, none, none, none] (by decide) (Nat.le_of_ble_eq_true rfl) rfl ?_
  rintro K X rfl rfl rfl
  have hI := IL_of hQ hIX
  have q_v : (R3 σ ξ one two) = (R3_L630 σ ξ one two (fun a630_14 => (R3_j812 σ ξ one two a630_14)) (ix (σ 7 (ix (4 : Int32)))) 0 (1 : Int32)) := rfl
  have q_s : (R3_s σ ξ one two) = (R3_L630_s σ ξ one two (fun a630_14 => (sS (sS (sS σ 7 (ix (5 : Int32)) (R3_j734 σ ξ one two a630_14)) 7 (ix (6 : Int32)) (R3_j754 σ ξ one two a630_14)) 7 (ix (7 : Int32)) (R3_j778 σ ξ one two a630_14))) (ix (σ 7 (ix (4 : Int32)))) 0 (1 : Int32)) := rfl
  have q_x : (R3_x σ ξ one two) = (R3_L630_x σ ξ one two (fun a630_14 => (M_audit_s ξ (R3_j605 σ ξ one two))) (ix (σ 7 (ix (4 : Int32)))) 0 (1 : Int32)) := rfl
  refine J_iload_8 X dL_isRead_0 ?_
  refine J_if_ne (tgt := 197) X dL_isRead_2 (by decide) (fun _ => ?_) (fun c => absurd c (by decide))
  refine J_iload_9 X dL_isRead_197 ?_
  refine J_aload_7 X dL_isRead_199 ?_
  refine J_iconst (v := 4) X dL_isRead_201 rfl ?_
  refine JL_ld X hL.la 7 (by decide) (vp_up (vp_in_nI (n := 4) (N := 5) (by decide) (by decide)) (by decide)) dL_isRead_202 ?_
  refine J_iconst (v := 1) X dL_isRead_203 rfl ?_
  refine J_iadd X dL_isRead_204 ?_
  refine J_irem X dL_isRead_205 (gp1 (IL_7_4 hI) (by decide)) ?_
  refine J_istore_11 X dL_isRead_206 rfl (by decide) ?_
  refine J_iload_11 X dL_isRead_208 ?_
  refine J_aload_7 X dL_isRead_210 ?_
  refine J_iconst (v := 4) X dL_isRead_212 rfl ?_
  refine JL_ld X hL.la 7 (by decide) (vp_up (vp_in_nI (n := 4) (N := 5) (by decide) (by decide)) (by decide)) dL_isRead_213 ?_
  have K214_222 : ∀ (v214_0 : Int32), v214_0 = (R3_j214 σ ξ one two) → J K h [some (.ref r), some (.ref (α 0)), some (.ref (α 1)), some (.ref (α 2)), some (.ref (α 3)), some (.ref (α 5)), some (.ref (α 6)), some (.ref (α 7)), some (.int (3 : Int32)), some (.int one), some (.int two), some (.int (one - one / ((σ 7 (ix (4 : Int32))) + (1 : Int32)) * ((σ 7 (ix (4 : Int32))) + (1 : Int32)))), none, none, none, none, none, none] [.int v214_0] 222 0 0 := by
    intro v214_0 ev214_0
    try rw [ev214_0]
    clear ev214_0
    refine J_istore_12 X dL_isRead_222 rfl (by decide) ?_
    refine J_iload_8 X dL_isRead_224 ?_
    refine J_iconst (v := 1) X dL_isRead_226 rfl ?_
    refine J_icmp_ne (tgt := 476) X dL_isRead_227 (by decide) (fun _ => ?_) (fun c => absurd c (by decide))
    refine J_iload_8 X dL_isRead_476 ?_
    refine J_iconst (v := 2) X dL_isRead_478 rfl ?_
    refine J_icmp_ne (tgt := 601) X dL_isRead_479 (by decide) (fun _ => ?_) (fun c => absurd c (by decide))
    refine J_iload_10 X dL_isRead_601 ?_
    refine J_iconst (v := 3) X dL_isRead_603 rfl ?_
    refine J_irem X dL_isRead_604 (by decide) ?_
    have K605_622 : ∀ (v605_0 : Int32), v605_0 = (R3_j605 σ ξ one two) → J K h [some (.ref r), some (.ref (α 0)), some (.ref (α 1)), some (.ref (α 2)), some (.ref (α 3)), some (.ref (α 5)), some (.ref (α 6)), some (.ref (α 7)), some (.int (3 : Int32)), some (.int one), some (.int two), some (.int (one - one / ((σ 7 (ix (4 : Int32))) + (1 : Int32)) * ((σ 7 (ix (4 : Int32))) + (1 : Int32)))), some (.int (R3_j214 σ ξ one two)), none, none, none, none, none] [.int v605_0] 622 0 0 := by
      intro v605_0 ev605_0
      try rw [ev605_0]
      clear ev605_0
      refine J_istore_13 X dL_isRead_622 rfl (by decide) ?_
      refine J_iconst (v := 1) X dL_isRead_624 rfl ?_
      refine J_istore_14 X dL_isRead_625 rfl (by decide) ?_
      refine J_iconst (v := 0) X dL_isRead_627 rfl ?_
      refine J_istore_15 X dL_isRead_628 rfl (by decide) ?_
      have hle := (cnt (N := 2) (IL_7_4 hI) (by decide)).2
      obtain ⟨K630, hK630⟩ : ∃ f : Int32 → Int32, f = (fun a630_14 => (R3_j812 σ ξ one two a630_14)) := ⟨_, rfl⟩
      obtain ⟨K630s, hK630s⟩ : ∃ f : Int32 → St, f = (fun a630_14 => (sS (sS (sS σ 7 (ix (5 : Int32)) (R3_j734 σ ξ one two a630_14)) 7 (ix (6 : Int32)) (R3_j754 σ ξ one two a630_14)) 7 (ix (7 : Int32)) (R3_j778 σ ξ one two a630_14))) := ⟨_, rfl⟩
      obtain ⟨K630x, hK630x⟩ : ∃ f : Int32 → St, f = (fun a630_14 => (M_audit_s ξ (R3_j605 σ ξ one two))) := ⟨_, rfl⟩
      have X630 : ∀ (a630_14 : Int32) (_ : True), (R3 σ ξ one two) = (R3_j812 σ ξ one two a630_14) → (R3_s σ ξ one two) = (sS (sS (sS σ 7 (ix (5 : Int32)) (R3_j734 σ ξ one two a630_14)) 7 (ix (6 : Int32)) (R3_j754 σ ξ one two a630_14)) 7 (ix (7 : Int32)) (R3_j778 σ ξ one two a630_14)) → (R3_x σ ξ one two) = (M_audit_s ξ (R3_j605 σ ξ one two)) → J K h [some (.ref r), some (.ref (α 0)), some (.ref (α 1)), some (.ref (α 2)), some (.ref (α 3)), some (.ref (α 5)), some (.ref (α 6)), some (.ref (α 7)), some (.int (3 : Int32)), some (.int one), some (.int two), some (.int (one - one / ((σ 7 (ix (4 : Int32))) + (1 : Int32)) * ((σ 7 (ix (4 : Int32))) + (1 : Int32)))), some (.int (R3_j214 σ ξ one two)), some (.int (R3_j605 σ ξ one two)), some (.int a630_14), none, none, none] [] 729 0 0 := by
        intro a630_14  _  q_v q_s q_x
        refine J_aload_7 X dL_isRead_729 ?_
        refine J_iconst (v := 5) X dL_isRead_731 rfl ?_
        refine J_iload_14 X dL_isRead_732 ?_
        have K734_747 : ∀ (v734_0 : Int32), v734_0 = (R3_j734 σ ξ one two a630_14) → J K h [some (.ref r), some (.ref (α 0)), some (.ref (α 1)), some (.ref (α 2)), some (.ref (α 3)), some (.ref (α 5)), some (.ref (α 6)), some (.ref (α 7)), some (.int (3 : Int32)), some (.int one), some (.int two), some (.int (one - one / ((σ 7 (ix (4 : Int32))) + (1 : Int32)) * ((σ 7 (ix (4 : Int32))) + (1 : Int32)))), some (.int (R3_j214 σ ξ one two)), some (.int (R3_j605 σ ξ one two)), some (.int a630_14), none, none, none] [.int v734_0, .int (5 : Int32), .ref (α 7)] 747 0 0 := by
          intro v734_0 ev734_0
          try rw [ev734_0]
          clear ev734_0
          refine JL_st X hL 7 (by decide) (vp_up (vp_in_nI (n := 5) (N := 6) (by decide) (by decide)) (by decide)) dL_isRead_747 (fun h11 hR11 => ?_)
          refine J_aload_7 X dL_isRead_748 ?_
          refine J_bipush (v := (6 : Int32)) X dL_isRead_750 (by decide) ?_
          refine J_iload_14 X dL_isRead_752 ?_
          have K754_768 : ∀ (v754_0 : Int32), v754_0 = (R3_j754 σ ξ one two a630_14) → J K h11 [some (.ref r), some (.ref (α 0)), some (.ref (α 1)), some (.ref (α 2)), some (.ref (α 3)), some (.ref (α 5)), some (.ref (α 6)), some (.ref (α 7)), some (.int (3 : Int32)), some (.int one), some (.int two), some (.int (one - one / ((σ 7 (ix (4 : Int32))) + (1 : Int32)) * ((σ 7 (ix (4 : Int32))) + (1 : Int32)))), some (.int (R3_j214 σ ξ one two)), some (.int (R3_j605 σ ξ one two)), some (.int a630_14), none, none, none] [.int v754_0, .int (6 : Int32), .ref (α 7)] 768 0 0 := by
            intro v754_0 ev754_0
            try rw [ev754_0]
            clear ev754_0
            refine JL_st X hR11 7 (by decide) (vp_up (vp_in_nI (n := 6) (N := 7) (by decide) (by decide)) (by decide)) dL_isRead_768 (fun h12 hR12 => ?_)
            refine J_aload_7 X dL_isRead_769 ?_
            refine J_bipush (v := (7 : Int32)) X dL_isRead_771 (by decide) ?_
            refine J_aload_7 X dL_isRead_773 ?_
            refine J_iconst (v := 5) X dL_isRead_775 rfl ?_
            refine JL_ld X hR12.la 7 (by decide) (vp_up (vp_in_nI (n := 5) (N := 6) (by decide) (by decide)) (by decide)) dL_isRead_776 ?_
            refine J_iconst (v := 1) X dL_isRead_777 rfl ?_
            have K778_803 : ∀ (v778_0 : Int32), v778_0 = (R3_j778 σ ξ one two a630_14) → J K h12 [some (.ref r), some (.ref (α 0)), some (.ref (α 1)), some (.ref (α 2)), some (.ref (α 3)), some (.ref (α 5)), some (.ref (α 6)), some (.ref (α 7)), some (.int (3 : Int32)), some (.int one), some (.int two), some (.int (one - one / ((σ 7 (ix (4 : Int32))) + (1 : Int32)) * ((σ 7 (ix (4 : Int32))) + (1 : Int32)))), some (.int (R3_j214 σ ξ one two)), some (.int (R3_j605 σ ξ one two)), some (.int a630_14), none, none, none] [.int v778_0, .int (7 : Int32), .ref (α 7)] 803 0 0 := by
              intro v778_0 ev778_0
              try rw [ev778_0]
              clear ev778_0
              refine JL_st X hR12 7 (by decide) (vp_up (vp_in_nI (n := 7) (N := 8) (by decide) (by decide)) (by decide)) dL_isRead_803 (fun h13 hR13 => ?_)
              refine J_aload_0 X dL_isRead_804 ?_
              refine J_iload_13 X dL_isRead_805 ?_
              obtain ⟨la, eh, hap, hLA, hα⟩ := hR13
              subst eh
              obtain ⟨vs, hroot⟩ := RA.root hX
              refine J_callV X ((c_R_audit hX hIX hIO (R3_j605 σ ξ one two)).frame hap) (And.intro gw_4_173 cw_X10_audit) (un_l hroot) rfl rfl rfl (Nat.le_of_ble_eq_true rfl) dL_isRead_807 rfl (fun v h14 e => ?_) (fun E h14 e => ?_)
              rotate_left
              · obtain ⟨_, ⟨_, q⟩, _⟩ := e
                have t0 := audit_ok ξ (R3_lim (σ := σ) (ξ := ξ) (one := one) h2)
                rw [t0] at q
                exact absurd q.2 (by decide)
              obtain ⟨hx14, ⟨e0, _, hX14⟩, hap14, eh⟩ := e
              subst e0
              subst eh
              have hR14 : LH (kca K) hx14 (un hx14 la) α (sS (sS (sS σ 7 (ix (5 : Int32)) (R3_j734 σ ξ one two a630_14)) 7 (ix (6 : Int32)) (R3_j754 σ ξ one two a630_14)) 7 (ix (7 : Int32)) (R3_j778 σ ξ one two a630_14)) := ⟨la, rfl, hap14, hLA, hα⟩
              show J K (un hx14 la) [some (.ref r), some (.ref (α 0)), some (.ref (α 1)), some (.ref (α 2)), some (.ref (α 3)), some (.ref (α 5)), some (.ref (α 6)), some (.ref (α 7)), some (.int (3 : Int32)), some (.int one), some (.int two), some (.int (one - one / ((σ 7 (ix (4 : Int32))) + (1 : Int32)) * ((σ 7 (ix (4 : Int32))) + (1 : Int32)))), some (.int (R3_j214 σ ξ one two)), some (.int (R3_j605 σ ξ one two)), some (.int a630_14), none, none, none] [.int (M_audit ξ (R3_j605 σ ξ one two))] 810 1 6
              refine J_iload_14 X dL_isRead_810 ?_
              have K812_820 : ∀ (v812_0 : Int32), v812_0 = (R3_j812 σ ξ one two a630_14) → J K (un hx14 la) [some (.ref r), some (.ref (α 0)), some (.ref (α 1)), some (.ref (α 2)), some (.ref (α 3)), some (.ref (α 5)), some (.ref (α 6)), some (.ref (α 7)), some (.int (3 : Int32)), some (.int one), some (.int two), some (.int (one - one / ((σ 7 (ix (4 : Int32))) + (1 : Int32)) * ((σ 7 (ix (4 : Int32))) + (1 : Int32)))), some (.int (R3_j214 σ ξ one two)), some (.int (R3_j605 σ ξ one two)), some (.int a630_14), none, none, none] [.int v812_0] 820 1 6 := by
                intro v812_0 ev812_0
                try rw [ev812_0]
                clear ev812_0
                exact J_zret X rfl (R3_j812_b ..) rfl ⟨by rw [q_v], hx14, by rw [q_s]; exact hR14, by rw [q_x]; exact hX14⟩ dL_isRead_820
              have j812_0 : R3_j812 σ ξ one two a630_14 = (if (M_audit ξ (R3_j605 σ ξ one two)) = a630_14 then (1 : Int32) else (0 : Int32)) := rfl
              refine J_icmp_ne (tgt := 819) X dL_isRead_812 (by decide) (fun c812 => ?_) (fun c812 => ?_)
              · skip
                rw [if_neg c812] at j812_0
                refine J_iconst (v := 0) X dL_isRead_819 rfl ?_
                exact K812_820 _ j812_0.symm
              · skip
                rw [if_pos c812] at j812_0
                refine J_iconst (v := 1) X dL_isRead_815 rfl ?_
                refine J_goto (tgt := 820) X dL_isRead_816 (by decide) ?_
                exact K812_820 _ j812_0.symm
            have j778_0 : R3_j778 σ ξ one two a630_14 = (if ((sS (sS σ 7 (ix (5 : Int32)) (R3_j734 σ ξ one two a630_14)) 7 (ix (6 : Int32)) (R3_j754 σ ξ one two a630_14)) 7 (ix (5 : Int32))) ≤ (1 : Int32) then (if (R3_j754 σ ξ one two a630_14) ≤ (2 : Int32) then ((sS (sS σ 7 (ix (5 : Int32)) (R3_j734 σ ξ one two a630_14)) 7 (ix (6 : Int32)) (R3_j754 σ ξ one two a630_14)) 7 (ix (7 : Int32))) else (0 : Int32)) else (1 : Int32)) := rfl
            refine J_icmp_le (tgt := 785) X dL_isRead_778 (by decide) (fun c778 => ?_) (fun c778 => ?_)
            · skip
              rw [if_pos c778] at j778_0
              refine J_aload_7 X dL_isRead_785 ?_
              refine J_bipush (v := (6 : Int32)) X dL_isRead_787 (by decide) ?_
              refine JL_lv X hR12.la 7 (by decide) (vp_up (vp_in_nI (n := 6) (N := 7) (by decide) (by decide)) (by decide)) (v := (R3_j754 σ ξ one two a630_14)) (by rw [sS_same]) dL_isRead_789 ?_
              refine J_iconst (v := 2) X dL_isRead_790 rfl ?_
              refine J_icmp_le (tgt := 798) X dL_isRead_791 (by decide) (fun c791 => ?_) (fun c791 => ?_)
              · skip
                rw [if_pos c791] at j778_0
                refine J_aload_7 X dL_isRead_798 ?_
                refine J_bipush (v := (7 : Int32)) X dL_isRead_800 (by decide) ?_
                refine JL_ld X hR12.la 7 (by decide) (vp_up (vp_in_nI (n := 7) (N := 8) (by decide) (by decide)) (by decide)) dL_isRead_802 ?_
                exact K778_803 _ j778_0.symm
              · skip
                rw [if_neg c791] at j778_0
                refine J_iconst (v := 0) X dL_isRead_794 rfl ?_
                refine J_goto (tgt := 803) X dL_isRead_795 (by decide) ?_
                exact K778_803 _ j778_0.symm
            · skip
              rw [if_neg c778] at j778_0
              refine J_iconst (v := 1) X dL_isRead_781 rfl ?_
              refine J_goto (tgt := 803) X dL_isRead_782 (by decide) ?_
              exact K778_803 _ j778_0.symm
          have j754_0 : R3_j754 σ ξ one two a630_14 = (if a630_14 = (0 : Int32) then (0 : Int32) else (((sS σ 7 (ix (5 : Int32)) (R3_j734 σ ξ one two a630_14)) 7 (ix (6 : Int32))) + (1 : Int32))) := rfl
          refine J_if_eq (tgt := 767) X dL_isRead_754 (by decide) (fun c754 => ?_) (fun c754 => ?_)
          · skip
            rw [if_pos c754] at j754_0
            refine J_iconst (v := 0) X dL_isRead_767 rfl ?_
            exact K754_768 _ j754_0.symm
          · skip
            rw [if_neg c754] at j754_0
            refine J_aload_7 X dL_isRead_757 ?_
            refine J_bipush (v := (6 : Int32)) X dL_isRead_759 (by decide) ?_
            refine JL_ld X hR11.la 7 (by decide) (vp_up (vp_in_nI (n := 6) (N := 7) (by decide) (by decide)) (by decide)) dL_isRead_761 ?_
            refine J_iconst (v := 1) X dL_isRead_762 rfl ?_
            refine J_iadd X dL_isRead_763 ?_
            refine J_goto (tgt := 768) X dL_isRead_764 (by decide) ?_
            exact K754_768 _ j754_0.symm
        have j734_0 : R3_j734 σ ξ one two a630_14 = (if a630_14 = (0 : Int32) then ((σ 7 (ix (5 : Int32))) + (1 : Int32)) else (0 : Int32)) := rfl
        refine J_if_eq (tgt := 741) X dL_isRead_734 (by decide) (fun c734 => ?_) (fun c734 => ?_)
        · skip
          rw [if_pos c734] at j734_0
          refine J_aload_7 X dL_isRead_741 ?_
          refine J_iconst (v := 5) X dL_isRead_743 rfl ?_
          refine JL_ld X hL.la 7 (by decide) (vp_up (vp_in_nI (n := 5) (N := 6) (by decide) (by decide)) (by decide)) dL_isRead_744 ?_
          refine J_iconst (v := 1) X dL_isRead_745 rfl ?_
          refine J_iadd X dL_isRead_746 ?_
          exact K734_747 _ j734_0.symm
        · skip
          rw [if_neg c734] at j734_0
          refine J_iconst (v := 0) X dL_isRead_737 rfl ?_
          refine J_goto (tgt := 747) X dL_isRead_738 (by decide) ?_
          exact K734_747 _ j734_0.symm
      have L630 : ∀ (n630 k630 : Nat) (a630_14 : Int32), k630 + n630 = ix (σ 7 (ix (4 : Int32))) → (R3 σ ξ one two) = (R3_L630 σ ξ one two K630 n630 k630 a630_14) → (R3_s σ ξ one two) = (R3_L630_s σ ξ one two K630s n630 k630 a630_14) → (R3_x σ ξ one two) = (R3_L630_x σ ξ one two K630x n630 k630 a630_14) → J K h [some (.ref r), some (.ref (α 0)), some (.ref (α 1)), some (.ref (α 2)), some (.ref (α 3)), some (.ref (α 5)), some (.ref (α 6)), some (.ref (α 7)), some (.int (3 : Int32)), some (.int one), some (.int two), some (.int (one - one / ((σ 7 (ix (4 : Int32))) + (1 : Int32)) * ((σ 7 (ix (4 : Int32))) + (1 : Int32)))), some (.int (R3_j214 σ ξ one two)), some (.int (R3_j605 σ ξ one two)), some (.int a630_14), some (.int (nI k630)), none, none] [] 630 0 0 := by
        intro n630
        induction n630 with
        | zero =>
          intro k630 a630_14  hk630  q_v q_s q_x
          rw [R3_L630] at q_v
          rw [R3_L630_s] at q_s
          rw [R3_L630_x] at q_x
          refine J_iload_15 X dL_isRead_630 ?_
          refine J_aload_7 X dL_isRead_632 ?_
          refine J_iconst (v := 4) X dL_isRead_634 rfl ?_
          refine JL_ld X hL.la 7 (by decide) (vp_up (vp_in_nI (n := 4) (N := 5) (by decide) (by decide)) (by decide)) dL_isRead_635 ?_
          refine J_icmp_ge (tgt := 729) X dL_isRead_636 (by decide) (fun _ => ?_) (fun c => absurd (lp_exit (cnt (N := 2) (IL_7_4 hI) (by decide)).1 (by omega) hk630) c)
          rw [hK630] at q_v
          rw [hK630s] at q_s
          rw [hK630x] at q_x
          refine J.subL (lv' := [some (.ref r), some (.ref (α 0)), some (.ref (α 1)), some (.ref (α 2)), some (.ref (α 3)), some (.ref (α 5)), some (.ref (α 6)), some (.ref (α 7)), some (.int (3 : Int32)), some (.int one), some (.int two), some (.int (one - one / ((σ 7 (ix (4 : Int32))) + (1 : Int32)) * ((σ 7 (ix (4 : Int32))) + (1 : Int32)))), some (.int (R3_j214 σ ξ one two)), some (.int (R3_j605 σ ξ one two)), some (.int a630_14), none, none, none]) (And.intro rfl (And.intro rfl (And.intro rfl (And.intro rfl (And.intro rfl (And.intro rfl (And.intro rfl (And.intro rfl (And.intro rfl (And.intro rfl (And.intro rfl (And.intro rfl (And.intro rfl (And.intro rfl (And.intro rfl trivial))))))))))))))) ?_
          exact X630 a630_14  trivial  q_v q_s q_x
        | succ n630 ih630 =>
          intro k630 a630_14  hk630  q_v q_s q_x
          rw [R3_L630] at q_v
          rw [R3_L630_s] at q_s
          rw [R3_L630_x] at q_x
          have hlt630 : k630 < ix (σ 7 (ix (4 : Int32))) := by omega
          refine J_iload_15 X dL_isRead_630 ?_
          refine J_aload_7 X dL_isRead_632 ?_
          refine J_iconst (v := 4) X dL_isRead_634 rfl ?_
          refine JL_ld X hL.la 7 (by decide) (vp_up (vp_in_nI (n := 4) (N := 5) (by decide) (by decide)) (by decide)) dL_isRead_635 ?_
          refine J_icmp_ge (tgt := 729) X dL_isRead_636 (by decide) (fun c => absurd c (lp_stay (cnt (N := 2) (IL_7_4 hI) (by decide)).1 (by omega) hk630)) (fun _ => ?_)
          refine J_aload_5 X dL_isRead_639 ?_
          refine J_iconst (v := 3) X dL_isRead_641 rfl ?_
          refine J_iload_15 X dL_isRead_642 ?_
          refine J_imul X dL_isRead_644 ?_
          refine J_iconst (v := 2) X dL_isRead_645 rfl ?_
          refine J_iadd X dL_isRead_646 ?_
          refine JL_ld X hL.la 5 (by decide) (vp_up (vr_add (vr_mul (vp_in_nI (n := 3) (N := 4) (by decide) (by decide)) (vp_in_nI (n := k630) (N := 2) (by omega) (by decide)) (by decide)) (vp_in_nI (n := 2) (N := 3) (by decide) (by decide)) (by decide)) (by decide)) dL_isRead_647 ?_
          refine J_iconst (v := 1) X dL_isRead_648 rfl ?_
          refine J_isub X dL_isRead_649 ?_
          refine J_istore_16 X dL_isRead_650 rfl (by decide) ?_
          refine J_iload_16 X dL_isRead_652 ?_
          have K654_669 : ∀ (v654_0 : Int32), v654_0 = (R3_j654 σ ξ one two k630 a630_14) → J K h [some (.ref r), some (.ref (α 0)), some (.ref (α 1)), some (.ref (α 2)), some (.ref (α 3)), some (.ref (α 5)), some (.ref (α 6)), some (.ref (α 7)), some (.int (3 : Int32)), some (.int one), some (.int two), some (.int (one - one / ((σ 7 (ix (4 : Int32))) + (1 : Int32)) * ((σ 7 (ix (4 : Int32))) + (1 : Int32)))), some (.int (R3_j214 σ ξ one two)), some (.int (R3_j605 σ ξ one two)), some (.int a630_14), some (.int (nI k630)), some (.int ((σ 5 (ix (((3 : Int32) * (nI k630)) + (2 : Int32)))) - (1 : Int32))), none] [.int v654_0] 669 0 0 := by
            intro v654_0 ev654_0
            try rw [ev654_0]
            clear ev654_0
            refine J_istore_17 X dL_isRead_669 rfl (by decide) ?_
            refine J_iload_14 X dL_isRead_671 ?_
            have K673_721 : ∀ (v673_0 : Int32), v673_0 = (R3_j673 σ ξ one two k630 a630_14) → J K h [some (.ref r), some (.ref (α 0)), some (.ref (α 1)), some (.ref (α 2)), some (.ref (α 3)), some (.ref (α 5)), some (.ref (α 6)), some (.ref (α 7)), some (.int (3 : Int32)), some (.int one), some (.int two), some (.int (one - one / ((σ 7 (ix (4 : Int32))) + (1 : Int32)) * ((σ 7 (ix (4 : Int32))) + (1 : Int32)))), some (.int (R3_j214 σ ξ one two)), some (.int (R3_j605 σ ξ one two)), some (.int a630_14), some (.int (nI k630)), some (.int ((σ 5 (ix (((3 : Int32) * (nI k630)) + (2 : Int32)))) - (1 : Int32))), some (.int (R3_j654 σ ξ one two k630 a630_14))] [.int v673_0] 721 0 0 := by
              intro v673_0 ev673_0
              try rw [ev673_0]
              clear ev673_0
              refine J_istore_14 X dL_isRead_721 rfl (by decide) ?_
              refine J_iinc_15 (v := (nI (k630 + 1))) X dL_isRead_723 (nI_1 _) rfl (by decide) ?_
              refine J_goto (tgt := 630) X dL_isRead_726 (by decide) ?_
              refine J.subL (lv' := [some (.ref r), some (.ref (α 0)), some (.ref (α 1)), some (.ref (α 2)), some (.ref (α 3)), some (.ref (α 5)), some (.ref (α 6)), some (.ref (α 7)), some (.int (3 : Int32)), some (.int one), some (.int two), some (.int (one - one / ((σ 7 (ix (4 : Int32))) + (1 : Int32)) * ((σ 7 (ix (4 : Int32))) + (1 : Int32)))), some (.int (R3_j214 σ ξ one two)), some (.int (R3_j605 σ ξ one two)), some (.int (R3_j673 σ ξ one two k630 a630_14)), some (.int (nI (k630 + 1))), none, none]) (And.intro rfl (And.intro rfl (And.intro rfl (And.intro rfl (And.intro rfl (And.intro rfl (And.intro rfl (And.intro rfl (And.intro rfl (And.intro rfl (And.intro rfl (And.intro rfl (And.intro rfl (And.intro rfl (And.intro rfl (And.intro rfl trivial)))))))))))))))) ?_
              exact ih630 (k630 + 1) (R3_j673 σ ξ one two k630 a630_14)  (by omega)  q_v q_s q_x
            have j673_0 : R3_j673 σ ξ one two k630 a630_14 = (if a630_14 = (0 : Int32) then (0 : Int32) else (if ((σ 5 (ix (((3 : Int32) * (nI k630)) + (2 : Int32)))) - (1 : Int32)) < (0 : Int32) then (1 : Int32) else (if (R3_j605 σ ξ one two) < ((((σ 6 (ix ((20 : Int32) + (R3_j654 σ ξ one two k630 a630_14)))) - (L_moon (σ 6 (ix (R3_j654 σ ξ one two k630 a630_14))))) - (20 : Int32)) - (σ 5 (ix (((3 : Int32) * (nI k630)) + (1 : Int32))))) then (0 : Int32) else (1 : Int32)))) := rfl
            refine J_if_eq (tgt := 720) X dL_isRead_673 (by decide) (fun c673 => ?_) (fun c673 => ?_)
            · skip
              rw [if_pos c673] at j673_0
              refine J_iconst (v := 0) X dL_isRead_720 rfl ?_
              exact K673_721 _ j673_0.symm
            · skip
              rw [if_neg c673] at j673_0
              refine J_iload_16 X dL_isRead_676 ?_
              refine J_if_lt (tgt := 716) X dL_isRead_678 (by decide) (fun c678 => ?_) (fun c678 => ?_)
              · skip
                rw [if_pos c678] at j673_0
                refine J_iconst (v := 1) X dL_isRead_716 rfl ?_
                refine J_goto (tgt := 721) X dL_isRead_717 (by decide) ?_
                exact K673_721 _ j673_0.symm
              · skip
                rw [if_neg c678] at j673_0
                refine J_aload_6 X dL_isRead_681 ?_
                refine J_bipush (v := (20 : Int32)) X dL_isRead_683 (by decide) ?_
                refine J_iload_17 X dL_isRead_685 ?_
                refine J_iadd X dL_isRead_687 ?_
                refine JL_ld X hL.la 6 (by decide) (vp_up (vr_add (vp_in_nI (n := 20) (N := 21) (by decide) (by decide)) (R3_at (ξ := ξ) (one := one) (two := two) hI (k := k630) (by omega) a630_14) (by decide)) (by decide)) dL_isRead_688 ?_
                refine J_aload_6 X dL_isRead_689 ?_
                refine J_iload_17 X dL_isRead_691 ?_
                refine JL_ld X hL.la 6 (by decide) (vp_up (R3_at (ξ := ξ) (one := one) (two := two) hI (k := k630) (by omega) a630_14) (by decide)) dL_isRead_693 ?_
                refine J_callS X (c_L_moon (σ 6 (ix (R3_j654 σ ξ one two k630 a630_14)))) (And.intro gw_4_134 cw_L_moon) rfl rfl (Nat.le_of_ble_eq_true rfl) dL_isRead_694 rfl (J.pi ?_) JE.no
                refine J_isub X dL_isRead_697 ?_
                refine J_bipush (v := (20 : Int32)) X dL_isRead_698 (by decide) ?_
                refine J_isub X dL_isRead_700 ?_
                refine J_aload_5 X dL_isRead_701 ?_
                refine J_iconst (v := 3) X dL_isRead_703 rfl ?_
                refine J_iload_15 X dL_isRead_704 ?_
                refine J_imul X dL_isRead_706 ?_
                refine J_iconst (v := 1) X dL_isRead_707 rfl ?_
                refine J_iadd X dL_isRead_708 ?_
                refine JL_ld X hL.la 5 (by decide) (vp_up (vr_add (vr_mul (vp_in_nI (n := 3) (N := 4) (by decide) (by decide)) (vp_in_nI (n := k630) (N := 2) (by omega) (by decide)) (by decide)) (vp_in_nI (n := 1) (N := 2) (by decide) (by decide)) (by decide)) (by decide)) dL_isRead_709 ?_
                refine J_isub X dL_isRead_710 ?_
                refine J_iload_13 X dL_isRead_711 ?_
                refine J_icmp_gt (tgt := 720) X dL_isRead_713 (by decide) (fun c713 => ?_) (fun c713 => ?_)
                · skip
                  rw [if_pos c713] at j673_0
                  refine J_iconst (v := 0) X dL_isRead_720 rfl ?_
                  exact K673_721 _ j673_0.symm
                · skip
                  rw [if_neg c713] at j673_0
                  refine J_iconst (v := 1) X dL_isRead_716 rfl ?_
                  refine J_goto (tgt := 721) X dL_isRead_717 (by decide) ?_
                  exact K673_721 _ j673_0.symm
          have j654_0 : R3_j654 σ ξ one two k630 a630_14 = (if (0 : Int32) ≤ ((σ 5 (ix (((3 : Int32) * (nI k630)) + (2 : Int32)))) - (1 : Int32)) then (((10 : Int32) * (nI k630)) + ((σ 5 (ix (((3 : Int32) * (nI k630)) + (2 : Int32)))) - (1 : Int32))) else (0 : Int32)) := rfl
          refine J_if_ge (tgt := 661) X dL_isRead_654 (by decide) (fun c654 => ?_) (fun c654 => ?_)
          · skip
            rw [if_pos c654] at j654_0
            refine J_bipush (v := (10 : Int32)) X dL_isRead_661 (by decide) ?_
            refine J_iload_15 X dL_isRead_663 ?_
            refine J_imul X dL_isRead_665 ?_
            refine J_iload_16 X dL_isRead_666 ?_
            refine J_iadd X dL_isRead_668 ?_
            exact K654_669 _ j654_0.symm
          · skip
            rw [if_neg c654] at j654_0
            refine J_iconst (v := 0) X dL_isRead_657 rfl ?_
            refine J_goto (tgt := 669) X dL_isRead_658 (by decide) ?_
            exact K654_669 _ j654_0.symm
      have q_v : (R3 σ ξ one two) = (R3_L630 σ ξ one two K630 (ix (σ 7 (ix (4 : Int32)))) 0 (1 : Int32)) := by rw [hK630]; exact q_v
      have q_s : (R3_s σ ξ one two) = (R3_L630_s σ ξ one two K630s (ix (σ 7 (ix (4 : Int32)))) 0 (1 : Int32)) := by rw [hK630s]; exact q_s
      have q_x : (R3_x σ ξ one two) = (R3_L630_x σ ξ one two K630x (ix (σ 7 (ix (4 : Int32)))) 0 (1 : Int32)) := by rw [hK630x]; exact q_x
      exact L630 (ix (σ 7 (ix (4 : Int32)))) 0 (1 : Int32)  (Nat.zero_add _)  q_v q_s q_x
    have j605_0 : R3_j605 σ ξ one two = (if (two - two / (3 : Int32) * (3 : Int32)) = (0 : Int32) then (two - two / (4000 : Int32) * (4000 : Int32)) else (two - two / (60 : Int32) * (60 : Int32))) := rfl
    refine J_if_ne (tgt := 617) X dL_isRead_605 (by decide) (fun c605 => ?_) (fun c605 => ?_)
    · skip
      rw [if_neg c605] at j605_0
      refine J_iload_10 X dL_isRead_617 ?_
      refine J_bipush (v := (60 : Int32)) X dL_isRead_619 (by decide) ?_
      refine J_irem X dL_isRead_621 (by decide) ?_
      exact K605_622 _ j605_0.symm
    · skip
      rw [if_pos c605] at j605_0
      refine J_iload_10 X dL_isRead_608 ?_
      refine J_sipush (v := (4000 : Int32)) X dL_isRead_610 (by decide) ?_
      refine J_irem X dL_isRead_613 (by decide) ?_
      refine J_goto (tgt := 622) X dL_isRead_614 (by decide) ?_
      exact K605_622 _ j605_0.symm
  have j214_0 : R3_j214 σ ξ one two = (if (σ 7 (ix (4 : Int32))) ≤ (one - one / ((σ 7 (ix (4 : Int32))) + (1 : Int32)) * ((σ 7 (ix (4 : Int32))) + (1 : Int32))) then (0 : Int32) else (1 : Int32)) := rfl
  refine J_icmp_ge (tgt := 221) X dL_isRead_214 (by decide) (fun c214 => ?_) (fun c214 => ?_)
  · skip
    rw [if_pos c214] at j214_0
    refine J_iconst (v := 0) X dL_isRead_221 rfl ?_
    exact K214_222 _ j214_0.symm
  · skip
    rw [if_neg c214] at j214_0
    refine J_iconst (v := 1) X dL_isRead_217 rfl ?_
    refine J_goto (tgt := 222) X dL_isRead_218 (by decide) ?_
    exact K214_222 _ j214_0.symm
end
