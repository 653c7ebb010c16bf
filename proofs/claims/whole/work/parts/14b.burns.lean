noncomputable section
def M_burns_j20 (σ : St) (p1 : Int32) : Int32 := (if (σ 20 (ix p1)) = (σ 21 (ix p1)) then (1 : Int32) else (if (σ 21 (ix p1)) ≤ (σ 20 (ix p1)) then (if (σ 20 (ix p1)) ≤ ((σ 0 0) - (σ 0 0) / (24 : Int32) * (24 : Int32)) then (1 : Int32) else (if (σ 21 (ix p1)) ≤ ((σ 0 0) - (σ 0 0) / (24 : Int32) * (24 : Int32)) then (0 : Int32) else (1 : Int32))) else (if ((σ 0 0) - (σ 0 0) / (24 : Int32) * (24 : Int32)) < (σ 20 (ix p1)) then (0 : Int32) else (if (σ 21 (ix p1)) ≤ ((σ 0 0) - (σ 0 0) / (24 : Int32) * (24 : Int32)) then (0 : Int32) else (1 : Int32)))))
theorem M_burns_j20_b (σ : St) (p1 : Int32) : M_burns_j20 σ p1 = 0 ∨ M_burns_j20 σ p1 = 1 := by
  unfold M_burns_j20
  (repeat' split) <;> first | exact Or.inl rfl | exact Or.inr rfl
def M_burns_j109 (σ : St) (p1 : Int32) : Int32 := (if (σ 4 (ix (σ 3 (ix (σ 15 (ix p1)))))) = (24 : Int32) then (0 : Int32) else (if (σ 4 (ix (σ 3 (ix (σ 15 (ix p1)))))) ≤ ((σ 0 0) - (σ 0 0) / (24 : Int32) * (24 : Int32)) then (1 : Int32) else (if (6 : Int32) ≤ ((σ 0 0) - (σ 0 0) / (24 : Int32) * (24 : Int32)) then (0 : Int32) else (1 : Int32))))
theorem M_burns_j109_b (σ : St) (p1 : Int32) : M_burns_j109 σ p1 = 0 ∨ M_burns_j109 σ p1 = 1 := by
  unfold M_burns_j109
  (repeat' split) <;> first | exact Or.inl rfl | exact Or.inr rfl
def M_burns_j142 (σ : St) (p1 : Int32) : Int32 := (if (σ 22 (ix p1)) = (0 : Int32) then (if (1000 : Int32) ≤ ((σ 0 0) / (24 : Int32)) then (0 : Int32) else (if (σ 7 (ix (((1000 : Int32) * (σ 3 (ix (σ 15 (ix p1))))) + ((σ 0 0) / (24 : Int32))))) = (0 : Int32) then (0 : Int32) else (1 : Int32))) else (1 : Int32))
theorem M_burns_j142_b (σ : St) (p1 : Int32) : M_burns_j142 σ p1 = 0 ∨ M_burns_j142 σ p1 = 1 := by
  unfold M_burns_j142
  (repeat' split) <;> first | exact Or.inl rfl | exact Or.inr rfl
def M_burns_j188 (σ : St) (p1 : Int32) : Int32 := (if (M_burns_j20 σ p1) = (0 : Int32) then (0 : Int32) else (if (σ 0 0) < (σ 12 (ix (σ 14 (ix p1)))) then (0 : Int32) else (if (M_burns_j109 σ p1) = (0 : Int32) then (1 : Int32) else (if (M_burns_j142 σ p1) = (0 : Int32) then (0 : Int32) else (1 : Int32)))))
theorem M_burns_j188_b (σ : St) (p1 : Int32) : M_burns_j188 σ p1 = 0 ∨ M_burns_j188 σ p1 = 1 := by
  unfold M_burns_j188
  (repeat' split) <;> first | exact Or.inl rfl | exact Or.inr rfl
def M_burns (σ : St) (p1 : Int32) : Int32 := (M_burns_j188 σ p1)
theorem M_burns_b (σ : St) (p1 : Int32) : (M_burns σ p1) = 0 ∨ (M_burns σ p1) = 1 := by
  unfold M_burns
  (repeat' split) <;> first | exact Or.inl rfl | exact Or.inr rfl | exact M_burns_j188_b ..
theorem cw_X11_burns : Cond.instanceMethod yX11_burns ∈ GW ∧ Cond.selects RX11 yX11_burns yX11_burns ∈ GW ∧ Cond.initialized RX11 ∈ GW ∧ Cond.code yX11_burns cX11_burns 7 (some .boolean) ∈ GW ∧ yX11_burns.cls = RX11 ∧ (yX11_burns.cls ≠ "java/lang/invoke/MethodHandle" ∧ yX11_burns.cls ≠ "java/lang/invoke/VarHandle") ∧ (parseMethodDescriptor yX11_burns.desc).map (fun d => d.parameters.length) = some 1 := ⟨gw_5_180, gws_24, gw_1_14, gw_5_181, rfl, ⟨by decide, by decide⟩, by decide +kernel⟩
set_option maxRecDepth 100000 in
set_option maxHeartbeats 4000000 in
theorem c_M_burns {l : Launch} {D : va_G} {ca : Nat → Nat} {h : fH} {m : Nat} {ρ : Nat → Nat} {σ : St} (hR : RM ca h m ρ σ) (hI : Inv σ) (p1 : Int32) (hp1 : vp_in p1 40) : FM l D ca yX11_burns (.code yX11_burns cX11_burns 7 (some .boolean)) { frames := 1, cells := 0, slots := 0, locals := 20 } [.ref m, .int p1] h (pI (M_burns σ p1) h) noX := by
  refine FM.of [some (.ref m), some (.int p1), none, none, none, none, none] (by decide) (Nat.le_of_ble_eq_true rfl) rfl ?_
  rintro K X rfl rfl rfl
  have q_v : (M_burns σ p1) = (M_burns_j188 σ p1) := rfl
  refine J_aload_0 X dX11_burns_0 ?_
  refine JM_get X hR 0 (by decide) rfl rfl gw_5_10 dX11_burns_1 ?_
  refine J_bipush (v := (24 : Int32)) X dX11_burns_4 (by decide) ?_
  refine J_irem X dX11_burns_6 (by decide) ?_
  refine J_istore_2 X dX11_burns_7 rfl (by decide) ?_
  refine J_aload_0 X dX11_burns_8 ?_
  refine JM_get X hR 20 (by decide) rfl rfl gw_5_30 dX11_burns_9 ?_
  refine J_iload_1 X dX11_burns_12 ?_
  refine JM_ald X hR 20 rfl rfl hp1 dX11_burns_13 ?_
  refine J_aload_0 X dX11_burns_14 ?_
  refine JM_get X hR 21 (by decide) rfl rfl gw_5_31 dX11_burns_15 ?_
  refine J_iload_1 X dX11_burns_18 ?_
  refine JM_ald X hR 21 rfl rfl hp1 dX11_burns_19 ?_
  have K20_86 : ∀ (v20_0 : Int32), v20_0 = (M_burns_j20 σ p1) → J K h [some (.ref m), some (.int p1), some (.int ((σ 0 0) - (σ 0 0) / (24 : Int32) * (24 : Int32))), none, none, none, none] [.int v20_0] 86 0 0 := by
    intro v20_0 ev20_0
    try rw [ev20_0]
    clear ev20_0
    refine J_istore_3 X dX11_burns_86 rfl (by decide) ?_
    refine J_aload_0 X dX11_burns_87 ?_
    refine JM_get X hR 3 (by decide) rfl rfl gw_5_13 dX11_burns_88 ?_
    refine J_aload_0 X dX11_burns_91 ?_
    refine JM_get X hR 15 (by decide) rfl rfl gw_5_25 dX11_burns_92 ?_
    refine J_iload_1 X dX11_burns_95 ?_
    refine JM_ald X hR 15 rfl rfl hp1 dX11_burns_96 ?_
    refine JM_ald X hR 3 rfl rfl (Inv_place hI (vp_lt hp1)) dX11_burns_97 ?_
    refine J_istore_4 X dX11_burns_98 rfl (by decide) ?_
    refine J_aload_0 X dX11_burns_100 ?_
    refine JM_get X hR 4 (by decide) rfl rfl gw_5_14 dX11_burns_101 ?_
    refine J_iload_4 X dX11_burns_104 ?_
    refine JM_ald X hR 4 rfl rfl (Inv_zone hI (vp_lt (Inv_place hI (vp_lt hp1)))) dX11_burns_106 ?_
    refine J_bipush (v := (24 : Int32)) X dX11_burns_107 (by decide) ?_
    have K109_134 : ∀ (v109_0 : Int32), v109_0 = (M_burns_j109 σ p1) → J K h [some (.ref m), some (.int p1), some (.int ((σ 0 0) - (σ 0 0) / (24 : Int32) * (24 : Int32))), some (.int (M_burns_j20 σ p1)), some (.int (σ 3 (ix (σ 15 (ix p1))))), none, none] [.int v109_0] 134 0 0 := by
      intro v109_0 ev109_0
      try rw [ev109_0]
      clear ev109_0
      refine J_istore_5 X dX11_burns_134 rfl (by decide) ?_
      refine J_aload_0 X dX11_burns_136 ?_
      refine JM_get X hR 22 (by decide) rfl rfl gw_5_32 dX11_burns_137 ?_
      refine J_iload_1 X dX11_burns_140 ?_
      refine JM_zld X hR 22 rfl rfl hp1 dX11_burns_141 ?_
      have K142_185 : ∀ (v142_0 : Int32), v142_0 = (M_burns_j142 σ p1) → J K h [some (.ref m), some (.int p1), some (.int ((σ 0 0) - (σ 0 0) / (24 : Int32) * (24 : Int32))), some (.int (M_burns_j20 σ p1)), some (.int (σ 3 (ix (σ 15 (ix p1))))), some (.int (M_burns_j109 σ p1)), none] [.int v142_0] 185 0 0 := by
        intro v142_0 ev142_0
        try rw [ev142_0]
        clear ev142_0
        refine J_istore_6 X dX11_burns_185 rfl (by decide) ?_
        refine J_iload_3 X dX11_burns_187 ?_
        have K188_224 : ∀ (v188_0 : Int32), v188_0 = (M_burns_j188 σ p1) → J K h [some (.ref m), some (.int p1), some (.int ((σ 0 0) - (σ 0 0) / (24 : Int32) * (24 : Int32))), some (.int (M_burns_j20 σ p1)), some (.int (σ 3 (ix (σ 15 (ix p1))))), some (.int (M_burns_j109 σ p1)), some (.int (M_burns_j142 σ p1))] [.int v188_0] 224 0 0 := by
          intro v188_0 ev188_0
          try rw [ev188_0]
          clear ev188_0
          exact J_zret X rfl (M_burns_j188_b ..) rfl ⟨by rw [q_v], rfl⟩ dX11_burns_224
        have j188_0 : M_burns_j188 σ p1 = (if (M_burns_j20 σ p1) = (0 : Int32) then (0 : Int32) else (if (σ 0 0) < (σ 12 (ix (σ 14 (ix p1)))) then (0 : Int32) else (if (M_burns_j109 σ p1) = (0 : Int32) then (1 : Int32) else (if (M_burns_j142 σ p1) = (0 : Int32) then (0 : Int32) else (1 : Int32))))) := rfl
        refine J_if_eq (tgt := 223) X dX11_burns_188 (by decide) (fun c188 => ?_) (fun c188 => ?_)
        · skip
          rw [if_pos c188] at j188_0
          refine J_iconst (v := 0) X dX11_burns_223 rfl ?_
          exact K188_224 _ j188_0.symm
        · skip
          rw [if_neg c188] at j188_0
          refine J_aload_0 X dX11_burns_191 ?_
          refine JM_get X hR 0 (by decide) rfl rfl gw_5_10 dX11_burns_192 ?_
          refine J_aload_0 X dX11_burns_195 ?_
          refine JM_get X hR 12 (by decide) rfl rfl gw_5_22 dX11_burns_196 ?_
          refine J_aload_0 X dX11_burns_199 ?_
          refine JM_get X hR 14 (by decide) rfl rfl gw_5_24 dX11_burns_200 ?_
          refine J_iload_1 X dX11_burns_203 ?_
          refine JM_ald X hR 14 rfl rfl hp1 dX11_burns_204 ?_
          refine JM_ald X hR 12 rfl rfl (Inv_owner hI (vp_lt hp1)) dX11_burns_205 ?_
          refine J_icmp_lt (tgt := 223) X dX11_burns_206 (by decide) (fun c206 => ?_) (fun c206 => ?_)
          · skip
            rw [if_pos c206] at j188_0
            refine J_iconst (v := 0) X dX11_burns_223 rfl ?_
            exact K188_224 _ j188_0.symm
          · skip
            rw [if_neg c206] at j188_0
            refine J_iload_5 X dX11_burns_209 ?_
            refine J_if_eq (tgt := 219) X dX11_burns_211 (by decide) (fun c211 => ?_) (fun c211 => ?_)
            · skip
              rw [if_pos c211] at j188_0
              refine J_iconst (v := 1) X dX11_burns_219 rfl ?_
              refine J_goto (tgt := 224) X dX11_burns_220 (by decide) ?_
              exact K188_224 _ j188_0.symm
            · skip
              rw [if_neg c211] at j188_0
              refine J_iload_6 X dX11_burns_214 ?_
              refine J_if_eq (tgt := 223) X dX11_burns_216 (by decide) (fun c216 => ?_) (fun c216 => ?_)
              · skip
                rw [if_pos c216] at j188_0
                refine J_iconst (v := 0) X dX11_burns_223 rfl ?_
                exact K188_224 _ j188_0.symm
              · skip
                rw [if_neg c216] at j188_0
                refine J_iconst (v := 1) X dX11_burns_219 rfl ?_
                refine J_goto (tgt := 224) X dX11_burns_220 (by decide) ?_
                exact K188_224 _ j188_0.symm
      have j142_0 : M_burns_j142 σ p1 = (if (σ 22 (ix p1)) = (0 : Int32) then (if (1000 : Int32) ≤ ((σ 0 0) / (24 : Int32)) then (0 : Int32) else (if (σ 7 (ix (((1000 : Int32) * (σ 3 (ix (σ 15 (ix p1))))) + ((σ 0 0) / (24 : Int32))))) = (0 : Int32) then (0 : Int32) else (1 : Int32))) else (1 : Int32)) := rfl
      refine J_if_ne (tgt := 180) X dX11_burns_142 (by decide) (fun c142 => ?_) (fun c142 => ?_)
      · skip
        rw [if_neg c142] at j142_0
        refine J_iconst (v := 1) X dX11_burns_180 rfl ?_
        refine J_goto (tgt := 185) X dX11_burns_181 (by decide) ?_
        exact K142_185 _ j142_0.symm
      · skip
        rw [if_pos c142] at j142_0
        refine J_aload_0 X dX11_burns_145 ?_
        refine JM_get X hR 0 (by decide) rfl rfl gw_5_10 dX11_burns_146 ?_
        refine J_bipush (v := (24 : Int32)) X dX11_burns_149 (by decide) ?_
        refine J_idiv X dX11_burns_151 (by decide) ?_
        refine J_sipush (v := (1000 : Int32)) X dX11_burns_152 (by decide) ?_
        refine J_icmp_ge (tgt := 184) X dX11_burns_155 (by decide) (fun c155 => ?_) (fun c155 => ?_)
        · skip
          rw [if_pos c155] at j142_0
          refine J_iconst (v := 0) X dX11_burns_184 rfl ?_
          exact K142_185 _ j142_0.symm
        · skip
          rw [if_neg c155] at j142_0
          refine J_aload_0 X dX11_burns_158 ?_
          refine JM_get X hR 7 (by decide) rfl rfl gw_5_17 dX11_burns_159 ?_
          refine J_sipush (v := (1000 : Int32)) X dX11_burns_162 (by decide) ?_
          refine J_iload_4 X dX11_burns_165 ?_
          refine J_imul X dX11_burns_167 ?_
          refine J_aload_0 X dX11_burns_168 ?_
          refine JM_get X hR 0 (by decide) rfl rfl gw_5_10 dX11_burns_169 ?_
          refine J_bipush (v := (24 : Int32)) X dX11_burns_172 (by decide) ?_
          refine J_idiv X dX11_burns_174 (by decide) ?_
          refine J_iadd X dX11_burns_175 ?_
          refine JM_zld X hR 7 rfl rfl (feastix (Inv_zone hI (vp_lt (Inv_place hI (vp_lt hp1)))) (div24 (hI 0 0))) dX11_burns_176 ?_
          refine J_if_eq (tgt := 184) X dX11_burns_177 (by decide) (fun c177 => ?_) (fun c177 => ?_)
          · skip
            rw [if_pos c177] at j142_0
            refine J_iconst (v := 0) X dX11_burns_184 rfl ?_
            exact K142_185 _ j142_0.symm
          · skip
            rw [if_neg c177] at j142_0
            refine J_iconst (v := 1) X dX11_burns_180 rfl ?_
            refine J_goto (tgt := 185) X dX11_burns_181 (by decide) ?_
            exact K142_185 _ j142_0.symm
    have j109_0 : M_burns_j109 σ p1 = (if (σ 4 (ix (σ 3 (ix (σ 15 (ix p1)))))) = (24 : Int32) then (0 : Int32) else (if (σ 4 (ix (σ 3 (ix (σ 15 (ix p1)))))) ≤ ((σ 0 0) - (σ 0 0) / (24 : Int32) * (24 : Int32)) then (1 : Int32) else (if (6 : Int32) ≤ ((σ 0 0) - (σ 0 0) / (24 : Int32) * (24 : Int32)) then (0 : Int32) else (1 : Int32)))) := rfl
    refine J_icmp_eq (tgt := 133) X dX11_burns_109 (by decide) (fun c109 => ?_) (fun c109 => ?_)
    · skip
      rw [if_pos c109] at j109_0
      refine J_iconst (v := 0) X dX11_burns_133 rfl ?_
      exact K109_134 _ j109_0.symm
    · skip
      rw [if_neg c109] at j109_0
      refine J_iload_2 X dX11_burns_112 ?_
      refine J_aload_0 X dX11_burns_113 ?_
      refine JM_get X hR 4 (by decide) rfl rfl gw_5_14 dX11_burns_114 ?_
      refine J_iload_4 X dX11_burns_117 ?_
      refine JM_ald X hR 4 rfl rfl (Inv_zone hI (vp_lt (Inv_place hI (vp_lt hp1)))) dX11_burns_119 ?_
      refine J_icmp_ge (tgt := 129) X dX11_burns_120 (by decide) (fun c120 => ?_) (fun c120 => ?_)
      · skip
        rw [if_pos c120] at j109_0
        refine J_iconst (v := 1) X dX11_burns_129 rfl ?_
        refine J_goto (tgt := 134) X dX11_burns_130 (by decide) ?_
        exact K109_134 _ j109_0.symm
      · skip
        rw [if_neg c120] at j109_0
        refine J_iload_2 X dX11_burns_123 ?_
        refine J_bipush (v := (6 : Int32)) X dX11_burns_124 (by decide) ?_
        refine J_icmp_ge (tgt := 133) X dX11_burns_126 (by decide) (fun c126 => ?_) (fun c126 => ?_)
        · skip
          rw [if_pos c126] at j109_0
          refine J_iconst (v := 0) X dX11_burns_133 rfl ?_
          exact K109_134 _ j109_0.symm
        · skip
          rw [if_neg c126] at j109_0
          refine J_iconst (v := 1) X dX11_burns_129 rfl ?_
          refine J_goto (tgt := 134) X dX11_burns_130 (by decide) ?_
          exact K109_134 _ j109_0.symm
  have j20_0 : M_burns_j20 σ p1 = (if (σ 20 (ix p1)) = (σ 21 (ix p1)) then (1 : Int32) else (if (σ 21 (ix p1)) ≤ (σ 20 (ix p1)) then (if (σ 20 (ix p1)) ≤ ((σ 0 0) - (σ 0 0) / (24 : Int32) * (24 : Int32)) then (1 : Int32) else (if (σ 21 (ix p1)) ≤ ((σ 0 0) - (σ 0 0) / (24 : Int32) * (24 : Int32)) then (0 : Int32) else (1 : Int32))) else (if ((σ 0 0) - (σ 0 0) / (24 : Int32) * (24 : Int32)) < (σ 20 (ix p1)) then (0 : Int32) else (if (σ 21 (ix p1)) ≤ ((σ 0 0) - (σ 0 0) / (24 : Int32) * (24 : Int32)) then (0 : Int32) else (1 : Int32))))) := rfl
  refine J_icmp_eq (tgt := 81) X dX11_burns_20 (by decide) (fun c20 => ?_) (fun c20 => ?_)
  · skip
    rw [if_pos c20] at j20_0
    refine J_iconst (v := 1) X dX11_burns_81 rfl ?_
    refine J_goto (tgt := 86) X dX11_burns_82 (by decide) ?_
    exact K20_86 _ j20_0.symm
  · skip
    rw [if_neg c20] at j20_0
    refine J_aload_0 X dX11_burns_23 ?_
    refine JM_get X hR 20 (by decide) rfl rfl gw_5_30 dX11_burns_24 ?_
    refine J_iload_1 X dX11_burns_27 ?_
    refine JM_ald X hR 20 rfl rfl hp1 dX11_burns_28 ?_
    refine J_aload_0 X dX11_burns_29 ?_
    refine JM_get X hR 21 (by decide) rfl rfl gw_5_31 dX11_burns_30 ?_
    refine J_iload_1 X dX11_burns_33 ?_
    refine JM_ald X hR 21 rfl rfl hp1 dX11_burns_34 ?_
    refine J_icmp_ge (tgt := 61) X dX11_burns_35 (by decide) (fun c35 => ?_) (fun c35 => ?_)
    · skip
      rw [if_pos c35] at j20_0
      refine J_iload_2 X dX11_burns_61 ?_
      refine J_aload_0 X dX11_burns_62 ?_
      refine JM_get X hR 20 (by decide) rfl rfl gw_5_30 dX11_burns_63 ?_
      refine J_iload_1 X dX11_burns_66 ?_
      refine JM_ald X hR 20 rfl rfl hp1 dX11_burns_67 ?_
      refine J_icmp_ge (tgt := 81) X dX11_burns_68 (by decide) (fun c68 => ?_) (fun c68 => ?_)
      · skip
        rw [if_pos c68] at j20_0
        refine J_iconst (v := 1) X dX11_burns_81 rfl ?_
        refine J_goto (tgt := 86) X dX11_burns_82 (by decide) ?_
        exact K20_86 _ j20_0.symm
      · skip
        rw [if_neg c68] at j20_0
        refine J_iload_2 X dX11_burns_71 ?_
        refine J_aload_0 X dX11_burns_72 ?_
        refine JM_get X hR 21 (by decide) rfl rfl gw_5_31 dX11_burns_73 ?_
        refine J_iload_1 X dX11_burns_76 ?_
        refine JM_ald X hR 21 rfl rfl hp1 dX11_burns_77 ?_
        refine J_icmp_ge (tgt := 85) X dX11_burns_78 (by decide) (fun c78 => ?_) (fun c78 => ?_)
        · skip
          rw [if_pos c78] at j20_0
          refine J_iconst (v := 0) X dX11_burns_85 rfl ?_
          exact K20_86 _ j20_0.symm
        · skip
          rw [if_neg c78] at j20_0
          refine J_iconst (v := 1) X dX11_burns_81 rfl ?_
          refine J_goto (tgt := 86) X dX11_burns_82 (by decide) ?_
          exact K20_86 _ j20_0.symm
    · skip
      rw [if_neg c35] at j20_0
      refine J_iload_2 X dX11_burns_38 ?_
      refine J_aload_0 X dX11_burns_39 ?_
      refine JM_get X hR 20 (by decide) rfl rfl gw_5_30 dX11_burns_40 ?_
      refine J_iload_1 X dX11_burns_43 ?_
      refine JM_ald X hR 20 rfl rfl hp1 dX11_burns_44 ?_
      refine J_icmp_lt (tgt := 85) X dX11_burns_45 (by decide) (fun c45 => ?_) (fun c45 => ?_)
      · skip
        rw [if_pos c45] at j20_0
        refine J_iconst (v := 0) X dX11_burns_85 rfl ?_
        exact K20_86 _ j20_0.symm
      · skip
        rw [if_neg c45] at j20_0
        refine J_iload_2 X dX11_burns_48 ?_
        refine J_aload_0 X dX11_burns_49 ?_
        refine JM_get X hR 21 (by decide) rfl rfl gw_5_31 dX11_burns_50 ?_
        refine J_iload_1 X dX11_burns_53 ?_
        refine JM_ald X hR 21 rfl rfl hp1 dX11_burns_54 ?_
        refine J_icmp_ge (tgt := 85) X dX11_burns_55 (by decide) (fun c55 => ?_) (fun c55 => ?_)
        · skip
          rw [if_pos c55] at j20_0
          refine J_iconst (v := 0) X dX11_burns_85 rfl ?_
          exact K20_86 _ j20_0.symm
        · skip
          rw [if_neg c55] at j20_0
          refine J_goto (tgt := 81) X dX11_burns_58 (by decide) ?_
          refine J_iconst (v := 1) X dX11_burns_81 rfl ?_
          refine J_goto (tgt := 86) X dX11_burns_82 (by decide) ?_
          exact K20_86 _ j20_0.symm
end
