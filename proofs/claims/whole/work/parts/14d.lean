noncomputable section
def M_isShaded_j48 (σ : St) (p1 : Int32) (p2 : Int32) : Int32 := (if (M_size ((p2 - p2 / (8 : Int32) * (8 : Int32)) - ((σ 15 (ix p1)) - (σ 15 (ix p1)) / (8 : Int32) * (8 : Int32)))) ≤ (M_size ((p2 / (8 : Int32)) - ((σ 15 (ix p1)) / (8 : Int32)))) then (M_size ((p2 / (8 : Int32)) - ((σ 15 (ix p1)) / (8 : Int32)))) else (M_size ((p2 - p2 / (8 : Int32) * (8 : Int32)) - ((σ 15 (ix p1)) - (σ 15 (ix p1)) / (8 : Int32) * (8 : Int32)))))
def M_isShaded_j106 (σ : St) (p1 : Int32) (p2 : Int32) (k72 : Nat) (a72_8 : Int32) : Int32 := (if (0 : Int32) < ((((nI k72) - (nI k72) / (8 : Int32) * (8 : Int32)) - ((σ 15 (ix p1)) - (σ 15 (ix p1)) / (8 : Int32) * (8 : Int32))) * ((((nI k72) - (nI k72) / (8 : Int32) * (8 : Int32)) - ((σ 15 (ix p1)) - (σ 15 (ix p1)) / (8 : Int32) * (8 : Int32))) - ((p2 - p2 / (8 : Int32) * (8 : Int32)) - ((σ 15 (ix p1)) - (σ 15 (ix p1)) / (8 : Int32) * (8 : Int32))))) then (0 : Int32) else (if (0 : Int32) < ((((nI k72) / (8 : Int32)) - ((σ 15 (ix p1)) / (8 : Int32))) * ((((nI k72) / (8 : Int32)) - ((σ 15 (ix p1)) / (8 : Int32))) - ((p2 / (8 : Int32)) - ((σ 15 (ix p1)) / (8 : Int32))))) then (0 : Int32) else (1 : Int32)))
theorem M_isShaded_j106_b (σ : St) (p1 : Int32) (p2 : Int32) (k72 : Nat) (a72_8 : Int32) : M_isShaded_j106 σ p1 p2 k72 a72_8 = 0 ∨ M_isShaded_j106 σ p1 p2 k72 a72_8 = 1 := by
  unfold M_isShaded_j106
  (repeat' split) <;> first | exact Or.inl rfl | exact Or.inr rfl
def M_isShaded_j129 (σ : St) (p1 : Int32) (p2 : Int32) (k72 : Nat) (a72_8 : Int32) : Int32 := (if a72_8 = (0 : Int32) then (if (σ 2 (ix (nI k72))) = (0 : Int32) then (0 : Int32) else (if (nI k72) = p2 then (0 : Int32) else (if (nI k72) = (σ 15 (ix p1)) then (0 : Int32) else (if (M_isShaded_j106 σ p1 p2 k72 a72_8) = (0 : Int32) then (0 : Int32) else (if (M_isShaded_j48 σ p1 p2) < ((2 : Int32) * (M_size ((((p2 - p2 / (8 : Int32) * (8 : Int32)) - ((σ 15 (ix p1)) - (σ 15 (ix p1)) / (8 : Int32) * (8 : Int32))) * (((nI k72) / (8 : Int32)) - ((σ 15 (ix p1)) / (8 : Int32)))) - (((p2 / (8 : Int32)) - ((σ 15 (ix p1)) / (8 : Int32))) * (((nI k72) - (nI k72) / (8 : Int32) * (8 : Int32)) - ((σ 15 (ix p1)) - (σ 15 (ix p1)) / (8 : Int32) * (8 : Int32))))))) then (0 : Int32) else (1 : Int32)))))) else (1 : Int32))
theorem M_isShaded_j129_b (σ : St) (p1 : Int32) (p2 : Int32) (k72 : Nat) (a72_8 : Int32) : M_isShaded_j129 σ p1 p2 k72 a72_8 = 0 ∨ M_isShaded_j129 σ p1 p2 k72 a72_8 = 1 := by
  unfold M_isShaded_j129
  (repeat' split) <;> first | exact Or.inl rfl | exact Or.inr rfl
def M_isShaded_L72 (σ : St) (p1 : Int32) (p2 : Int32) (K72 : Int32 → Int32) : Nat → Nat → Int32 → Int32
  | 0, _, a72_8 => K72 a72_8
  | n72 + 1, k72, a72_8 => (M_isShaded_L72 σ p1 p2 K72 n72 (k72 + 1) (M_isShaded_j129 σ p1 p2 k72 a72_8))
def M_isShaded (σ : St) (p1 : Int32) (p2 : Int32) : Int32 := (M_isShaded_L72 σ p1 p2 (fun a72_8 => a72_8) n64 0 (0 : Int32))
theorem cw_X11_isShaded : Cond.instanceMethod yX11_isShaded ∈ GW ∧ Cond.selects RX11 yX11_isShaded yX11_isShaded ∈ GW ∧ Cond.initialized RX11 ∈ GW ∧ Cond.code yX11_isShaded cX11_isShaded 13 (some .boolean) ∈ GW ∧ yX11_isShaded.cls = RX11 ∧ (yX11_isShaded.cls ≠ "java/lang/invoke/MethodHandle" ∧ yX11_isShaded.cls ≠ "java/lang/invoke/VarHandle") ∧ (parseMethodDescriptor yX11_isShaded.desc).map (fun d => d.parameters.length) = some 2 := ⟨gw_6_21, gws_35, gw_1_14, gw_6_22, rfl, ⟨by decide, by decide⟩, by decide +kernel⟩
set_option maxRecDepth 100000 in
set_option maxHeartbeats 4000000 in
theorem c_M_isShaded {l : Launch} {D : va_G} {ca : Nat → Nat} {h : fH} {m : Nat} {ρ : Nat → Nat} {σ : St} (hR : RM ca h m ρ σ) (hI : Inv σ) (p1 : Int32) (p2 : Int32) (hp1 : vp_in p1 40) : FM l D ca yX11_isShaded (.code yX11_isShaded cX11_isShaded 13 (some .boolean)) { frames := 2, cells := 0, slots := 0, locals := 40 } [.ref m, .int p1, .int p2] h (pI (M_isShaded σ p1 p2) h) noX := by
  refine FM.of [some (.ref m), some (.int p1), some (.int p2), none, none, none, none, none, none, none, none, none, none] (by decide) (Nat.le_of_ble_eq_true rfl) rfl ?_
  rintro K X rfl rfl rfl
  have q_v : (M_isShaded σ p1 p2) = (M_isShaded_L72 σ p1 p2 (fun a72_8 => a72_8) n64 0 (0 : Int32)) := rfl
  refine J_aload_0 X dX11_isShaded_0 ?_
  refine JM_get X hR 15 (by decide) rfl rfl gw_5_25 dX11_isShaded_1 ?_
  refine J_iload_1 X dX11_isShaded_4 ?_
  refine JM_ald X hR 15 rfl rfl hp1 dX11_isShaded_5 ?_
  refine J_bipush (v := (8 : Int32)) X dX11_isShaded_6 (by decide) ?_
  refine J_irem X dX11_isShaded_8 (by decide) ?_
  refine J_istore_3 X dX11_isShaded_9 rfl (by decide) ?_
  refine J_aload_0 X dX11_isShaded_10 ?_
  refine JM_get X hR 15 (by decide) rfl rfl gw_5_25 dX11_isShaded_11 ?_
  refine J_iload_1 X dX11_isShaded_14 ?_
  refine JM_ald X hR 15 rfl rfl hp1 dX11_isShaded_15 ?_
  refine J_bipush (v := (8 : Int32)) X dX11_isShaded_16 (by decide) ?_
  refine J_idiv X dX11_isShaded_18 (by decide) ?_
  refine J_istore_4 X dX11_isShaded_19 rfl (by decide) ?_
  refine J_iload_2 X dX11_isShaded_21 ?_
  refine J_bipush (v := (8 : Int32)) X dX11_isShaded_22 (by decide) ?_
  refine J_irem X dX11_isShaded_24 (by decide) ?_
  refine J_iload_3 X dX11_isShaded_25 ?_
  refine J_isub X dX11_isShaded_26 ?_
  refine J_istore_5 X dX11_isShaded_27 rfl (by decide) ?_
  refine J_iload_2 X dX11_isShaded_29 ?_
  refine J_bipush (v := (8 : Int32)) X dX11_isShaded_30 (by decide) ?_
  refine J_idiv X dX11_isShaded_32 (by decide) ?_
  refine J_iload_4 X dX11_isShaded_33 ?_
  refine J_isub X dX11_isShaded_35 ?_
  refine J_istore_6 X dX11_isShaded_36 rfl (by decide) ?_
  refine J_iload_5 X dX11_isShaded_38 ?_
  refine J_callS X (c_M_size ((p2 - p2 / (8 : Int32) * (8 : Int32)) - ((σ 15 (ix p1)) - (σ 15 (ix p1)) / (8 : Int32) * (8 : Int32)))) (And.intro gw_6_23 cw_X11_size) rfl rfl (Nat.le_of_ble_eq_true rfl) dX11_isShaded_40 rfl (J.pi ?_) JE.no
  refine J_iload_6 X dX11_isShaded_43 ?_
  refine J_callS X (c_M_size ((p2 / (8 : Int32)) - ((σ 15 (ix p1)) / (8 : Int32)))) (And.intro gw_6_23 cw_X11_size) rfl rfl (Nat.le_of_ble_eq_true rfl) dX11_isShaded_45 rfl (J.pi ?_) JE.no
  have K48_64 : ∀ (v48_0 : Int32), v48_0 = (M_isShaded_j48 σ p1 p2) → J K h [some (.ref m), some (.int p1), some (.int p2), some (.int ((σ 15 (ix p1)) - (σ 15 (ix p1)) / (8 : Int32) * (8 : Int32))), some (.int ((σ 15 (ix p1)) / (8 : Int32))), some (.int ((p2 - p2 / (8 : Int32) * (8 : Int32)) - ((σ 15 (ix p1)) - (σ 15 (ix p1)) / (8 : Int32) * (8 : Int32)))), some (.int ((p2 / (8 : Int32)) - ((σ 15 (ix p1)) / (8 : Int32)))), none, none, none, none, none, none] [.int v48_0] 64 0 0 := by
    intro v48_0 ev48_0
    try rw [ev48_0]
    clear ev48_0
    refine J_istore_7 X dX11_isShaded_64 rfl (by decide) ?_
    refine J_iconst (v := 0) X dX11_isShaded_66 rfl ?_
    refine J_istore_8 X dX11_isShaded_67 rfl (by decide) ?_
    refine J_iconst (v := 0) X dX11_isShaded_69 rfl ?_
    refine J_istore_9 X dX11_isShaded_70 rfl (by decide) ?_
    have hle := n64_eq
    obtain ⟨K72, hK72⟩ : ∃ f : Int32 → Int32, f = (fun a72_8 => a72_8) := ⟨_, rfl⟩
    have X72 : ∀ (a72_8 : Int32) (_ : True), a72_8 = 0 ∨ a72_8 = 1 → (M_isShaded σ p1 p2) = a72_8 → J K h [some (.ref m), some (.int p1), some (.int p2), some (.int ((σ 15 (ix p1)) - (σ 15 (ix p1)) / (8 : Int32) * (8 : Int32))), some (.int ((σ 15 (ix p1)) / (8 : Int32))), some (.int ((p2 - p2 / (8 : Int32) * (8 : Int32)) - ((σ 15 (ix p1)) - (σ 15 (ix p1)) / (8 : Int32) * (8 : Int32)))), some (.int ((p2 / (8 : Int32)) - ((σ 15 (ix p1)) / (8 : Int32)))), some (.int (M_isShaded_j48 σ p1 p2)), some (.int a72_8), none, none, none, none] [] 198 0 0 := by
      intro a72_8  _ hb72 q_v
      refine J_iload_8 X dX11_isShaded_198 ?_
      exact J_zret X rfl hb72 rfl ⟨by rw [q_v], rfl⟩ dX11_isShaded_200
    have L72 : ∀ (n72 k72 : Nat) (a72_8 : Int32), k72 + n72 = n64 → a72_8 = 0 ∨ a72_8 = 1 → (M_isShaded σ p1 p2) = (M_isShaded_L72 σ p1 p2 K72 n72 k72 a72_8) → J K h [some (.ref m), some (.int p1), some (.int p2), some (.int ((σ 15 (ix p1)) - (σ 15 (ix p1)) / (8 : Int32) * (8 : Int32))), some (.int ((σ 15 (ix p1)) / (8 : Int32))), some (.int ((p2 - p2 / (8 : Int32) * (8 : Int32)) - ((σ 15 (ix p1)) - (σ 15 (ix p1)) / (8 : Int32) * (8 : Int32)))), some (.int ((p2 / (8 : Int32)) - ((σ 15 (ix p1)) / (8 : Int32)))), some (.int (M_isShaded_j48 σ p1 p2)), some (.int a72_8), some (.int (nI k72)), none, none, none] [] 72 0 0 := by
      intro n72
      induction n72 with
      | zero =>
        intro k72 a72_8  hk72 hb72 q_v
        rw [M_isShaded_L72] at q_v
        refine J_iload_9 X dX11_isShaded_72 ?_
        refine J_bipush (v := (64 : Int32)) X dX11_isShaded_74 (by decide) ?_
        refine J_icmp_ge (tgt := 198) X dX11_isShaded_76 (by decide) (fun _ => ?_) (fun c => absurd (lp_exit (by rw [n64_eq]; rfl) (by rw [n64_eq]; decide) hk72) c)
        rw [hK72] at q_v
        refine J.subL (lv' := [some (.ref m), some (.int p1), some (.int p2), some (.int ((σ 15 (ix p1)) - (σ 15 (ix p1)) / (8 : Int32) * (8 : Int32))), some (.int ((σ 15 (ix p1)) / (8 : Int32))), some (.int ((p2 - p2 / (8 : Int32) * (8 : Int32)) - ((σ 15 (ix p1)) - (σ 15 (ix p1)) / (8 : Int32) * (8 : Int32)))), some (.int ((p2 / (8 : Int32)) - ((σ 15 (ix p1)) / (8 : Int32)))), some (.int (M_isShaded_j48 σ p1 p2)), some (.int a72_8), none, none, none, none]) (And.intro rfl (And.intro rfl (And.intro rfl (And.intro rfl (And.intro rfl (And.intro rfl (And.intro rfl (And.intro rfl (And.intro rfl trivial))))))))) ?_
        exact X72 a72_8  trivial hb72 q_v
      | succ n72 ih72 =>
        intro k72 a72_8  hk72 hb72 q_v
        rw [M_isShaded_L72] at q_v
        have hlt72 : k72 < n64 := by omega
        refine J_iload_9 X dX11_isShaded_72 ?_
        refine J_bipush (v := (64 : Int32)) X dX11_isShaded_74 (by decide) ?_
        refine J_icmp_ge (tgt := 198) X dX11_isShaded_76 (by decide) (fun c => absurd c (lp_stay (by rw [n64_eq]; rfl) (by rw [n64_eq]; decide) hk72)) (fun _ => ?_)
        refine J_iload_9 X dX11_isShaded_79 ?_
        refine J_bipush (v := (8 : Int32)) X dX11_isShaded_81 (by decide) ?_
        refine J_irem X dX11_isShaded_83 (by decide) ?_
        refine J_iload_3 X dX11_isShaded_84 ?_
        refine J_isub X dX11_isShaded_85 ?_
        refine J_istore_10 X dX11_isShaded_86 rfl (by decide) ?_
        refine J_iload_9 X dX11_isShaded_88 ?_
        refine J_bipush (v := (8 : Int32)) X dX11_isShaded_90 (by decide) ?_
        refine J_idiv X dX11_isShaded_92 (by decide) ?_
        refine J_iload_4 X dX11_isShaded_93 ?_
        refine J_isub X dX11_isShaded_95 ?_
        refine J_istore_11 X dX11_isShaded_96 rfl (by decide) ?_
        refine J_iload_10 X dX11_isShaded_98 ?_
        refine J_iload_10 X dX11_isShaded_100 ?_
        refine J_iload_5 X dX11_isShaded_102 ?_
        refine J_isub X dX11_isShaded_104 ?_
        refine J_imul X dX11_isShaded_105 ?_
        have K106_125 : ∀ (v106_0 : Int32), v106_0 = (M_isShaded_j106 σ p1 p2 k72 a72_8) → J K h [some (.ref m), some (.int p1), some (.int p2), some (.int ((σ 15 (ix p1)) - (σ 15 (ix p1)) / (8 : Int32) * (8 : Int32))), some (.int ((σ 15 (ix p1)) / (8 : Int32))), some (.int ((p2 - p2 / (8 : Int32) * (8 : Int32)) - ((σ 15 (ix p1)) - (σ 15 (ix p1)) / (8 : Int32) * (8 : Int32)))), some (.int ((p2 / (8 : Int32)) - ((σ 15 (ix p1)) / (8 : Int32)))), some (.int (M_isShaded_j48 σ p1 p2)), some (.int a72_8), some (.int (nI k72)), some (.int (((nI k72) - (nI k72) / (8 : Int32) * (8 : Int32)) - ((σ 15 (ix p1)) - (σ 15 (ix p1)) / (8 : Int32) * (8 : Int32)))), some (.int (((nI k72) / (8 : Int32)) - ((σ 15 (ix p1)) / (8 : Int32)))), none] [.int v106_0] 125 0 0 := by
          intro v106_0 ev106_0
          try rw [ev106_0]
          clear ev106_0
          refine J_istore_12 X dX11_isShaded_125 rfl (by decide) ?_
          refine J_iload_8 X dX11_isShaded_127 ?_
          have K129_190 : ∀ (v129_0 : Int32), v129_0 = (M_isShaded_j129 σ p1 p2 k72 a72_8) → J K h [some (.ref m), some (.int p1), some (.int p2), some (.int ((σ 15 (ix p1)) - (σ 15 (ix p1)) / (8 : Int32) * (8 : Int32))), some (.int ((σ 15 (ix p1)) / (8 : Int32))), some (.int ((p2 - p2 / (8 : Int32) * (8 : Int32)) - ((σ 15 (ix p1)) - (σ 15 (ix p1)) / (8 : Int32) * (8 : Int32)))), some (.int ((p2 / (8 : Int32)) - ((σ 15 (ix p1)) / (8 : Int32)))), some (.int (M_isShaded_j48 σ p1 p2)), some (.int a72_8), some (.int (nI k72)), some (.int (((nI k72) - (nI k72) / (8 : Int32) * (8 : Int32)) - ((σ 15 (ix p1)) - (σ 15 (ix p1)) / (8 : Int32) * (8 : Int32)))), some (.int (((nI k72) / (8 : Int32)) - ((σ 15 (ix p1)) / (8 : Int32)))), some (.int (M_isShaded_j106 σ p1 p2 k72 a72_8))] [.int v129_0] 190 0 0 := by
            intro v129_0 ev129_0
            try rw [ev129_0]
            clear ev129_0
            refine J_istore_8 X dX11_isShaded_190 rfl (by decide) ?_
            refine J_iinc_9 (v := (nI (k72 + 1))) X dX11_isShaded_192 (nI_1 _) rfl (by decide) ?_
            refine J_goto (tgt := 72) X dX11_isShaded_195 (by decide) ?_
            refine J.subL (lv' := [some (.ref m), some (.int p1), some (.int p2), some (.int ((σ 15 (ix p1)) - (σ 15 (ix p1)) / (8 : Int32) * (8 : Int32))), some (.int ((σ 15 (ix p1)) / (8 : Int32))), some (.int ((p2 - p2 / (8 : Int32) * (8 : Int32)) - ((σ 15 (ix p1)) - (σ 15 (ix p1)) / (8 : Int32) * (8 : Int32)))), some (.int ((p2 / (8 : Int32)) - ((σ 15 (ix p1)) / (8 : Int32)))), some (.int (M_isShaded_j48 σ p1 p2)), some (.int (M_isShaded_j129 σ p1 p2 k72 a72_8)), some (.int (nI (k72 + 1))), none, none, none]) (And.intro rfl (And.intro rfl (And.intro rfl (And.intro rfl (And.intro rfl (And.intro rfl (And.intro rfl (And.intro rfl (And.intro rfl (And.intro rfl trivial)))))))))) ?_
            exact ih72 (k72 + 1) (M_isShaded_j129 σ p1 p2 k72 a72_8)  (by omega) (M_isShaded_j129_b ..) q_v
          have j129_0 : M_isShaded_j129 σ p1 p2 k72 a72_8 = (if a72_8 = (0 : Int32) then (if (σ 2 (ix (nI k72))) = (0 : Int32) then (0 : Int32) else (if (nI k72) = p2 then (0 : Int32) else (if (nI k72) = (σ 15 (ix p1)) then (0 : Int32) else (if (M_isShaded_j106 σ p1 p2 k72 a72_8) = (0 : Int32) then (0 : Int32) else (if (M_isShaded_j48 σ p1 p2) < ((2 : Int32) * (M_size ((((p2 - p2 / (8 : Int32) * (8 : Int32)) - ((σ 15 (ix p1)) - (σ 15 (ix p1)) / (8 : Int32) * (8 : Int32))) * (((nI k72) / (8 : Int32)) - ((σ 15 (ix p1)) / (8 : Int32)))) - (((p2 / (8 : Int32)) - ((σ 15 (ix p1)) / (8 : Int32))) * (((nI k72) - (nI k72) / (8 : Int32) * (8 : Int32)) - ((σ 15 (ix p1)) - (σ 15 (ix p1)) / (8 : Int32) * (8 : Int32))))))) then (0 : Int32) else (1 : Int32)))))) else (1 : Int32)) := rfl
          refine J_if_ne (tgt := 185) X dX11_isShaded_129 (by decide) (fun c129 => ?_) (fun c129 => ?_)
          · skip
            rw [if_neg c129] at j129_0
            refine J_iconst (v := 1) X dX11_isShaded_185 rfl ?_
            refine J_goto (tgt := 190) X dX11_isShaded_186 (by decide) ?_
            exact K129_190 _ j129_0.symm
          · skip
            rw [if_pos c129] at j129_0
            refine J_aload_0 X dX11_isShaded_132 ?_
            refine JM_get X hR 2 (by decide) rfl rfl gw_5_12 dX11_isShaded_133 ?_
            refine J_iload_9 X dX11_isShaded_136 ?_
            refine JM_zld X hR 2 rfl rfl (vp_in_nI (N := 64) (by omega) (by decide)) dX11_isShaded_138 ?_
            refine J_if_eq (tgt := 189) X dX11_isShaded_139 (by decide) (fun c139 => ?_) (fun c139 => ?_)
            · skip
              rw [if_pos c139] at j129_0
              refine J_iconst (v := 0) X dX11_isShaded_189 rfl ?_
              exact K129_190 _ j129_0.symm
            · skip
              rw [if_neg c139] at j129_0
              refine J_iload_9 X dX11_isShaded_142 ?_
              refine J_iload_2 X dX11_isShaded_144 ?_
              refine J_icmp_eq (tgt := 189) X dX11_isShaded_145 (by decide) (fun c145 => ?_) (fun c145 => ?_)
              · skip
                rw [if_pos c145] at j129_0
                refine J_iconst (v := 0) X dX11_isShaded_189 rfl ?_
                exact K129_190 _ j129_0.symm
              · skip
                rw [if_neg c145] at j129_0
                refine J_iload_9 X dX11_isShaded_148 ?_
                refine J_aload_0 X dX11_isShaded_150 ?_
                refine JM_get X hR 15 (by decide) rfl rfl gw_5_25 dX11_isShaded_151 ?_
                refine J_iload_1 X dX11_isShaded_154 ?_
                refine JM_ald X hR 15 rfl rfl hp1 dX11_isShaded_155 ?_
                refine J_icmp_eq (tgt := 189) X dX11_isShaded_156 (by decide) (fun c156 => ?_) (fun c156 => ?_)
                · skip
                  rw [if_pos c156] at j129_0
                  refine J_iconst (v := 0) X dX11_isShaded_189 rfl ?_
                  exact K129_190 _ j129_0.symm
                · skip
                  rw [if_neg c156] at j129_0
                  refine J_iload_12 X dX11_isShaded_159 ?_
                  refine J_if_eq (tgt := 189) X dX11_isShaded_161 (by decide) (fun c161 => ?_) (fun c161 => ?_)
                  · skip
                    rw [if_pos c161] at j129_0
                    refine J_iconst (v := 0) X dX11_isShaded_189 rfl ?_
                    exact K129_190 _ j129_0.symm
                  · skip
                    rw [if_neg c161] at j129_0
                    refine J_iconst (v := 2) X dX11_isShaded_164 rfl ?_
                    refine J_iload_5 X dX11_isShaded_165 ?_
                    refine J_iload_11 X dX11_isShaded_167 ?_
                    refine J_imul X dX11_isShaded_169 ?_
                    refine J_iload_6 X dX11_isShaded_170 ?_
                    refine J_iload_10 X dX11_isShaded_172 ?_
                    refine J_imul X dX11_isShaded_174 ?_
                    refine J_isub X dX11_isShaded_175 ?_
                    refine J_callS X (c_M_size ((((p2 - p2 / (8 : Int32) * (8 : Int32)) - ((σ 15 (ix p1)) - (σ 15 (ix p1)) / (8 : Int32) * (8 : Int32))) * (((nI k72) / (8 : Int32)) - ((σ 15 (ix p1)) / (8 : Int32)))) - (((p2 / (8 : Int32)) - ((σ 15 (ix p1)) / (8 : Int32))) * (((nI k72) - (nI k72) / (8 : Int32) * (8 : Int32)) - ((σ 15 (ix p1)) - (σ 15 (ix p1)) / (8 : Int32) * (8 : Int32)))))) (And.intro gw_6_23 cw_X11_size) rfl rfl (Nat.le_of_ble_eq_true rfl) dX11_isShaded_176 rfl (J.pi ?_) JE.no
                    refine J_imul X dX11_isShaded_179 ?_
                    refine J_iload_7 X dX11_isShaded_180 ?_
                    refine J_icmp_gt (tgt := 189) X dX11_isShaded_182 (by decide) (fun c182 => ?_) (fun c182 => ?_)
                    · skip
                      rw [if_pos c182] at j129_0
                      refine J_iconst (v := 0) X dX11_isShaded_189 rfl ?_
                      exact K129_190 _ j129_0.symm
                    · skip
                      rw [if_neg c182] at j129_0
                      refine J_iconst (v := 1) X dX11_isShaded_185 rfl ?_
                      refine J_goto (tgt := 190) X dX11_isShaded_186 (by decide) ?_
                      exact K129_190 _ j129_0.symm
        have j106_0 : M_isShaded_j106 σ p1 p2 k72 a72_8 = (if (0 : Int32) < ((((nI k72) - (nI k72) / (8 : Int32) * (8 : Int32)) - ((σ 15 (ix p1)) - (σ 15 (ix p1)) / (8 : Int32) * (8 : Int32))) * ((((nI k72) - (nI k72) / (8 : Int32) * (8 : Int32)) - ((σ 15 (ix p1)) - (σ 15 (ix p1)) / (8 : Int32) * (8 : Int32))) - ((p2 - p2 / (8 : Int32) * (8 : Int32)) - ((σ 15 (ix p1)) - (σ 15 (ix p1)) / (8 : Int32) * (8 : Int32))))) then (0 : Int32) else (if (0 : Int32) < ((((nI k72) / (8 : Int32)) - ((σ 15 (ix p1)) / (8 : Int32))) * ((((nI k72) / (8 : Int32)) - ((σ 15 (ix p1)) / (8 : Int32))) - ((p2 / (8 : Int32)) - ((σ 15 (ix p1)) / (8 : Int32))))) then (0 : Int32) else (1 : Int32))) := rfl
        refine J_if_gt (tgt := 124) X dX11_isShaded_106 (by decide) (fun c106 => ?_) (fun c106 => ?_)
        · skip
          rw [if_pos c106] at j106_0
          refine J_iconst (v := 0) X dX11_isShaded_124 rfl ?_
          exact K106_125 _ j106_0.symm
        · skip
          rw [if_neg c106] at j106_0
          refine J_iload_11 X dX11_isShaded_109 ?_
          refine J_iload_11 X dX11_isShaded_111 ?_
          refine J_iload_6 X dX11_isShaded_113 ?_
          refine J_isub X dX11_isShaded_115 ?_
          refine J_imul X dX11_isShaded_116 ?_
          refine J_if_gt (tgt := 124) X dX11_isShaded_117 (by decide) (fun c117 => ?_) (fun c117 => ?_)
          · skip
            rw [if_pos c117] at j106_0
            refine J_iconst (v := 0) X dX11_isShaded_124 rfl ?_
            exact K106_125 _ j106_0.symm
          · skip
            rw [if_neg c117] at j106_0
            refine J_iconst (v := 1) X dX11_isShaded_120 rfl ?_
            refine J_goto (tgt := 125) X dX11_isShaded_121 (by decide) ?_
            exact K106_125 _ j106_0.symm
    have q_v : (M_isShaded σ p1 p2) = (M_isShaded_L72 σ p1 p2 K72 n64 0 (0 : Int32)) := by rw [hK72]; exact q_v
    exact L72 n64 0 (0 : Int32)  (Nat.zero_add _) (Or.inl rfl) q_v
  have j48_0 : M_isShaded_j48 σ p1 p2 = (if (M_size ((p2 - p2 / (8 : Int32) * (8 : Int32)) - ((σ 15 (ix p1)) - (σ 15 (ix p1)) / (8 : Int32) * (8 : Int32)))) ≤ (M_size ((p2 / (8 : Int32)) - ((σ 15 (ix p1)) / (8 : Int32)))) then (M_size ((p2 / (8 : Int32)) - ((σ 15 (ix p1)) / (8 : Int32)))) else (M_size ((p2 - p2 / (8 : Int32) * (8 : Int32)) - ((σ 15 (ix p1)) - (σ 15 (ix p1)) / (8 : Int32) * (8 : Int32))))) := rfl
  refine J_icmp_le (tgt := 59) X dX11_isShaded_48 (by decide) (fun c48 => ?_) (fun c48 => ?_)
  · skip
    rw [if_pos c48] at j48_0
    refine J_iload_6 X dX11_isShaded_59 ?_
    refine J_callS X (c_M_size ((p2 / (8 : Int32)) - ((σ 15 (ix p1)) / (8 : Int32)))) (And.intro gw_6_23 cw_X11_size) rfl rfl (Nat.le_of_ble_eq_true rfl) dX11_isShaded_61 rfl (J.pi ?_) JE.no
    exact K48_64 _ j48_0.symm
  · skip
    rw [if_neg c48] at j48_0
    refine J_iload_5 X dX11_isShaded_51 ?_
    refine J_callS X (c_M_size ((p2 - p2 / (8 : Int32) * (8 : Int32)) - ((σ 15 (ix p1)) - (σ 15 (ix p1)) / (8 : Int32) * (8 : Int32)))) (And.intro gw_6_23 cw_X11_size) rfl rfl (Nat.le_of_ble_eq_true rfl) dX11_isShaded_53 rfl (J.pi ?_) JE.no
    refine J_goto (tgt := 64) X dX11_isShaded_56 (by decide) ?_
    exact K48_64 _ j48_0.symm
end
