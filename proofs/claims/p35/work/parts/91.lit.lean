noncomputable section
theorem gp1 {x : Int32} {M : Nat} (h : vp_in x M) (hM : M < 1000000) : ¬ x + (1 : Int32) = 0 := by
  have a := vp_lt h
  rw [vp_nI' h (by omega), nI_1]
  exact nI_ne0 (by omega) (by omega)
theorem remv {x g : Int32} {N M : Nat} (h : vp_in x M) (hM : M < 1000000) (hg : vp_in g N) (hN : N < 1000000) : vp_in (x - x / (g + (1 : Int32)) * (g + (1 : Int32))) N := by
  have a := vp_lt h
  have b := vp_lt hg
  have e1 := vp_nI' h (by omega)
  have e2 := vp_nI' hg (by omega)
  generalize ix x = i at *
  generalize ix g = j at *
  subst e1
  subst e2
  rw [nI_1, pk_rem (by omega) (by omega) (by omega)]
  exact vp_in_nI (by have := Nat.mod_lt i (show j + 1 > 0 by omega); omega) (by omega)
theorem below {x g : Int32} {N M : Nat} (h : vp_in x N) (hN : N < 1000000) (hg : vp_in g M) (hM : M < 1000000) (hlt : ¬ g ≤ x) : vp_in x (ix g) := by
  have a := vp_lt h
  have b := vp_lt hg
  have e1 := vp_nI' h (by omega)
  have e2 := vp_nI' hg (by omega)
  generalize ix x = i at *
  generalize ix g = j at *
  subst e1
  subst e2
  exact vp_in_nI (Nat.lt_of_not_le fun z => hlt (nI_le z (by omega))) (by omega)
def L0_j34 (σ : St) (ξ : St) (one : Int32) (two : Int32) : Int32 := (if (two - two / (29 : Int32) * (29 : Int32)) = (28 : Int32) then (64 : Int32) else ((16 : Int32) + (two - two / (24 : Int32) * (24 : Int32))))
def L0_j61 (σ : St) (ξ : St) (one : Int32) (two : Int32) : Int32 := (if ((one / (3 : Int32)) - (one / (3 : Int32)) / (13 : Int32) * (13 : Int32)) = (12 : Int32) then (10001 : Int32) else ((1 : Int32) + ((one / (3 : Int32)) - (one / (3 : Int32)) / (2000 : Int32) * (2000 : Int32))))
def L0_j92 (σ : St) (ξ : St) (one : Int32) (two : Int32) : Int32 := (if ((two / (29 : Int32)) - (two / (29 : Int32)) / (13 : Int32) * (13 : Int32)) = (12 : Int32) then (3 : Int32) else ((two / (29 : Int32)) - (two / (29 : Int32)) / (3 : Int32) * (3 : Int32)))
def L0_j124 (σ : St) (ξ : St) (one : Int32) (two : Int32) : Int32 := (if (σ 7 (ix (2 : Int32))) ≤ (one - one / ((σ 7 (ix (2 : Int32))) + (1 : Int32)) * ((σ 7 (ix (2 : Int32))) + (1 : Int32))) then (0 : Int32) else (if (64 : Int32) ≤ (L0_j34 σ ξ one two) then (0 : Int32) else (1 : Int32)))
theorem L0_j124_b (σ : St) (ξ : St) (one : Int32) (two : Int32) : L0_j124 σ ξ one two = 0 ∨ L0_j124 σ ξ one two = 1 := by
  unfold L0_j124
  (repeat' split) <;> first | exact Or.inl (by with_reducible rfl) | exact Or.inr (by with_reducible rfl)
def L0_j146 (σ : St) (ξ : St) (one : Int32) (two : Int32) : Int32 := (if (10001 : Int32) ≤ (L0_j61 σ ξ one two) then (0 : Int32) else (if (3 : Int32) ≤ (L0_j92 σ ξ one two) then (0 : Int32) else (if (11 : Int32) ≤ ((two / (87 : Int32)) - (two / (87 : Int32)) / (12 : Int32) * (12 : Int32)) then (0 : Int32) else (1 : Int32))))
theorem L0_j146_b (σ : St) (ξ : St) (one : Int32) (two : Int32) : L0_j146 σ ξ one two = 0 ∨ L0_j146 σ ξ one two = 1 := by
  unfold L0_j146
  (repeat' split) <;> first | exact Or.inl (by with_reducible rfl) | exact Or.inr (by with_reducible rfl)
def L0_j171_s (σ : St) (ξ : St) (one : Int32) (two : Int32) : St := (if (L0_j124 σ ξ one two) = (0 : Int32) then σ else (if (L0_j146 σ ξ one two) = (0 : Int32) then σ else (sS (sS (sS (sS (sS (sS σ 3 (ix ((6 : Int32) * (σ 7 (ix (3 : Int32))))) ((L0_j34 σ ξ one two) + ((64 : Int32) * (one - one / ((σ 7 (ix (2 : Int32))) + (1 : Int32)) * ((σ 7 (ix (2 : Int32))) + (1 : Int32)))))) 3 (ix (((6 : Int32) * (σ 7 (ix (3 : Int32)))) + (1 : Int32))) (L0_j61 σ ξ one two)) 3 (ix (((6 : Int32) * (σ 7 (ix (3 : Int32)))) + (2 : Int32))) ((L0_j92 σ ξ one two) + ((4 : Int32) * ((two / (87 : Int32)) - (two / (87 : Int32)) / (12 : Int32) * (12 : Int32))))) 3 (ix (((6 : Int32) * (σ 7 (ix (3 : Int32)))) + (3 : Int32))) (210 : Int32)) 4 (ix (σ 7 (ix (3 : Int32)))) (-720 : Int32)) 7 (ix (3 : Int32)) ((σ 7 (ix (3 : Int32))) + (1 : Int32)))))
def L0_j281 (σ : St) (ξ : St) (one : Int32) (two : Int32) : Int32 := (if (L0_j124 σ ξ one two) = (0 : Int32) then (-3000000 : Int32) else (if (L0_j146 σ ξ one two) = (0 : Int32) then (-2000000 : Int32) else (((L0_j171_s σ ξ one two) 7 (ix (3 : Int32))) - (1 : Int32))))
def L0_j305 (σ : St) (ξ : St) (one : Int32) (two : Int32) : Int32 := (if (DV_6 ξ (one - one / ((σ 7 (ix (2 : Int32))) + (1 : Int32)) * ((σ 7 (ix (2 : Int32))) + (1 : Int32))) (L0_j34 σ ξ one two) (L0_j61 σ ξ one two) (L0_j92 σ ξ one two) ((two / (87 : Int32)) - (two / (87 : Int32)) / (12 : Int32) * (12 : Int32))) = (L0_j281 σ ξ one two) then (1 : Int32) else (0 : Int32))
theorem L0_j305_b (σ : St) (ξ : St) (one : Int32) (two : Int32) : L0_j305 σ ξ one two = 0 ∨ L0_j305 σ ξ one two = 1 := by
  unfold L0_j305
  (repeat' split) <;> first | exact Or.inl (by with_reducible rfl) | exact Or.inr (by with_reducible rfl)
def L0 (σ : St) (ξ : St) (one : Int32) (two : Int32) : Int32 := (if (σ 7 (ix (3 : Int32))) = (10 : Int32) then (1 : Int32) else (L0_j305 σ ξ one two))
def L0_s (σ : St) (ξ : St) (one : Int32) (two : Int32) : St := (if (σ 7 (ix (3 : Int32))) = (10 : Int32) then σ else (L0_j171_s σ ξ one two))
def L0_x (σ : St) (ξ : St) (one : Int32) (two : Int32) : St := (if (σ 7 (ix (3 : Int32))) = (10 : Int32) then ξ else (M_lamp_s ξ (one - one / ((σ 7 (ix (2 : Int32))) + (1 : Int32)) * ((σ 7 (ix (2 : Int32))) + (1 : Int32))) (L0_j34 σ ξ one two) (L0_j61 σ ξ one two) (L0_j92 σ ξ one two) ((two / (87 : Int32)) - (two / (87 : Int32)) / (12 : Int32) * (12 : Int32))))
theorem L0_b (σ : St) (ξ : St) (one : Int32) (two : Int32) : (L0 σ ξ one two) = 0 ∨ (L0 σ ξ one two) = 1 := by
  unfold L0
  (repeat' split) <;> first | exact Or.inl (by with_reducible rfl) | exact Or.inr (by with_reducible rfl) | exact L0_j305_b ..
theorem cw_L_isLit : Cond.static yL_isLit ∈ GW ∧ Cond.initialized yL_isLit.cls ∈ GW ∧ Cond.code yL_isLit cL_isLit 25 (some .boolean) ∈ GW ∧ (yL_isLit.cls ≠ "java/lang/invoke/MethodHandle" ∧ yL_isLit.cls ≠ "java/lang/invoke/VarHandle") ∧ (parseMethodDescriptor yL_isLit.desc).map (fun d => d.parameters.length) = some 10 := ⟨gw_4_164, gw_1_0, gw_4_165, ⟨by decide, by decide⟩, by decide +kernel⟩
set_option maxRecDepth 100000 in
set_option maxHeartbeats 4000000 in
theorem c_L0 {l : Launch} {D : va_G} {ca : Nat → Nat} {h hx : fH} {r : Nat} {α : Nat → Nat} {σ ξ : St} (hL : LH ca hx h α σ) (hX : RA ca hx r ξ) (hIX : InvX ξ) (hIO : InvO ξ) (hQ : LQ ξ σ) (one : Int32) (two : Int32) (h1 : vp_in one 60000) (h2 : vp_in two 60000) : FM l D ca yL_isLit (.code yL_isLit cL_isLit 25 (some .boolean)) { frames := 10, cells := 8, slots := 148, locals := 345 } [.ref r, .ref (α 0), .ref (α 1), .ref (α 2), .ref (α 3), .ref (α 4), .ref (α 7), .int (0 : Int32), .int one, .int two] h (fun v h2 => v = some (.int (L0 σ ξ one two)) ∧ ∃ hx2, LH ca hx2 h2 α (L0_s σ ξ one two) ∧ RA ca hx2 r (L0_x σ ξ one two)) noX := by
  refine FM.of [some (.ref r), some (.ref (α 0)), some (.ref (α 1)), some (.ref (α 2)), some (.ref (α 3)), some (.ref (α 4)), some (.ref (α 7)), some (.int (0 : Int32)), some (.int one), some (.int two), none, none, none, none, none, none, none, none, none, none, none, none, none, none, none] (by decide) (Nat.le_of_ble_eq_true rfl) rfl ?_
  rintro K X rfl rfl rfl
  have hI := IL_of hQ hIX
  have q_v : (L0 σ ξ one two) = (if (σ 7 (ix (3 : Int32))) = (10 : Int32) then (1 : Int32) else (L0_j305 σ ξ one two)) := rfl
  have q_s : (L0_s σ ξ one two) = (if (σ 7 (ix (3 : Int32))) = (10 : Int32) then σ else (L0_j171_s σ ξ one two)) := rfl
  have q_x : (L0_x σ ξ one two) = (if (σ 7 (ix (3 : Int32))) = (10 : Int32) then ξ else (M_lamp_s ξ (one - one / ((σ 7 (ix (2 : Int32))) + (1 : Int32)) * ((σ 7 (ix (2 : Int32))) + (1 : Int32))) (L0_j34 σ ξ one two) (L0_j61 σ ξ one two) (L0_j92 σ ξ one two) ((two / (87 : Int32)) - (two / (87 : Int32)) / (12 : Int32) * (12 : Int32)))) := rfl
  refine J_iload_7 X dL_isLit_0 ?_
  refine J_if_ne (tgt := 314) X dL_isLit_2 (by decide) (fun c => absurd (by decide) c) (fun _ => ?_)
  refine J_aload_6 X dL_isLit_5 ?_
  refine J_iconst (v := 3) X dL_isLit_7 rfl ?_
  refine JL_ld X hL.la 7 (by decide) (vp_up (vp_in_nI (n := 3) (N := 4) (by decide) (by decide)) (by decide)) dL_isLit_8 ?_
  refine J_bipush (v := (10 : Int32)) X dL_isLit_9 (by decide) ?_
  refine J_icmp_ne (tgt := 16) X dL_isLit_11 (by decide) (fun c11 => ?_) (fun c11 => ?_)
  · skip
    rw [if_neg c11] at q_v
    rw [if_neg c11] at q_s
    rw [if_neg c11] at q_x
    refine J_iload_8 X dL_isLit_16 ?_
    refine J_aload_6 X dL_isLit_18 ?_
    refine J_iconst (v := 2) X dL_isLit_20 rfl ?_
    refine JL_ld X hL.la 7 (by decide) (vp_up (vp_in_nI (n := 2) (N := 3) (by decide) (by decide)) (by decide)) dL_isLit_21 ?_
    refine J_iconst (v := 1) X dL_isLit_22 rfl ?_
    refine J_iadd X dL_isLit_23 ?_
    refine J_irem X dL_isLit_24 (gp1 (IL_7_2 hI) (by decide)) ?_
    refine J_istore_10 X dL_isLit_25 rfl (by decide) ?_
    refine J_iload_9 X dL_isLit_27 ?_
    refine J_bipush (v := (29 : Int32)) X dL_isLit_29 (by decide) ?_
    refine J_irem X dL_isLit_31 (by decide) ?_
    refine J_bipush (v := (28 : Int32)) X dL_isLit_32 (by decide) ?_
    have K34_50 : ∀ (v34_0 : Int32), v34_0 = (L0_j34 σ ξ one two) → J K h [some (.ref r), some (.ref (α 0)), some (.ref (α 1)), some (.ref (α 2)), some (.ref (α 3)), some (.ref (α 4)), some (.ref (α 7)), some (.int (0 : Int32)), some (.int one), some (.int two), some (.int (one - one / ((σ 7 (ix (2 : Int32))) + (1 : Int32)) * ((σ 7 (ix (2 : Int32))) + (1 : Int32)))), none, none, none, none, none, none, none, none, none, none, none, none, none, none] [.int v34_0] 50 0 0 := by
      intro v34_0 ev34_0
      try rw [ev34_0]
      clear ev34_0
      refine J_istore_11 X dL_isLit_50 rfl (by decide) ?_
      refine J_iload_8 X dL_isLit_52 ?_
      refine J_iconst (v := 3) X dL_isLit_54 rfl ?_
      refine J_idiv X dL_isLit_55 (by decide) ?_
      refine J_bipush (v := (13 : Int32)) X dL_isLit_56 (by decide) ?_
      refine J_irem X dL_isLit_58 (by decide) ?_
      refine J_bipush (v := (12 : Int32)) X dL_isLit_59 (by decide) ?_
      have K61_80 : ∀ (v61_0 : Int32), v61_0 = (L0_j61 σ ξ one two) → J K h [some (.ref r), some (.ref (α 0)), some (.ref (α 1)), some (.ref (α 2)), some (.ref (α 3)), some (.ref (α 4)), some (.ref (α 7)), some (.int (0 : Int32)), some (.int one), some (.int two), some (.int (one - one / ((σ 7 (ix (2 : Int32))) + (1 : Int32)) * ((σ 7 (ix (2 : Int32))) + (1 : Int32)))), some (.int (L0_j34 σ ξ one two)), none, none, none, none, none, none, none, none, none, none, none, none, none] [.int v61_0] 80 0 0 := by
        intro v61_0 ev61_0
        try rw [ev61_0]
        clear ev61_0
        refine J_istore_12 X dL_isLit_80 rfl (by decide) ?_
        refine J_iload_9 X dL_isLit_82 ?_
        refine J_bipush (v := (29 : Int32)) X dL_isLit_84 (by decide) ?_
        refine J_idiv X dL_isLit_86 (by decide) ?_
        refine J_bipush (v := (13 : Int32)) X dL_isLit_87 (by decide) ?_
        refine J_irem X dL_isLit_89 (by decide) ?_
        refine J_bipush (v := (12 : Int32)) X dL_isLit_90 (by decide) ?_
        have K92_106 : ∀ (v92_0 : Int32), v92_0 = (L0_j92 σ ξ one two) → J K h [some (.ref r), some (.ref (α 0)), some (.ref (α 1)), some (.ref (α 2)), some (.ref (α 3)), some (.ref (α 4)), some (.ref (α 7)), some (.int (0 : Int32)), some (.int one), some (.int two), some (.int (one - one / ((σ 7 (ix (2 : Int32))) + (1 : Int32)) * ((σ 7 (ix (2 : Int32))) + (1 : Int32)))), some (.int (L0_j34 σ ξ one two)), some (.int (L0_j61 σ ξ one two)), none, none, none, none, none, none, none, none, none, none, none, none] [.int v92_0] 106 0 0 := by
          intro v92_0 ev92_0
          try rw [ev92_0]
          clear ev92_0
          refine J_istore_13 X dL_isLit_106 rfl (by decide) ?_
          refine J_iload_9 X dL_isLit_108 ?_
          refine J_bipush (v := (87 : Int32)) X dL_isLit_110 (by decide) ?_
          refine J_idiv X dL_isLit_112 (by decide) ?_
          refine J_bipush (v := (12 : Int32)) X dL_isLit_113 (by decide) ?_
          refine J_irem X dL_isLit_115 (by decide) ?_
          refine J_istore_14 X dL_isLit_116 rfl (by decide) ?_
          refine J_iload_10 X dL_isLit_118 ?_
          refine J_aload_6 X dL_isLit_120 ?_
          refine J_iconst (v := 2) X dL_isLit_122 rfl ?_
          refine JL_ld X hL.la 7 (by decide) (vp_up (vp_in_nI (n := 2) (N := 3) (by decide) (by decide)) (by decide)) dL_isLit_123 ?_
          have K124_139 : ∀ (v124_0 : Int32), v124_0 = (L0_j124 σ ξ one two) → J K h [some (.ref r), some (.ref (α 0)), some (.ref (α 1)), some (.ref (α 2)), some (.ref (α 3)), some (.ref (α 4)), some (.ref (α 7)), some (.int (0 : Int32)), some (.int one), some (.int two), some (.int (one - one / ((σ 7 (ix (2 : Int32))) + (1 : Int32)) * ((σ 7 (ix (2 : Int32))) + (1 : Int32)))), some (.int (L0_j34 σ ξ one two)), some (.int (L0_j61 σ ξ one two)), some (.int (L0_j92 σ ξ one two)), some (.int ((two / (87 : Int32)) - (two / (87 : Int32)) / (12 : Int32) * (12 : Int32))), none, none, none, none, none, none, none, none, none, none] [.int v124_0] 139 0 0 := by
            intro v124_0 ev124_0
            try rw [ev124_0]
            clear ev124_0
            refine J_istore_15 X dL_isLit_139 rfl (by decide) ?_
            refine J_iload_12 X dL_isLit_141 ?_
            refine J_sipush (v := (10001 : Int32)) X dL_isLit_143 (by decide) ?_
            have K146_167 : ∀ (v146_0 : Int32), v146_0 = (L0_j146 σ ξ one two) → J K h [some (.ref r), some (.ref (α 0)), some (.ref (α 1)), some (.ref (α 2)), some (.ref (α 3)), some (.ref (α 4)), some (.ref (α 7)), some (.int (0 : Int32)), some (.int one), some (.int two), some (.int (one - one / ((σ 7 (ix (2 : Int32))) + (1 : Int32)) * ((σ 7 (ix (2 : Int32))) + (1 : Int32)))), some (.int (L0_j34 σ ξ one two)), some (.int (L0_j61 σ ξ one two)), some (.int (L0_j92 σ ξ one two)), some (.int ((two / (87 : Int32)) - (two / (87 : Int32)) / (12 : Int32) * (12 : Int32))), some (.int (L0_j124 σ ξ one two)), none, none, none, none, none, none, none, none, none] [.int v146_0] 167 0 0 := by
              intro v146_0 ev146_0
              try rw [ev146_0]
              clear ev146_0
              refine J_istore_16 X dL_isLit_167 rfl (by decide) ?_
              refine J_iload_15 X dL_isLit_169 ?_
              have K171_263 : ∀ hj11 : fH, LH (kca K) hx hj11 α (L0_j171_s σ ξ one two) → J K hj11 [some (.ref r), some (.ref (α 0)), some (.ref (α 1)), some (.ref (α 2)), some (.ref (α 3)), some (.ref (α 4)), some (.ref (α 7)), some (.int (0 : Int32)), some (.int one), some (.int two), some (.int (one - one / ((σ 7 (ix (2 : Int32))) + (1 : Int32)) * ((σ 7 (ix (2 : Int32))) + (1 : Int32)))), some (.int (L0_j34 σ ξ one two)), some (.int (L0_j61 σ ξ one two)), some (.int (L0_j92 σ ξ one two)), some (.int ((two / (87 : Int32)) - (two / (87 : Int32)) / (12 : Int32) * (12 : Int32))), some (.int (L0_j124 σ ξ one two)), some (.int (L0_j146 σ ξ one two)), none, none, none, none, none, none, none, none] [] 263 0 0 := by
                intro hj11 hRj11
                refine J_aload_0 X dL_isLit_263 ?_
                refine J_bipush (v := (6 : Int32)) X dL_isLit_264 (by decide) ?_
                refine J_iload_10 X dL_isLit_266 ?_
                refine J_iload_11 X dL_isLit_268 ?_
                refine J_iload_12 X dL_isLit_270 ?_
                refine J_iload_13 X dL_isLit_272 ?_
                refine J_iload_14 X dL_isLit_274 ?_
                obtain ⟨la, eh, hap, hLA, hα⟩ := hRj11
                subst eh
                refine J_callSW X ((c_D_6 hX hIX hIO (one - one / ((σ 7 (ix (2 : Int32))) + (1 : Int32)) * ((σ 7 (ix (2 : Int32))) + (1 : Int32))) (L0_j34 σ ξ one two) (L0_j61 σ ξ one two) (L0_j92 σ ξ one two) ((two / (87 : Int32)) - (two / (87 : Int32)) / (12 : Int32) * (12 : Int32))).frame hap) (And.intro gw_2_177 cw_L_does) rfl rfl (Nat.le_of_ble_eq_true rfl) dL_isLit_276 rfl (fun v h12 e => ?_) (fun E h12 e => by obtain ⟨_, q, _⟩ := e; exact q.elim)
                obtain ⟨hx12, ⟨e0, hX12⟩, hap12, eh⟩ := e
                subst e0
                subst eh
                have hR12 : LH (kca K) hx12 (un hx12 la) α (L0_j171_s σ ξ one two) := ⟨la, rfl, hap12, hLA, hα⟩
                show J K (un hx12 la) [some (.ref r), some (.ref (α 0)), some (.ref (α 1)), some (.ref (α 2)), some (.ref (α 3)), some (.ref (α 4)), some (.ref (α 7)), some (.int (0 : Int32)), some (.int one), some (.int two), some (.int (one - one / ((σ 7 (ix (2 : Int32))) + (1 : Int32)) * ((σ 7 (ix (2 : Int32))) + (1 : Int32)))), some (.int (L0_j34 σ ξ one two)), some (.int (L0_j61 σ ξ one two)), some (.int (L0_j92 σ ξ one two)), some (.int ((two / (87 : Int32)) - (two / (87 : Int32)) / (12 : Int32) * (12 : Int32))), some (.int (L0_j124 σ ξ one two)), some (.int (L0_j146 σ ξ one two)), none, none, none, none, none, none, none, none] [.int (DV_6 ξ (one - one / ((σ 7 (ix (2 : Int32))) + (1 : Int32)) * ((σ 7 (ix (2 : Int32))) + (1 : Int32))) (L0_j34 σ ξ one two) (L0_j61 σ ξ one two) (L0_j92 σ ξ one two) ((two / (87 : Int32)) - (two / (87 : Int32)) / (12 : Int32) * (12 : Int32)))] 279 8 148
                refine J_iload_15 X dL_isLit_279 ?_
                have K281_305 : ∀ (v281_0 : Int32), v281_0 = (L0_j281 σ ξ one two) → J K (un hx12 la) [some (.ref r), some (.ref (α 0)), some (.ref (α 1)), some (.ref (α 2)), some (.ref (α 3)), some (.ref (α 4)), some (.ref (α 7)), some (.int (0 : Int32)), some (.int one), some (.int two), some (.int (one - one / ((σ 7 (ix (2 : Int32))) + (1 : Int32)) * ((σ 7 (ix (2 : Int32))) + (1 : Int32)))), some (.int (L0_j34 σ ξ one two)), some (.int (L0_j61 σ ξ one two)), some (.int (L0_j92 σ ξ one two)), some (.int ((two / (87 : Int32)) - (two / (87 : Int32)) / (12 : Int32) * (12 : Int32))), some (.int (L0_j124 σ ξ one two)), some (.int (L0_j146 σ ξ one two)), none, none, none, none, none, none, none, none] [.int v281_0, .int (DV_6 ξ (one - one / ((σ 7 (ix (2 : Int32))) + (1 : Int32)) * ((σ 7 (ix (2 : Int32))) + (1 : Int32))) (L0_j34 σ ξ one two) (L0_j61 σ ξ one two) (L0_j92 σ ξ one two) ((two / (87 : Int32)) - (two / (87 : Int32)) / (12 : Int32) * (12 : Int32)))] 305 8 148 := by
                  intro v281_0 ev281_0
                  try rw [ev281_0]
                  clear ev281_0
                  have K305_313 : ∀ (v305_0 : Int32), v305_0 = (L0_j305 σ ξ one two) → J K (un hx12 la) [some (.ref r), some (.ref (α 0)), some (.ref (α 1)), some (.ref (α 2)), some (.ref (α 3)), some (.ref (α 4)), some (.ref (α 7)), some (.int (0 : Int32)), some (.int one), some (.int two), some (.int (one - one / ((σ 7 (ix (2 : Int32))) + (1 : Int32)) * ((σ 7 (ix (2 : Int32))) + (1 : Int32)))), some (.int (L0_j34 σ ξ one two)), some (.int (L0_j61 σ ξ one two)), some (.int (L0_j92 σ ξ one two)), some (.int ((two / (87 : Int32)) - (two / (87 : Int32)) / (12 : Int32) * (12 : Int32))), some (.int (L0_j124 σ ξ one two)), some (.int (L0_j146 σ ξ one two)), none, none, none, none, none, none, none, none] [.int v305_0] 313 8 148 := by
                    intro v305_0 ev305_0
                    try rw [ev305_0]
                    clear ev305_0
                    exact J_zret X rfl (L0_j305_b ..) rfl ⟨by rw [q_v], hx12, by rw [q_s]; exact hR12, by rw [q_x]; exact hX12⟩ dL_isLit_313
                  have j305_0 : L0_j305 σ ξ one two = (if (DV_6 ξ (one - one / ((σ 7 (ix (2 : Int32))) + (1 : Int32)) * ((σ 7 (ix (2 : Int32))) + (1 : Int32))) (L0_j34 σ ξ one two) (L0_j61 σ ξ one two) (L0_j92 σ ξ one two) ((two / (87 : Int32)) - (two / (87 : Int32)) / (12 : Int32) * (12 : Int32))) = (L0_j281 σ ξ one two) then (1 : Int32) else (0 : Int32)) := rfl
                  refine J_icmp_ne (tgt := 312) X dL_isLit_305 (by decide) (fun c305 => ?_) (fun c305 => ?_)
                  · skip
                    rw [if_neg c305] at j305_0
                    refine J_iconst (v := 0) X dL_isLit_312 rfl ?_
                    exact K305_313 _ j305_0.symm
                  · skip
                    rw [if_pos c305] at j305_0
                    refine J_iconst (v := 1) X dL_isLit_308 rfl ?_
                    refine J_goto (tgt := 313) X dL_isLit_309 (by decide) ?_
                    exact K305_313 _ j305_0.symm
                have j281_0 : L0_j281 σ ξ one two = (if (L0_j124 σ ξ one two) = (0 : Int32) then (-3000000 : Int32) else (if (L0_j146 σ ξ one two) = (0 : Int32) then (-2000000 : Int32) else (((L0_j171_s σ ξ one two) 7 (ix (3 : Int32))) - (1 : Int32)))) := rfl
                refine J_if_ne (tgt := 289) X dL_isLit_281 (by decide) (fun c281 => ?_) (fun c281 => ?_)
                · skip
                  rw [if_neg c281] at j281_0
                  refine J_iload_16 X dL_isLit_289 ?_
                  refine J_if_eq (tgt := 303) X dL_isLit_291 (by decide) (fun c291 => ?_) (fun c291 => ?_)
                  · skip
                    rw [if_pos c291] at j281_0
                    refine J_ldc (v := (-2000000 : Int32)) X dL_isLit_303 gw_4_73 ?_
                    exact K281_305 _ j281_0.symm
                  · skip
                    rw [if_neg c291] at j281_0
                    refine J_aload_6 X dL_isLit_294 ?_
                    refine J_iconst (v := 3) X dL_isLit_296 rfl ?_
                    refine JL_ld X hR12.la 7 (by decide) (vp_up (vp_in_nI (n := 3) (N := 4) (by decide) (by decide)) (by decide)) dL_isLit_297 ?_
                    refine J_iconst (v := 1) X dL_isLit_298 rfl ?_
                    refine J_isub X dL_isLit_299 ?_
                    refine J_goto (tgt := 305) X dL_isLit_300 (by decide) ?_
                    exact K281_305 _ j281_0.symm
                · skip
                  rw [if_pos c281] at j281_0
                  refine J_ldc (v := (-3000000 : Int32)) X dL_isLit_284 gw_4_72 ?_
                  refine J_goto (tgt := 305) X dL_isLit_286 (by decide) ?_
                  exact K281_305 _ j281_0.symm
              have j171_0 : L0_j171_s σ ξ one two = (if (L0_j124 σ ξ one two) = (0 : Int32) then σ else (if (L0_j146 σ ξ one two) = (0 : Int32) then σ else (sS (sS (sS (sS (sS (sS σ 3 (ix ((6 : Int32) * (σ 7 (ix (3 : Int32))))) ((L0_j34 σ ξ one two) + ((64 : Int32) * (one - one / ((σ 7 (ix (2 : Int32))) + (1 : Int32)) * ((σ 7 (ix (2 : Int32))) + (1 : Int32)))))) 3 (ix (((6 : Int32) * (σ 7 (ix (3 : Int32)))) + (1 : Int32))) (L0_j61 σ ξ one two)) 3 (ix (((6 : Int32) * (σ 7 (ix (3 : Int32)))) + (2 : Int32))) ((L0_j92 σ ξ one two) + ((4 : Int32) * ((two / (87 : Int32)) - (two / (87 : Int32)) / (12 : Int32) * (12 : Int32))))) 3 (ix (((6 : Int32) * (σ 7 (ix (3 : Int32)))) + (3 : Int32))) (210 : Int32)) 4 (ix (σ 7 (ix (3 : Int32)))) (-720 : Int32)) 7 (ix (3 : Int32)) ((σ 7 (ix (3 : Int32))) + (1 : Int32))))) := rfl
              refine J_if_eq (tgt := 263) X dL_isLit_171 (by decide) (fun c171 => ?_) (fun c171 => ?_)
              · skip
                rw [if_pos c171] at j171_0
                exact K171_263 _ (by rw [j171_0]; exact hL)
              · skip
                rw [if_neg c171] at j171_0
                refine J_iload_16 X dL_isLit_174 ?_
                refine J_if_eq (tgt := 263) X dL_isLit_176 (by decide) (fun c176 => ?_) (fun c176 => ?_)
                · skip
                  rw [if_pos c176] at j171_0
                  exact K171_263 _ (by rw [j171_0]; exact hL)
                · skip
                  rw [if_neg c176] at j171_0
                  refine J_aload_4 X dL_isLit_179 ?_
                  refine J_bipush (v := (6 : Int32)) X dL_isLit_181 (by decide) ?_
                  refine J_aload_6 X dL_isLit_183 ?_
                  refine J_iconst (v := 3) X dL_isLit_185 rfl ?_
                  refine JL_ld X hL.la 7 (by decide) (vp_up (vp_in_nI (n := 3) (N := 4) (by decide) (by decide)) (by decide)) dL_isLit_186 ?_
                  refine J_imul X dL_isLit_187 ?_
                  refine J_iload_11 X dL_isLit_188 ?_
                  refine J_bipush (v := (64 : Int32)) X dL_isLit_190 (by decide) ?_
                  refine J_iload_10 X dL_isLit_192 ?_
                  refine J_imul X dL_isLit_194 ?_
                  refine J_iadd X dL_isLit_195 ?_
                  refine JL_st X hL 3 (by decide) (vp_up (vr_mul (vp_in_nI (n := 6) (N := 7) (by decide) (by decide)) (ne_up (N := 10) (IL_7_3 hI) (by decide) rfl c11) (by decide)) (by decide)) dL_isLit_196 (fun h13 hR13 => ?_)
                  refine J_aload_4 X dL_isLit_197 ?_
                  refine J_bipush (v := (6 : Int32)) X dL_isLit_199 (by decide) ?_
                  refine J_aload_6 X dL_isLit_201 ?_
                  refine J_iconst (v := 3) X dL_isLit_203 rfl ?_
                  refine JL_lv X hR13.la 7 (by decide) (vp_up (vp_in_nI (n := 3) (N := 4) (by decide) (by decide)) (by decide)) (v := (σ 7 (ix (3 : Int32)))) (by rw [sS_col (by decide)]) dL_isLit_204 ?_
                  refine J_imul X dL_isLit_205 ?_
                  refine J_iconst (v := 1) X dL_isLit_206 rfl ?_
                  refine J_iadd X dL_isLit_207 ?_
                  refine J_iload_12 X dL_isLit_208 ?_
                  refine JL_st X hR13 3 (by decide) (vp_up (vr_add (vr_mul (vp_in_nI (n := 6) (N := 7) (by decide) (by decide)) (ne_up (N := 10) (IL_7_3 hI) (by decide) rfl c11) (by decide)) (vp_in_nI (n := 1) (N := 2) (by decide) (by decide)) (by decide)) (by decide)) dL_isLit_210 (fun h14 hR14 => ?_)
                  refine J_aload_4 X dL_isLit_211 ?_
                  refine J_bipush (v := (6 : Int32)) X dL_isLit_213 (by decide) ?_
                  refine J_aload_6 X dL_isLit_215 ?_
                  refine J_iconst (v := 3) X dL_isLit_217 rfl ?_
                  refine JL_lv X hR14.la 7 (by decide) (vp_up (vp_in_nI (n := 3) (N := 4) (by decide) (by decide)) (by decide)) (v := (σ 7 (ix (3 : Int32)))) (by rw [sS_col (by decide), sS_col (by decide)]) dL_isLit_218 ?_
                  refine J_imul X dL_isLit_219 ?_
                  refine J_iconst (v := 2) X dL_isLit_220 rfl ?_
                  refine J_iadd X dL_isLit_221 ?_
                  refine J_iload_13 X dL_isLit_222 ?_
                  refine J_iconst (v := 4) X dL_isLit_224 rfl ?_
                  refine J_iload_14 X dL_isLit_225 ?_
                  refine J_imul X dL_isLit_227 ?_
                  refine J_iadd X dL_isLit_228 ?_
                  refine JL_st X hR14 3 (by decide) (vp_up (vr_add (vr_mul (vp_in_nI (n := 6) (N := 7) (by decide) (by decide)) (ne_up (N := 10) (IL_7_3 hI) (by decide) rfl c11) (by decide)) (vp_in_nI (n := 2) (N := 3) (by decide) (by decide)) (by decide)) (by decide)) dL_isLit_229 (fun h15 hR15 => ?_)
                  refine J_aload_4 X dL_isLit_230 ?_
                  refine J_bipush (v := (6 : Int32)) X dL_isLit_232 (by decide) ?_
                  refine J_aload_6 X dL_isLit_234 ?_
                  refine J_iconst (v := 3) X dL_isLit_236 rfl ?_
                  refine JL_lv X hR15.la 7 (by decide) (vp_up (vp_in_nI (n := 3) (N := 4) (by decide) (by decide)) (by decide)) (v := (σ 7 (ix (3 : Int32)))) (by rw [sS_col (by decide), sS_col (by decide), sS_col (by decide)]) dL_isLit_237 ?_
                  refine J_imul X dL_isLit_238 ?_
                  refine J_iconst (v := 3) X dL_isLit_239 rfl ?_
                  refine J_iadd X dL_isLit_240 ?_
                  refine J_sipush (v := (210 : Int32)) X dL_isLit_241 (by decide) ?_
                  refine JL_st X hR15 3 (by decide) (vp_up (vr_add (vr_mul (vp_in_nI (n := 6) (N := 7) (by decide) (by decide)) (ne_up (N := 10) (IL_7_3 hI) (by decide) rfl c11) (by decide)) (vp_in_nI (n := 3) (N := 4) (by decide) (by decide)) (by decide)) (by decide)) dL_isLit_244 (fun h16 hR16 => ?_)
                  refine J_aload_5 X dL_isLit_245 ?_
                  refine J_aload_6 X dL_isLit_247 ?_
                  refine J_iconst (v := 3) X dL_isLit_249 rfl ?_
                  refine JL_lv X hR16.la 7 (by decide) (vp_up (vp_in_nI (n := 3) (N := 4) (by decide) (by decide)) (by decide)) (v := (σ 7 (ix (3 : Int32)))) (by rw [sS_col (by decide), sS_col (by decide), sS_col (by decide), sS_col (by decide)]) dL_isLit_250 ?_
                  refine J_sipush (v := (-720 : Int32)) X dL_isLit_251 (by decide) ?_
                  refine JL_st X hR16 4 (by decide) (vp_up (ne_up (N := 10) (IL_7_3 hI) (by decide) rfl c11) (by decide)) dL_isLit_254 (fun h17 hR17 => ?_)
                  refine J_aload_6 X dL_isLit_255 ?_
                  refine J_iconst (v := 3) X dL_isLit_257 rfl ?_
                  refine J_dup2 X dL_isLit_258 rfl rfl ?_
                  refine JL_lv X hR17.la 7 (by decide) (vp_up (vp_in_nI (n := 3) (N := 4) (by decide) (by decide)) (by decide)) (v := (σ 7 (ix (3 : Int32)))) (by rw [sS_col (by decide), sS_col (by decide), sS_col (by decide), sS_col (by decide), sS_col (by decide)]) dL_isLit_259 ?_
                  refine J_iconst (v := 1) X dL_isLit_260 rfl ?_
                  refine J_iadd X dL_isLit_261 ?_
                  refine JL_st X hR17 7 (by decide) (vp_up (vp_in_nI (n := 3) (N := 4) (by decide) (by decide)) (by decide)) dL_isLit_262 (fun h18 hR18 => ?_)
                  exact K171_263 _ (by rw [j171_0]; exact hR18)
            have j146_0 : L0_j146 σ ξ one two = (if (10001 : Int32) ≤ (L0_j61 σ ξ one two) then (0 : Int32) else (if (3 : Int32) ≤ (L0_j92 σ ξ one two) then (0 : Int32) else (if (11 : Int32) ≤ ((two / (87 : Int32)) - (two / (87 : Int32)) / (12 : Int32) * (12 : Int32)) then (0 : Int32) else (1 : Int32)))) := rfl
            refine J_icmp_ge (tgt := 166) X dL_isLit_146 (by decide) (fun c146 => ?_) (fun c146 => ?_)
            · skip
              rw [if_pos c146] at j146_0
              refine J_iconst (v := 0) X dL_isLit_166 rfl ?_
              exact K146_167 _ j146_0.symm
            · skip
              rw [if_neg c146] at j146_0
              refine J_iload_13 X dL_isLit_149 ?_
              refine J_iconst (v := 3) X dL_isLit_151 rfl ?_
              refine J_icmp_ge (tgt := 166) X dL_isLit_152 (by decide) (fun c152 => ?_) (fun c152 => ?_)
              · skip
                rw [if_pos c152] at j146_0
                refine J_iconst (v := 0) X dL_isLit_166 rfl ?_
                exact K146_167 _ j146_0.symm
              · skip
                rw [if_neg c152] at j146_0
                refine J_iload_14 X dL_isLit_155 ?_
                refine J_bipush (v := (11 : Int32)) X dL_isLit_157 (by decide) ?_
                refine J_icmp_ge (tgt := 166) X dL_isLit_159 (by decide) (fun c159 => ?_) (fun c159 => ?_)
                · skip
                  rw [if_pos c159] at j146_0
                  refine J_iconst (v := 0) X dL_isLit_166 rfl ?_
                  exact K146_167 _ j146_0.symm
                · skip
                  rw [if_neg c159] at j146_0
                  refine J_iconst (v := 1) X dL_isLit_162 rfl ?_
                  refine J_goto (tgt := 167) X dL_isLit_163 (by decide) ?_
                  exact K146_167 _ j146_0.symm
          have j124_0 : L0_j124 σ ξ one two = (if (σ 7 (ix (2 : Int32))) ≤ (one - one / ((σ 7 (ix (2 : Int32))) + (1 : Int32)) * ((σ 7 (ix (2 : Int32))) + (1 : Int32))) then (0 : Int32) else (if (64 : Int32) ≤ (L0_j34 σ ξ one two) then (0 : Int32) else (1 : Int32))) := rfl
          refine J_icmp_ge (tgt := 138) X dL_isLit_124 (by decide) (fun c124 => ?_) (fun c124 => ?_)
          · skip
            rw [if_pos c124] at j124_0
            refine J_iconst (v := 0) X dL_isLit_138 rfl ?_
            exact K124_139 _ j124_0.symm
          · skip
            rw [if_neg c124] at j124_0
            refine J_iload_11 X dL_isLit_127 ?_
            refine J_bipush (v := (64 : Int32)) X dL_isLit_129 (by decide) ?_
            refine J_icmp_ge (tgt := 138) X dL_isLit_131 (by decide) (fun c131 => ?_) (fun c131 => ?_)
            · skip
              rw [if_pos c131] at j124_0
              refine J_iconst (v := 0) X dL_isLit_138 rfl ?_
              exact K124_139 _ j124_0.symm
            · skip
              rw [if_neg c131] at j124_0
              refine J_iconst (v := 1) X dL_isLit_134 rfl ?_
              refine J_goto (tgt := 139) X dL_isLit_135 (by decide) ?_
              exact K124_139 _ j124_0.symm
        have j92_0 : L0_j92 σ ξ one two = (if ((two / (29 : Int32)) - (two / (29 : Int32)) / (13 : Int32) * (13 : Int32)) = (12 : Int32) then (3 : Int32) else ((two / (29 : Int32)) - (two / (29 : Int32)) / (3 : Int32) * (3 : Int32))) := rfl
        refine J_icmp_ne (tgt := 99) X dL_isLit_92 (by decide) (fun c92 => ?_) (fun c92 => ?_)
        · skip
          rw [if_neg c92] at j92_0
          refine J_iload_9 X dL_isLit_99 ?_
          refine J_bipush (v := (29 : Int32)) X dL_isLit_101 (by decide) ?_
          refine J_idiv X dL_isLit_103 (by decide) ?_
          refine J_iconst (v := 3) X dL_isLit_104 rfl ?_
          refine J_irem X dL_isLit_105 (by decide) ?_
          exact K92_106 _ j92_0.symm
        · skip
          rw [if_pos c92] at j92_0
          refine J_iconst (v := 3) X dL_isLit_95 rfl ?_
          refine J_goto (tgt := 106) X dL_isLit_96 (by decide) ?_
          exact K92_106 _ j92_0.symm
      have j61_0 : L0_j61 σ ξ one two = (if ((one / (3 : Int32)) - (one / (3 : Int32)) / (13 : Int32) * (13 : Int32)) = (12 : Int32) then (10001 : Int32) else ((1 : Int32) + ((one / (3 : Int32)) - (one / (3 : Int32)) / (2000 : Int32) * (2000 : Int32)))) := rfl
      refine J_icmp_ne (tgt := 70) X dL_isLit_61 (by decide) (fun c61 => ?_) (fun c61 => ?_)
      · skip
        rw [if_neg c61] at j61_0
        refine J_iconst (v := 1) X dL_isLit_70 rfl ?_
        refine J_iload_8 X dL_isLit_71 ?_
        refine J_iconst (v := 3) X dL_isLit_73 rfl ?_
        refine J_idiv X dL_isLit_74 (by decide) ?_
        refine J_sipush (v := (2000 : Int32)) X dL_isLit_75 (by decide) ?_
        refine J_irem X dL_isLit_78 (by decide) ?_
        refine J_iadd X dL_isLit_79 ?_
        exact K61_80 _ j61_0.symm
      · skip
        rw [if_pos c61] at j61_0
        refine J_sipush (v := (10001 : Int32)) X dL_isLit_64 (by decide) ?_
        refine J_goto (tgt := 80) X dL_isLit_67 (by decide) ?_
        exact K61_80 _ j61_0.symm
    have j34_0 : L0_j34 σ ξ one two = (if (two - two / (29 : Int32) * (29 : Int32)) = (28 : Int32) then (64 : Int32) else ((16 : Int32) + (two - two / (24 : Int32) * (24 : Int32)))) := rfl
    refine J_icmp_ne (tgt := 42) X dL_isLit_34 (by decide) (fun c34 => ?_) (fun c34 => ?_)
    · skip
      rw [if_neg c34] at j34_0
      refine J_bipush (v := (16 : Int32)) X dL_isLit_42 (by decide) ?_
      refine J_iload_9 X dL_isLit_44 ?_
      refine J_bipush (v := (24 : Int32)) X dL_isLit_46 (by decide) ?_
      refine J_irem X dL_isLit_48 (by decide) ?_
      refine J_iadd X dL_isLit_49 ?_
      exact K34_50 _ j34_0.symm
    · skip
      rw [if_pos c34] at j34_0
      refine J_bipush (v := (64 : Int32)) X dL_isLit_37 (by decide) ?_
      refine J_goto (tgt := 50) X dL_isLit_39 (by decide) ?_
      exact K34_50 _ j34_0.symm
  · skip
    rw [if_pos c11] at q_v
    rw [if_pos c11] at q_s
    rw [if_pos c11] at q_x
    refine J_iconst (v := 1) X dL_isLit_14 rfl ?_
    exact J_zret X rfl (by first | exact Or.inl rfl | exact Or.inr rfl) rfl ⟨by rw [q_v], hx, by rw [q_s]; exact hL, by rw [q_x]; exact hX⟩ dL_isLit_15
end
