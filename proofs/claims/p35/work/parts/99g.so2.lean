noncomputable section
abbrev rmSo : Room := { frames := 10, cells := 1000, slots := 6000, locals := 260 }
set_option maxRecDepth 100000 in
set_option maxHeartbeats 4000000 in
theorem so_a {K : KT} {h0 hx la : fH} {post : Option Value → fH → Prop} {px : String → fH → Prop} {r : Nat} {α : Nat → Nat} {σ ξ : St} {one two : Int32} (X : JX K yL_isSo.name yL_isSo.cls cL_isSo 31 (some .boolean) [] (Cond.code yL_isSo cL_isSo 31 (some .boolean)) rmSo h0 post px) (hIX : InvX ξ) (hIO : InvO ξ) (hQ : LQ ξ σ) (h1 : vp_in one 60000) (h2 : vp_in two 60000) (hLA : LA (kca K) la α σ) (hα : ∀ i j, i < 8 → j < 8 → α i = α j → i = j) (hap : apart hx la) (hX : RA (kca K) hx r ξ) (kE : ∀ hx' : fH, apart hx' la → RA (kca K) hx' r ξ → J K (un hx' la) [some (.ref r), some (.ref (α 0)), some (.ref (α 1)), some (.ref (α 2)), some (.ref (α 3)), some (.ref (α 4)), some (.ref (α 5)), some (.ref (α 6)), some (.ref (α 7)), some (.int one), some (.int two), some (.int (one - one / (64 : Int32) * (64 : Int32))), some (.int (1 : Int32)), some (.int (-1 : Int32)), some (.int (0 : Int32)), some (.int (0 : Int32)), none, none, none, none, none, none, none, none, none, none, none, none, none, none, none] [] 54 0 0) : J K (un hx la) [some (.ref r), some (.ref (α 0)), some (.ref (α 1)), some (.ref (α 2)), some (.ref (α 3)), some (.ref (α 4)), some (.ref (α 5)), some (.ref (α 6)), some (.ref (α 7)), some (.int one), some (.int two), none, none, none, none, none, none, none, none, none, none, none, none, none, none, none, none, none, none, none, none] [] 0 0 0 := by
  have hI := IL_of hQ hIX
  have hL : LH (kca K) hx (un hx la) α σ := ⟨la, rfl, hap, hLA, hα⟩
  refine J_iload_9 X dL_isSo_0 ?_
  refine J_bipush (v := (64 : Int32)) X dL_isSo_2 (by decide) ?_
  refine J_irem X dL_isSo_4 (by decide) ?_
  refine J_istore_11 X dL_isSo_5 rfl (by decide) ?_
  refine J_aload_0 X dL_isSo_7 ?_
  obtain ⟨vs, hroot⟩ := RA.root hX
  refine J_callV X ((c_Q_time hX hIX hIO).frame hap) (And.intro gw_4_78 cw_X10_time) (un_l hroot) rfl rfl rfl (Nat.le_of_ble_eq_true rfl) dL_isSo_8 rfl (fun v h11 e => ?_) (fun E h11 e => by obtain ⟨_, q, _⟩ := e; exact q.elim)
  obtain ⟨hx11, ⟨e0, hX11⟩, hap11, eh⟩ := e
  subst e0
  subst eh
  have hL11 : LH (kca K) hx11 (un hx11 la) α σ := ⟨la, rfl, hap11, hLA, hα⟩
  show J K (un hx11 la) [some (.ref r), some (.ref (α 0)), some (.ref (α 1)), some (.ref (α 2)), some (.ref (α 3)), some (.ref (α 4)), some (.ref (α 5)), some (.ref (α 6)), some (.ref (α 7)), some (.int one), some (.int two), some (.int (one - one / (64 : Int32) * (64 : Int32))), none, none, none, none, none, none, none, none, none, none, none, none, none, none, none, none, none, none, none] [.int (M_time ξ)] 11 0 0
  refine J_aload_8 X dL_isSo_11 ?_
  refine J_iconst (v := 0) X dL_isSo_13 rfl ?_
  refine JL_ld X hL11.la 7 (by decide) (vp_up (vp_in_nI (n := 0) (N := 1) (by decide) (by decide)) (by decide)) dL_isSo_14 ?_
  refine J_icmp_ne (tgt := 42) X dL_isSo_15 (by decide) (fun c => absurd (tm_v hQ) c) (fun _ => ?_)
  refine J_aload_0 X dL_isSo_18 ?_
  obtain ⟨vs, hroot⟩ := RA.root hX11
  refine J_callV X ((c_Q_isHeld hX11 hIX hIO).frame hap11) (And.intro gw_4_82 cw_X10_isHeld) (un_l hroot) rfl rfl rfl (Nat.le_of_ble_eq_true rfl) dL_isSo_19 rfl (fun v h12 e => ?_) (fun E h12 e => by obtain ⟨_, q, _⟩ := e; exact q.elim)
  obtain ⟨hx12, ⟨e0, hX12⟩, hap12, eh⟩ := e
  subst e0
  subst eh
  have hL12 : LH (kca K) hx12 (un hx12 la) α σ := ⟨la, rfl, hap12, hLA, hα⟩
  show J K (un hx12 la) [some (.ref r), some (.ref (α 0)), some (.ref (α 1)), some (.ref (α 2)), some (.ref (α 3)), some (.ref (α 4)), some (.ref (α 5)), some (.ref (α 6)), some (.ref (α 7)), some (.int one), some (.int two), some (.int (one - one / (64 : Int32) * (64 : Int32))), none, none, none, none, none, none, none, none, none, none, none, none, none, none, none, none, none, none, none] [.int (M_isHeld ξ)] 22 0 0
  refine J_aload_8 X dL_isSo_22 ?_
  refine J_bipush (v := (7 : Int32)) X dL_isSo_24 (by decide) ?_
  refine JL_ld X hL12.la 7 (by decide) (vp_up (vp_in_nI (n := 7) (N := 8) (by decide) (by decide)) (by decide)) dL_isSo_26 ?_
  suffices K27 : J K (un hx12 la) [some (.ref r), some (.ref (α 0)), some (.ref (α 1)), some (.ref (α 2)), some (.ref (α 3)), some (.ref (α 4)), some (.ref (α 5)), some (.ref (α 6)), some (.ref (α 7)), some (.int one), some (.int two), some (.int (one - one / (64 : Int32) * (64 : Int32))), none, none, none, none, none, none, none, none, none, none, none, none, none, none, none, none, none, none, none] [.int (if (σ 7 (ix (7 : Int32))) = (0 : Int32) then (1 : Int32) else (0 : Int32)), .int (M_isHeld ξ)] 35 0 0 by
    refine J_if_ne (tgt := 34) X dL_isSo_27 (by decide) (fun c27 => ?_) (fun c27 => ?_)
    · skip
      refine J_iconst (v := 0) X dL_isSo_34 rfl ?_
      refine J.eqi (show (0 : Int32) = (if (σ 7 (ix (7 : Int32))) = (0 : Int32) then (1 : Int32) else (0 : Int32)) from (by rw [if_neg c27])) ?_
      exact K27
    · skip
      refine J_iconst (v := 1) X dL_isSo_30 rfl ?_
      refine J_goto (tgt := 35) X dL_isSo_31 (by decide) ?_
      refine J.eqi (show (1 : Int32) = (if (σ 7 (ix (7 : Int32))) = (0 : Int32) then (1 : Int32) else (0 : Int32)) from (by rw [if_pos c27])) ?_
      exact K27
  refine J_icmp_ne (tgt := 42) X dL_isSo_35 (by decide) (fun c => absurd (hd_v hQ) c) (fun _ => ?_)
  refine J_iconst (v := 1) X dL_isSo_38 rfl ?_
  refine J_goto (tgt := 43) X dL_isSo_39 (by decide) ?_
  refine J_istore_12 X dL_isSo_43 rfl (by decide) ?_
  refine J_iconst (v := -1) X dL_isSo_45 rfl ?_
  refine J_istore_13 X dL_isSo_46 rfl (by decide) ?_
  refine J_iconst (v := 0) X dL_isSo_48 rfl ?_
  refine J_istore_14 X dL_isSo_49 rfl (by decide) ?_
  refine J_iconst (v := 0) X dL_isSo_51 rfl ?_
  refine J_istore_15 X dL_isSo_52 rfl (by decide) ?_
  exact kE hx12 hap12 hX12
set_option maxRecDepth 100000 in
set_option maxHeartbeats 4000000 in
theorem so_b {K : KT} {h0 hx la : fH} {post : Option Value → fH → Prop} {px : String → fH → Prop} {r : Nat} {α : Nat → Nat} {σ ξ : St} {one two : Int32} (X : JX K yL_isSo.name yL_isSo.cls cL_isSo 31 (some .boolean) [] (Cond.code yL_isSo cL_isSo 31 (some .boolean)) rmSo h0 post px) (hIX : InvX ξ) (hIO : InvO ξ) (hQ : LQ ξ σ) (h1 : vp_in one 60000) (h2 : vp_in two 60000) (hLA : LA (kca K) la α σ) (hα : ∀ i j, i < 8 → j < 8 → α i = α j → i = j) (hap : apart hx la) (hX : RA (kca K) hx r ξ) (pl : Int32) (hpl : vp_in pl 64) (kE : ∀ hx' : fH, apart hx' la → RA (kca K) hx' r ξ → J K (un hx' la) [some (.ref r), some (.ref (α 0)), some (.ref (α 1)), some (.ref (α 2)), some (.ref (α 3)), some (.ref (α 4)), some (.ref (α 5)), some (.ref (α 6)), some (.ref (α 7)), some (.int one), some (.int two), some (.int pl), some (.int (1 : Int32)), some (.int (M_culprit ξ pl)), none, none, none, none, none, none, none, none, none, none, none, none, none, none, none, none, none] [] 335 160 960) : J K (un hx la) [some (.ref r), some (.ref (α 0)), some (.ref (α 1)), some (.ref (α 2)), some (.ref (α 3)), some (.ref (α 4)), some (.ref (α 5)), some (.ref (α 6)), some (.ref (α 7)), some (.int one), some (.int two), some (.int pl), some (.int (1 : Int32)), some (.int (-1 : Int32)), some (.int (0 : Int32)), some (.int (0 : Int32)), none, none, none, none, none, none, none, none, none, none, none, none, none, none, none] [] 54 0 0 := by
  have hI := IL_of hQ hIX
  have hL : LH (kca K) hx (un hx la) α σ := ⟨la, rfl, hap, hLA, hα⟩
  have hB : σ 7 (ix (3 : Int32)) = nI (ix (ξ 13 0)) := hQ.g.2.2.2.1.trans (vp_nI' (hIX.1 13 0 : vp_in (ξ 13 0) 41) (by decide))
  have hl10 := hQ.lim.2.1
  have L : ∀ (n k : Nat) (c g : Int32) (hx : fH), k + n = ix (ξ 13 0) → M_culprit_L28 ξ pl (fun a _ => a) n k c g = M_culprit ξ pl → apart hx la → RA (kca K) hx r ξ → J K (un hx la) [some (.ref r), some (.ref (α 0)), some (.ref (α 1)), some (.ref (α 2)), some (.ref (α 3)), some (.ref (α 4)), some (.ref (α 5)), some (.ref (α 6)), some (.ref (α 7)), some (.int one), some (.int two), some (.int pl), some (.int (1 : Int32)), some (.int c), some (.int g), some (.int (nI k)), none, none, none, none, none, none, none, none, none, none, none, none, none, none, none] [] 54 (k * 16) (k * 96) := by
    intro n
    induction n with
    | zero =>
      intro k c g hx hk hc hap hX
      have hL : LH (kca K) hx (un hx la) α σ := ⟨la, rfl, hap, hLA, hα⟩
      rw [M_culprit_L28] at hc
      subst hc
      refine J_iload_15 X dL_isSo_54 ?_
      refine J_aload_8 X dL_isSo_56 ?_
      refine J_iconst (v := 3) X dL_isSo_58 rfl ?_
      refine JL_ld X hL.la 7 (by decide) (vp_up (vp_in_nI (n := 3) (N := 4) (by decide) (by decide)) (by decide)) dL_isSo_59 ?_
      refine J_icmp_ge (tgt := 335) X dL_isSo_60 (by decide) (fun _ => ?_) (fun c => absurd (lp_exit hB (by omega) hk) c)
      refine J.subL (lv' := [some (.ref r), some (.ref (α 0)), some (.ref (α 1)), some (.ref (α 2)), some (.ref (α 3)), some (.ref (α 4)), some (.ref (α 5)), some (.ref (α 6)), some (.ref (α 7)), some (.int one), some (.int two), some (.int pl), some (.int (1 : Int32)), some (.int (M_culprit ξ pl)), none, none, none, none, none, none, none, none, none, none, none, none, none, none, none, none, none]) (And.intro rfl (And.intro rfl (And.intro rfl (And.intro rfl (And.intro rfl (And.intro rfl (And.intro rfl (And.intro rfl (And.intro rfl (And.intro rfl (And.intro rfl (And.intro rfl (And.intro rfl (And.intro rfl trivial)))))))))))))) ?_
      refine J.widen (k := 160) (j := 960) (by omega) (by omega) ?_
      exact kE hx hap hX
    | succ n ih =>
      intro k c g hx hk hc hap hX
      have hL : LH (kca K) hx (un hx la) α σ := ⟨la, rfl, hap, hLA, hα⟩
      have hk10 : k < 10 := by omega
      have hp : vp_in (nI k) (ix (ξ 13 0)) := vp_in_nI (by omega) (by omega)
      refine J_iload_15 X dL_isSo_54 ?_
      refine J_aload_8 X dL_isSo_56 ?_
      refine J_iconst (v := 3) X dL_isSo_58 rfl ?_
      refine JL_ld X hL.la 7 (by decide) (vp_up (vp_in_nI (n := 3) (N := 4) (by decide) (by decide)) (by decide)) dL_isSo_59 ?_
      refine J_icmp_ge (tgt := 335) X dL_isSo_60 (by decide) (fun c => absurd c (lp_stay hB (by omega) hk)) (fun _ => ?_)
      refine J_iload_12 X dL_isSo_63 ?_
      refine J_if_eq (tgt := 335) X dL_isSo_65 (by decide) (fun c => absurd c (by decide)) (fun _ => ?_)
      refine J_aload_1 X dL_isSo_68 ?_
      refine J_aload_2 X dL_isSo_69 ?_
      refine J_aload_3 X dL_isSo_70 ?_
      refine J_aload_4 X dL_isSo_71 ?_
      refine J_aload_8 X dL_isSo_73 ?_
      refine J_iload_15 X dL_isSo_75 ?_
      refine J_callS X (c_L_burns hL.la hI (nI k) (vp_up (vp_in_nI (n := k) (N := 10) hk10 (by decide)) (by decide))) (And.intro gw_4_86 cw_L_burns) rfl (hroom2 (show (k * 16) ≤ 1000 by omega) (show (k * 96) ≤ 6000 by omega)) (Nat.le_of_ble_eq_true rfl) dL_isSo_77 rfl (J.pi ?_) JE.no
      refine J_istore_16 X dL_isSo_80 rfl (by decide) ?_
      refine J_aload_1 X dL_isSo_82 ?_
      refine J_aload_2 X dL_isSo_83 ?_
      refine J_aload_3 X dL_isSo_84 ?_
      refine J_aload_4 X dL_isSo_85 ?_
      refine J_aload_8 X dL_isSo_87 ?_
      refine J_iload_15 X dL_isSo_89 ?_
      refine J_iload_11 X dL_isSo_91 ?_
      refine J_callS X (c_L_gives hL.la hI (nI k) pl (vp_up (vp_in_nI (n := k) (N := 10) hk10 (by decide)) (by decide)) (vp_up hpl (by decide))) (And.intro gw_4_89 cw_L_gives) rfl (hroom2 (show (k * 16) ≤ 1000 by omega) (show (k * 96) ≤ 6000 by omega)) (Nat.le_of_ble_eq_true rfl) dL_isSo_93 rfl (J.pi ?_) JE.no
      refine J_istore_17 X dL_isSo_96 rfl (by decide) ?_
      refine J_aload_0 X dL_isSo_98 ?_
      refine J_iload_15 X dL_isSo_99 ?_
      refine J_iconst (v := 0) X dL_isSo_101 rfl ?_
      obtain ⟨vs, hroot⟩ := RA.root hX
      refine J_callV X ((c_Q_ofLamp hX hIX hIO (nI k) (0 : Int32) (oL_s hIX hp (vp_in_nI (n := 0) (N := 7) (by decide) (by decide)))).frame hap) (And.intro gw_3_237 cw_X10_ofLamp) (un_l hroot) rfl rfl (hroom2 (show (k * 16 + 2) ≤ 1000 by omega) (show (k * 96 + 12) ≤ 6000 by omega)) (Nat.le_of_ble_eq_true rfl) dL_isSo_102 rfl (fun v h11 e => ?_) (fun E h11 e => by obtain ⟨_, q, _⟩ := e; exact q.elim)
      obtain ⟨hx11, ⟨e0, hX11⟩, hap11, eh⟩ := e
      subst e0
      subst eh
      have hL11 : LH (kca K) hx11 (un hx11 la) α σ := ⟨la, rfl, hap11, hLA, hα⟩
      show J K (un hx11 la) [some (.ref r), some (.ref (α 0)), some (.ref (α 1)), some (.ref (α 2)), some (.ref (α 3)), some (.ref (α 4)), some (.ref (α 5)), some (.ref (α 6)), some (.ref (α 7)), some (.int one), some (.int two), some (.int pl), some (.int (1 : Int32)), some (.int c), some (.int g), some (.int (nI k)), some (.int (L_burns σ (nI k))), some (.int (L_gives σ (nI k) pl)), none, none, none, none, none, none, none, none, none, none, none, none, none] [.int (M_ofLamp ξ (nI k) (0 : Int32))] 105 (k * 16 + 2) (k * 96 + 12)
      refine J_iload_16 X dL_isSo_105 ?_
      suffices K107 : J K (un hx11 la) [some (.ref r), some (.ref (α 0)), some (.ref (α 1)), some (.ref (α 2)), some (.ref (α 3)), some (.ref (α 4)), some (.ref (α 5)), some (.ref (α 6)), some (.ref (α 7)), some (.int one), some (.int two), some (.int pl), some (.int (1 : Int32)), some (.int c), some (.int g), some (.int (nI k)), some (.int (L_burns σ (nI k))), some (.int (L_gives σ (nI k) pl)), none, none, none, none, none, none, none, none, none, none, none, none, none] [.int (L_burns σ (nI k)), .int (M_ofLamp ξ (nI k) (0 : Int32))] 115 (k * 16 + 2) (k * 96 + 12) by
        refine J_if_eq (tgt := 114) X dL_isSo_107 (by decide) (fun c107 => ?_) (fun c107 => ?_)
        · skip
          refine J_iconst (v := 0) X dL_isSo_114 rfl ?_
          refine J.eqi (show (0 : Int32) = (L_burns σ (nI k)) from c107.symm) ?_
          exact K107
        · skip
          refine J_iconst (v := 1) X dL_isSo_110 rfl ?_
          refine J_goto (tgt := 115) X dL_isSo_111 (by decide) ?_
          refine J.eqi (show (1 : Int32) = (L_burns σ (nI k)) from ((L_burns_b ..).resolve_left c107).symm) ?_
          exact K107
      refine J_icmp_ne (tgt := 294) X dL_isSo_115 (by decide) (fun c => absurd (oL_0 hQ hIX hp) c) (fun _ => ?_)
      refine J_aload_0 X dL_isSo_118 ?_
      refine J_iload_15 X dL_isSo_119 ?_
      refine J_iconst (v := 1) X dL_isSo_121 rfl ?_
      obtain ⟨vs, hroot⟩ := RA.root hX11
      refine J_callV X ((c_Q_ofLamp hX11 hIX hIO (nI k) (1 : Int32) (oL_s hIX hp (vp_in_nI (n := 1) (N := 7) (by decide) (by decide)))).frame hap11) (And.intro gw_3_237 cw_X10_ofLamp) (un_l hroot) rfl rfl (hroom2 (show (k * 16 + 4) ≤ 1000 by omega) (show (k * 96 + 24) ≤ 6000 by omega)) (Nat.le_of_ble_eq_true rfl) dL_isSo_122 rfl (fun v h12 e => ?_) (fun E h12 e => by obtain ⟨_, q, _⟩ := e; exact q.elim)
      obtain ⟨hx12, ⟨e0, hX12⟩, hap12, eh⟩ := e
      subst e0
      subst eh
      have hL12 : LH (kca K) hx12 (un hx12 la) α σ := ⟨la, rfl, hap12, hLA, hα⟩
      show J K (un hx12 la) [some (.ref r), some (.ref (α 0)), some (.ref (α 1)), some (.ref (α 2)), some (.ref (α 3)), some (.ref (α 4)), some (.ref (α 5)), some (.ref (α 6)), some (.ref (α 7)), some (.int one), some (.int two), some (.int pl), some (.int (1 : Int32)), some (.int c), some (.int g), some (.int (nI k)), some (.int (L_burns σ (nI k))), some (.int (L_gives σ (nI k) pl)), none, none, none, none, none, none, none, none, none, none, none, none, none] [.int (M_ofLamp ξ (nI k) (1 : Int32))] 125 (k * 16 + 4) (k * 96 + 24)
      refine J_aload_4 X dL_isSo_125 ?_
      refine J_iload_15 X dL_isSo_127 ?_
      refine J_callS X (c_L_light hL12.la hI (nI k) (vp_up (vp_in_nI (n := k) (N := 10) hk10 (by decide)) (by decide))) (And.intro gw_4_92 cw_L_light) rfl (hroom2 (show (k * 16 + 4) ≤ 1000 by omega) (show (k * 96 + 24) ≤ 6000 by omega)) (Nat.le_of_ble_eq_true rfl) dL_isSo_129 rfl (J.pi ?_) JE.no
      refine J_icmp_ne (tgt := 294) X dL_isSo_132 (by decide) (fun c => absurd (oL_1 hQ hIX hp) c) (fun _ => ?_)
      refine J_aload_0 X dL_isSo_135 ?_
      refine J_iload_15 X dL_isSo_136 ?_
      refine J_iconst (v := 2) X dL_isSo_138 rfl ?_
      obtain ⟨vs, hroot⟩ := RA.root hX12
      refine J_callV X ((c_Q_ofLamp hX12 hIX hIO (nI k) (2 : Int32) (oL_s hIX hp (vp_in_nI (n := 2) (N := 7) (by decide) (by decide)))).frame hap12) (And.intro gw_3_237 cw_X10_ofLamp) (un_l hroot) rfl rfl (hroom2 (show (k * 16 + 6) ≤ 1000 by omega) (show (k * 96 + 36) ≤ 6000 by omega)) (Nat.le_of_ble_eq_true rfl) dL_isSo_139 rfl (fun v h13 e => ?_) (fun E h13 e => by obtain ⟨_, q, _⟩ := e; exact q.elim)
      obtain ⟨hx13, ⟨e0, hX13⟩, hap13, eh⟩ := e
      subst e0
      subst eh
      have hL13 : LH (kca K) hx13 (un hx13 la) α σ := ⟨la, rfl, hap13, hLA, hα⟩
      show J K (un hx13 la) [some (.ref r), some (.ref (α 0)), some (.ref (α 1)), some (.ref (α 2)), some (.ref (α 3)), some (.ref (α 4)), some (.ref (α 5)), some (.ref (α 6)), some (.ref (α 7)), some (.int one), some (.int two), some (.int pl), some (.int (1 : Int32)), some (.int c), some (.int g), some (.int (nI k)), some (.int (L_burns σ (nI k))), some (.int (L_gives σ (nI k) pl)), none, none, none, none, none, none, none, none, none, none, none, none, none] [.int (M_ofLamp ξ (nI k) (2 : Int32))] 142 (k * 16 + 6) (k * 96 + 36)
      refine J_aload_4 X dL_isSo_142 ?_
      refine J_bipush (v := (6 : Int32)) X dL_isSo_144 (by decide) ?_
      refine J_iload_15 X dL_isSo_146 ?_
      refine J_imul X dL_isSo_148 ?_
      refine J_iconst (v := 4) X dL_isSo_149 rfl ?_
      refine J_iadd X dL_isSo_150 ?_
      refine JL_ld X hL13.la 3 (by decide) (vp_up (vr_add (vr_mul (vp_in_nI (n := 6) (N := 7) (by decide) (by decide)) (vp_in_nI (n := k) (N := 10) hk10 (by decide)) (by decide)) (vp_in_nI (n := 4) (N := 5) (by decide) (by decide)) (by decide)) (by decide)) dL_isSo_151 ?_
      refine J_icmp_ne (tgt := 294) X dL_isSo_152 (by decide) (fun c => absurd (oL_2 hQ hIX hp) c) (fun _ => ?_)
      refine J_aload_0 X dL_isSo_155 ?_
      refine J_iload_15 X dL_isSo_156 ?_
      refine J_iconst (v := 3) X dL_isSo_158 rfl ?_
      obtain ⟨vs, hroot⟩ := RA.root hX13
      refine J_callV X ((c_Q_ofLamp hX13 hIX hIO (nI k) (3 : Int32) (oL_s hIX hp (vp_in_nI (n := 3) (N := 7) (by decide) (by decide)))).frame hap13) (And.intro gw_3_237 cw_X10_ofLamp) (un_l hroot) rfl rfl (hroom2 (show (k * 16 + 8) ≤ 1000 by omega) (show (k * 96 + 48) ≤ 6000 by omega)) (Nat.le_of_ble_eq_true rfl) dL_isSo_159 rfl (fun v h14 e => ?_) (fun E h14 e => by obtain ⟨_, q, _⟩ := e; exact q.elim)
      obtain ⟨hx14, ⟨e0, hX14⟩, hap14, eh⟩ := e
      subst e0
      subst eh
      have hL14 : LH (kca K) hx14 (un hx14 la) α σ := ⟨la, rfl, hap14, hLA, hα⟩
      show J K (un hx14 la) [some (.ref r), some (.ref (α 0)), some (.ref (α 1)), some (.ref (α 2)), some (.ref (α 3)), some (.ref (α 4)), some (.ref (α 5)), some (.ref (α 6)), some (.ref (α 7)), some (.int one), some (.int two), some (.int pl), some (.int (1 : Int32)), some (.int c), some (.int g), some (.int (nI k)), some (.int (L_burns σ (nI k))), some (.int (L_gives σ (nI k) pl)), none, none, none, none, none, none, none, none, none, none, none, none, none] [.int (M_ofLamp ξ (nI k) (3 : Int32))] 162 (k * 16 + 8) (k * 96 + 48)
      refine J_aload_4 X dL_isSo_162 ?_
      refine J_bipush (v := (6 : Int32)) X dL_isSo_164 (by decide) ?_
      refine J_iload_15 X dL_isSo_166 ?_
      refine J_imul X dL_isSo_168 ?_
      refine J_iconst (v := 2) X dL_isSo_169 rfl ?_
      refine J_iadd X dL_isSo_170 ?_
      refine JL_ld X hL14.la 3 (by decide) (vp_up (vr_add (vr_mul (vp_in_nI (n := 6) (N := 7) (by decide) (by decide)) (vp_in_nI (n := k) (N := 10) hk10 (by decide)) (by decide)) (vp_in_nI (n := 2) (N := 3) (by decide) (by decide)) (by decide)) (by decide)) dL_isSo_171 ?_
      refine J_iconst (v := 4) X dL_isSo_172 rfl ?_
      refine J_idiv X dL_isSo_173 (by decide) ?_
      refine J_bipush (v := (16 : Int32)) X dL_isSo_174 (by decide) ?_
      refine J_irem X dL_isSo_176 (by decide) ?_
      refine J_icmp_ne (tgt := 294) X dL_isSo_177 (by decide) (fun c => absurd (oL_3 hQ hIX hp) c) (fun _ => ?_)
      refine J_aload_0 X dL_isSo_180 ?_
      refine J_iload_15 X dL_isSo_181 ?_
      refine J_iconst (v := 4) X dL_isSo_183 rfl ?_
      obtain ⟨vs, hroot⟩ := RA.root hX14
      refine J_callV X ((c_Q_ofLamp hX14 hIX hIO (nI k) (4 : Int32) (oL_s hIX hp (vp_in_nI (n := 4) (N := 7) (by decide) (by decide)))).frame hap14) (And.intro gw_3_237 cw_X10_ofLamp) (un_l hroot) rfl rfl (hroom2 (show (k * 16 + 10) ≤ 1000 by omega) (show (k * 96 + 60) ≤ 6000 by omega)) (Nat.le_of_ble_eq_true rfl) dL_isSo_184 rfl (fun v h15 e => ?_) (fun E h15 e => by obtain ⟨_, q, _⟩ := e; exact q.elim)
      obtain ⟨hx15, ⟨e0, hX15⟩, hap15, eh⟩ := e
      subst e0
      subst eh
      have hL15 : LH (kca K) hx15 (un hx15 la) α σ := ⟨la, rfl, hap15, hLA, hα⟩
      show J K (un hx15 la) [some (.ref r), some (.ref (α 0)), some (.ref (α 1)), some (.ref (α 2)), some (.ref (α 3)), some (.ref (α 4)), some (.ref (α 5)), some (.ref (α 6)), some (.ref (α 7)), some (.int one), some (.int two), some (.int pl), some (.int (1 : Int32)), some (.int c), some (.int g), some (.int (nI k)), some (.int (L_burns σ (nI k))), some (.int (L_gives σ (nI k) pl)), none, none, none, none, none, none, none, none, none, none, none, none, none] [.int (M_ofLamp ξ (nI k) (4 : Int32))] 187 (k * 16 + 10) (k * 96 + 60)
      refine J_aload_4 X dL_isSo_187 ?_
      refine J_bipush (v := (6 : Int32)) X dL_isSo_189 (by decide) ?_
      refine J_iload_15 X dL_isSo_191 ?_
      refine J_imul X dL_isSo_193 ?_
      refine J_iconst (v := 2) X dL_isSo_194 rfl ?_
      refine J_iadd X dL_isSo_195 ?_
      refine JL_ld X hL15.la 3 (by decide) (vp_up (vr_add (vr_mul (vp_in_nI (n := 6) (N := 7) (by decide) (by decide)) (vp_in_nI (n := k) (N := 10) hk10 (by decide)) (by decide)) (vp_in_nI (n := 2) (N := 3) (by decide) (by decide)) (by decide)) (by decide)) dL_isSo_196 ?_
      refine J_bipush (v := (64 : Int32)) X dL_isSo_197 (by decide) ?_
      refine J_idiv X dL_isSo_199 (by decide) ?_
      refine J_icmp_ne (tgt := 294) X dL_isSo_200 (by decide) (fun c => absurd (oL_4 hQ hIX hp) c) (fun _ => ?_)
      refine J_aload_0 X dL_isSo_203 ?_
      refine J_iload_15 X dL_isSo_204 ?_
      refine J_iconst (v := 5) X dL_isSo_206 rfl ?_
      obtain ⟨vs, hroot⟩ := RA.root hX15
      refine J_callV X ((c_Q_ofLamp hX15 hIX hIO (nI k) (5 : Int32) (oL_s hIX hp (vp_in_nI (n := 5) (N := 7) (by decide) (by decide)))).frame hap15) (And.intro gw_3_237 cw_X10_ofLamp) (un_l hroot) rfl rfl (hroom2 (show (k * 16 + 12) ≤ 1000 by omega) (show (k * 96 + 72) ≤ 6000 by omega)) (Nat.le_of_ble_eq_true rfl) dL_isSo_207 rfl (fun v h16 e => ?_) (fun E h16 e => by obtain ⟨_, q, _⟩ := e; exact q.elim)
      obtain ⟨hx16, ⟨e0, hX16⟩, hap16, eh⟩ := e
      subst e0
      subst eh
      have hL16 : LH (kca K) hx16 (un hx16 la) α σ := ⟨la, rfl, hap16, hLA, hα⟩
      show J K (un hx16 la) [some (.ref r), some (.ref (α 0)), some (.ref (α 1)), some (.ref (α 2)), some (.ref (α 3)), some (.ref (α 4)), some (.ref (α 5)), some (.ref (α 6)), some (.ref (α 7)), some (.int one), some (.int two), some (.int pl), some (.int (1 : Int32)), some (.int c), some (.int g), some (.int (nI k)), some (.int (L_burns σ (nI k))), some (.int (L_gives σ (nI k) pl)), none, none, none, none, none, none, none, none, none, none, none, none, none] [.int (M_ofLamp ξ (nI k) (5 : Int32))] 210 (k * 16 + 12) (k * 96 + 72)
      refine J_aload_4 X dL_isSo_210 ?_
      refine J_bipush (v := (6 : Int32)) X dL_isSo_212 (by decide) ?_
      refine J_iload_15 X dL_isSo_214 ?_
      refine J_imul X dL_isSo_216 ?_
      refine J_iconst (v := 5) X dL_isSo_217 rfl ?_
      refine J_iadd X dL_isSo_218 ?_
      refine JL_ld X hL16.la 3 (by decide) (vp_up (vr_add (vr_mul (vp_in_nI (n := 6) (N := 7) (by decide) (by decide)) (vp_in_nI (n := k) (N := 10) hk10 (by decide)) (by decide)) (vp_in_nI (n := 5) (N := 6) (by decide) (by decide)) (by decide)) (by decide)) dL_isSo_219 ?_
      refine J_aload_8 X dL_isSo_220 ?_
      refine J_iconst (v := 0) X dL_isSo_222 rfl ?_
      refine JL_ld X hL16.la 7 (by decide) (vp_up (vp_in_nI (n := 0) (N := 1) (by decide) (by decide)) (by decide)) dL_isSo_223 ?_
      suffices K224 : J K (un hx16 la) [some (.ref r), some (.ref (α 0)), some (.ref (α 1)), some (.ref (α 2)), some (.ref (α 3)), some (.ref (α 4)), some (.ref (α 5)), some (.ref (α 6)), some (.ref (α 7)), some (.int one), some (.int two), some (.int pl), some (.int (1 : Int32)), some (.int c), some (.int g), some (.int (nI k)), some (.int (L_burns σ (nI k))), some (.int (L_gives σ (nI k) pl)), none, none, none, none, none, none, none, none, none, none, none, none, none] [.int (if (σ 3 (ix (((6 : Int32) * (nI k)) + (5 : Int32)))) ≤ (σ 7 (ix (0 : Int32))) then (0 : Int32) else ((σ 3 (ix (((6 : Int32) * (nI k)) + (5 : Int32)))) - (σ 7 (ix (0 : Int32))))), .int (M_ofLamp ξ (nI k) (5 : Int32))] 246 (k * 16 + 12) (k * 96 + 72) by
        refine J_icmp_le (tgt := 245) X dL_isSo_224 (by decide) (fun c224 => ?_) (fun c224 => ?_)
        · skip
          refine J_iconst (v := 0) X dL_isSo_245 rfl ?_
          refine J.eqi (show (0 : Int32) = (if (σ 3 (ix (((6 : Int32) * (nI k)) + (5 : Int32)))) ≤ (σ 7 (ix (0 : Int32))) then (0 : Int32) else ((σ 3 (ix (((6 : Int32) * (nI k)) + (5 : Int32)))) - (σ 7 (ix (0 : Int32))))) from (by rw [if_pos c224])) ?_
          exact K224
        · skip
          refine J_aload_4 X dL_isSo_227 ?_
          refine J_bipush (v := (6 : Int32)) X dL_isSo_229 (by decide) ?_
          refine J_iload_15 X dL_isSo_231 ?_
          refine J_imul X dL_isSo_233 ?_
          refine J_iconst (v := 5) X dL_isSo_234 rfl ?_
          refine J_iadd X dL_isSo_235 ?_
          refine JL_ld X hL16.la 3 (by decide) (vp_up (vr_add (vr_mul (vp_in_nI (n := 6) (N := 7) (by decide) (by decide)) (vp_in_nI (n := k) (N := 10) hk10 (by decide)) (by decide)) (vp_in_nI (n := 5) (N := 6) (by decide) (by decide)) (by decide)) (by decide)) dL_isSo_236 ?_
          refine J_aload_8 X dL_isSo_237 ?_
          refine J_iconst (v := 0) X dL_isSo_239 rfl ?_
          refine JL_ld X hL16.la 7 (by decide) (vp_up (vp_in_nI (n := 0) (N := 1) (by decide) (by decide)) (by decide)) dL_isSo_240 ?_
          refine J_isub X dL_isSo_241 ?_
          refine J_goto (tgt := 246) X dL_isSo_242 (by decide) ?_
          refine J.eqi (show ((σ 3 (ix (((6 : Int32) * (nI k)) + (5 : Int32)))) - (σ 7 (ix (0 : Int32)))) = (if (σ 3 (ix (((6 : Int32) * (nI k)) + (5 : Int32)))) ≤ (σ 7 (ix (0 : Int32))) then (0 : Int32) else ((σ 3 (ix (((6 : Int32) * (nI k)) + (5 : Int32)))) - (σ 7 (ix (0 : Int32))))) from (by rw [if_neg c224])) ?_
          exact K224
      refine J_icmp_ne (tgt := 294) X dL_isSo_246 (by decide) (fun c => absurd (oL_5 hQ hIX hp) c) (fun _ => ?_)
      refine J_aload_0 X dL_isSo_249 ?_
      refine J_iload_15 X dL_isSo_250 ?_
      refine J_bipush (v := (6 : Int32)) X dL_isSo_252 (by decide) ?_
      obtain ⟨vs, hroot⟩ := RA.root hX16
      refine J_callV X ((c_Q_ofLamp hX16 hIX hIO (nI k) (6 : Int32) (oL_s hIX hp (vp_in_nI (n := 6) (N := 7) (by decide) (by decide)))).frame hap16) (And.intro gw_3_237 cw_X10_ofLamp) (un_l hroot) rfl rfl (hroom2 (show (k * 16 + 14) ≤ 1000 by omega) (show (k * 96 + 84) ≤ 6000 by omega)) (Nat.le_of_ble_eq_true rfl) dL_isSo_254 rfl (fun v h17 e => ?_) (fun E h17 e => by obtain ⟨_, q, _⟩ := e; exact q.elim)
      obtain ⟨hx17, ⟨e0, hX17⟩, hap17, eh⟩ := e
      subst e0
      subst eh
      have hL17 : LH (kca K) hx17 (un hx17 la) α σ := ⟨la, rfl, hap17, hLA, hα⟩
      show J K (un hx17 la) [some (.ref r), some (.ref (α 0)), some (.ref (α 1)), some (.ref (α 2)), some (.ref (α 3)), some (.ref (α 4)), some (.ref (α 5)), some (.ref (α 6)), some (.ref (α 7)), some (.int one), some (.int two), some (.int pl), some (.int (1 : Int32)), some (.int c), some (.int g), some (.int (nI k)), some (.int (L_burns σ (nI k))), some (.int (L_gives σ (nI k) pl)), none, none, none, none, none, none, none, none, none, none, none, none, none] [.int (M_ofLamp ξ (nI k) (6 : Int32))] 257 (k * 16 + 14) (k * 96 + 84)
      refine J_aload_1 X dL_isSo_257 ?_
      refine J_aload_2 X dL_isSo_258 ?_
      refine J_aload_4 X dL_isSo_259 ?_
      refine J_iload_15 X dL_isSo_261 ?_
      refine J_callS X (c_L_isUnlawful hL17.la hI (nI k) (vp_up (vp_in_nI (n := k) (N := 10) hk10 (by decide)) (by decide))) (And.intro gw_4_104 cw_L_isUnlawful) rfl (hroom2 (show (k * 16 + 14) ≤ 1000 by omega) (show (k * 96 + 84) ≤ 6000 by omega)) (Nat.le_of_ble_eq_true rfl) dL_isSo_263 rfl (J.pi ?_) JE.no
      suffices K266 : J K (un hx17 la) [some (.ref r), some (.ref (α 0)), some (.ref (α 1)), some (.ref (α 2)), some (.ref (α 3)), some (.ref (α 4)), some (.ref (α 5)), some (.ref (α 6)), some (.ref (α 7)), some (.int one), some (.int two), some (.int pl), some (.int (1 : Int32)), some (.int c), some (.int g), some (.int (nI k)), some (.int (L_burns σ (nI k))), some (.int (L_gives σ (nI k) pl)), none, none, none, none, none, none, none, none, none, none, none, none, none] [.int (L_isUnlawful σ (nI k)), .int (M_ofLamp ξ (nI k) (6 : Int32))] 274 (k * 16 + 14) (k * 96 + 84) by
        refine J_if_eq (tgt := 273) X dL_isSo_266 (by decide) (fun c266 => ?_) (fun c266 => ?_)
        · skip
          refine J_iconst (v := 0) X dL_isSo_273 rfl ?_
          refine J.eqi (show (0 : Int32) = (L_isUnlawful σ (nI k)) from c266.symm) ?_
          exact K266
        · skip
          refine J_iconst (v := 1) X dL_isSo_269 rfl ?_
          refine J_goto (tgt := 274) X dL_isSo_270 (by decide) ?_
          refine J.eqi (show (1 : Int32) = (L_isUnlawful σ (nI k)) from ((L_isUnlawful_b ..).resolve_left c266).symm) ?_
          exact K266
      refine J_icmp_ne (tgt := 294) X dL_isSo_274 (by decide) (fun c => absurd (oL_6 hQ hIX hp) c) (fun _ => ?_)
      refine J_aload_0 X dL_isSo_277 ?_
      refine J_iload_15 X dL_isSo_278 ?_
      refine J_iload_11 X dL_isSo_280 ?_
      obtain ⟨vs, hroot⟩ := RA.root hX17
      refine J_callV X ((c_Q_gives hX17 hIX hIO (nI k) pl (gv_s hIX hp hpl)).frame hap17) (And.intro gw_4_107 cw_X10_gives) (un_l hroot) rfl rfl (hroom2 (show (k * 16 + 16) ≤ 1000 by omega) (show (k * 96 + 96) ≤ 6000 by omega)) (Nat.le_of_ble_eq_true rfl) dL_isSo_282 rfl (fun v h18 e => ?_) (fun E h18 e => by obtain ⟨_, q, _⟩ := e; exact q.elim)
      obtain ⟨hx18, ⟨e0, hX18⟩, hap18, eh⟩ := e
      subst e0
      subst eh
      have hL18 : LH (kca K) hx18 (un hx18 la) α σ := ⟨la, rfl, hap18, hLA, hα⟩
      show J K (un hx18 la) [some (.ref r), some (.ref (α 0)), some (.ref (α 1)), some (.ref (α 2)), some (.ref (α 3)), some (.ref (α 4)), some (.ref (α 5)), some (.ref (α 6)), some (.ref (α 7)), some (.int one), some (.int two), some (.int pl), some (.int (1 : Int32)), some (.int c), some (.int g), some (.int (nI k)), some (.int (L_burns σ (nI k))), some (.int (L_gives σ (nI k) pl)), none, none, none, none, none, none, none, none, none, none, none, none, none] [.int (M_gives ξ (nI k) pl)] 285 (k * 16 + 16) (k * 96 + 96)
      refine J_iload_17 X dL_isSo_285 ?_
      refine J_icmp_ne (tgt := 294) X dL_isSo_287 (by decide) (fun c => absurd (gv_v hQ hIX hp hpl) c) (fun _ => ?_)
      refine J_iconst (v := 1) X dL_isSo_290 rfl ?_
      refine J_goto (tgt := 295) X dL_isSo_291 (by decide) ?_
      refine J_istore_12 X dL_isSo_295 rfl (by decide) ?_
      refine J_iload_17 X dL_isSo_297 ?_
      refine J_iload_14 X dL_isSo_299 ?_
      suffices K301 : J K (un hx18 la) [some (.ref r), some (.ref (α 0)), some (.ref (α 1)), some (.ref (α 2)), some (.ref (α 3)), some (.ref (α 4)), some (.ref (α 5)), some (.ref (α 6)), some (.ref (α 7)), some (.int one), some (.int two), some (.int pl), some (.int (1 : Int32)), some (.int c), some (.int g), some (.int (nI k)), some (.int (L_burns σ (nI k))), some (.int (L_gives σ (nI k) pl)), none, none, none, none, none, none, none, none, none, none, none, none, none] [.int (if (L_gives σ (nI k) pl) ≤ g then c else (nI k))] 311 (k * 16 + 16) (k * 96 + 96) by
        refine J_icmp_le (tgt := 309) X dL_isSo_301 (by decide) (fun c301 => ?_) (fun c301 => ?_)
        · skip
          refine J_iload_13 X dL_isSo_309 ?_
          refine J.eqi (show c = (if (L_gives σ (nI k) pl) ≤ g then c else (nI k)) from (by rw [if_pos c301])) ?_
          exact K301
        · skip
          refine J_iload_15 X dL_isSo_304 ?_
          refine J_goto (tgt := 311) X dL_isSo_306 (by decide) ?_
          refine J.eqi (show (nI k) = (if (L_gives σ (nI k) pl) ≤ g then c else (nI k)) from (by rw [if_neg c301])) ?_
          exact K301
      refine J_istore_13 X dL_isSo_311 rfl (by decide) ?_
      refine J_iload_17 X dL_isSo_313 ?_
      refine J_iload_14 X dL_isSo_315 ?_
      suffices K317 : J K (un hx18 la) [some (.ref r), some (.ref (α 0)), some (.ref (α 1)), some (.ref (α 2)), some (.ref (α 3)), some (.ref (α 4)), some (.ref (α 5)), some (.ref (α 6)), some (.ref (α 7)), some (.int one), some (.int two), some (.int pl), some (.int (1 : Int32)), some (.int (if (L_gives σ (nI k) pl) ≤ g then c else (nI k))), some (.int g), some (.int (nI k)), some (.int (L_burns σ (nI k))), some (.int (L_gives σ (nI k) pl)), none, none, none, none, none, none, none, none, none, none, none, none, none] [.int (if (L_gives σ (nI k) pl) ≤ g then g else (L_gives σ (nI k) pl))] 327 (k * 16 + 16) (k * 96 + 96) by
        refine J_icmp_le (tgt := 325) X dL_isSo_317 (by decide) (fun c317 => ?_) (fun c317 => ?_)
        · skip
          refine J_iload_14 X dL_isSo_325 ?_
          refine J.eqi (show g = (if (L_gives σ (nI k) pl) ≤ g then g else (L_gives σ (nI k) pl)) from (by rw [if_pos c317])) ?_
          exact K317
        · skip
          refine J_iload_17 X dL_isSo_320 ?_
          refine J_goto (tgt := 327) X dL_isSo_322 (by decide) ?_
          refine J.eqi (show (L_gives σ (nI k) pl) = (if (L_gives σ (nI k) pl) ≤ g then g else (L_gives σ (nI k) pl)) from (by rw [if_neg c317])) ?_
          exact K317
      refine J_istore_14 X dL_isSo_327 rfl (by decide) ?_
      refine J_iinc_15 (v := (nI (k + 1))) X dL_isSo_329 (nI_1 _) rfl (by decide) ?_
      refine J_goto (tgt := 54) X dL_isSo_332 (by decide) ?_
      refine J.subL (lv' := [some (.ref r), some (.ref (α 0)), some (.ref (α 1)), some (.ref (α 2)), some (.ref (α 3)), some (.ref (α 4)), some (.ref (α 5)), some (.ref (α 6)), some (.ref (α 7)), some (.int one), some (.int two), some (.int pl), some (.int (1 : Int32)), some (.int (if (L_gives σ (nI k) pl) ≤ g then c else (nI k))), some (.int (if (L_gives σ (nI k) pl) ≤ g then g else (L_gives σ (nI k) pl))), some (.int (nI (k + 1))), none, none, none, none, none, none, none, none, none, none, none, none, none, none, none]) (And.intro rfl (And.intro rfl (And.intro rfl (And.intro rfl (And.intro rfl (And.intro rfl (And.intro rfl (And.intro rfl (And.intro rfl (And.intro rfl (And.intro rfl (And.intro rfl (And.intro rfl (And.intro rfl (And.intro rfl (And.intro rfl trivial)))))))))))))))) ?_
      refine J.widen (k := ((k + 1) * 16)) (j := ((k + 1) * 96)) (by omega) (by omega) ?_
      exact ih (k + 1) _ _ _ (by omega) (by rw [← cu_step hQ hIX hpl (by omega)]; exact hc) hap18 hX18
  exact L (ix (ξ 13 0)) 0 (-1) 0 hx (Nat.zero_add _) (cu_v hpl).symm hap hX
end
