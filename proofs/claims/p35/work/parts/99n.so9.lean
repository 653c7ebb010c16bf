noncomputable section
set_option maxRecDepth 100000 in
set_option maxHeartbeats 4000000 in
theorem so_v {K : KT} {h0 hx la : fH} {post : Option Value → fH → Prop} {px : String → fH → Prop} {r : Nat} {α : Nat → Nat} {σ ξ : St} {one two : Int32} (X : JX K yL_isSo.name yL_isSo.cls cL_isSo 31 (some .boolean) [] (Cond.code yL_isSo cL_isSo 31 (some .boolean)) rmSo h0 post px) (hIX : InvX ξ) (hIO : InvO ξ) (hQ : LQ ξ σ) (h1 : vp_in one 60000) (h2 : vp_in two 60000) (hLA : LA (kca K) la α σ) (hα : ∀ i j, i < 8 → j < 8 → α i = α j → i = j) (hap : apart hx la) (hX : RA (kca K) hx r ξ) (hA : AG σ) (pl : Int32) (hpl : vp_in pl 64) (kE : ∀ hx' : fH, apart hx' la → RA (kca K) hx' r ξ → J K (un hx' la) [some (.ref r), some (.ref (α 0)), some (.ref (α 1)), some (.ref (α 2)), some (.ref (α 3)), some (.ref (α 4)), some (.ref (α 5)), some (.ref (α 6)), some (.ref (α 7)), some (.int one), some (.int two), some (.int pl), some (.int (1 : Int32)), none, none, some (.int (0 : Int32)), none, none, none, none, none, none, none, none, none, none, none, none, none, none, none] [] 940 187 1122) : J K (un hx la) [some (.ref r), some (.ref (α 0)), some (.ref (α 1)), some (.ref (α 2)), some (.ref (α 3)), some (.ref (α 4)), some (.ref (α 5)), some (.ref (α 6)), some (.ref (α 7)), some (.int one), some (.int two), some (.int pl), some (.int (1 : Int32)), none, none, some (.int (0 : Int32)), none, none, none, none, none, none, none, none, none, none, none, none, none, none, none] [] 433 165 990 := by
  have hI := IL_of hQ hIX
  have hL : LH (kca K) hx (un hx la) α σ := ⟨la, rfl, hap, hLA, hα⟩
  have hv2 := hQ.lim.1
  have hB : σ 7 (ix (2 : Int32)) = nI (ix (ξ 8 0)) := hQ.g.2.2.1.trans (vp_nI' (hIX.1 8 0 : vp_in (ξ 8 0) 6) (by decide))
  have L : ∀ (n k : Nat) (hx : fH), k + n = ix (ξ 8 0) → apart hx la → RA (kca K) hx r ξ → J K (un hx la) [some (.ref r), some (.ref (α 0)), some (.ref (α 1)), some (.ref (α 2)), some (.ref (α 3)), some (.ref (α 4)), some (.ref (α 5)), some (.ref (α 6)), some (.ref (α 7)), some (.int one), some (.int two), some (.int pl), some (.int (1 : Int32)), none, none, some (.int (nI k)), none, none, none, none, none, none, none, none, none, none, none, none, none, none, none] [] 433 (165 + k * 11) (990 + k * 66) := by
    intro n
    induction n with
    | zero =>
      intro k hx hk hap hX
      have hL : LH (kca K) hx (un hx la) α σ := ⟨la, rfl, hap, hLA, hα⟩
      refine J_iload_15 X dL_isSo_433 ?_
      refine J_aload_8 X dL_isSo_435 ?_
      refine J_iconst (v := 2) X dL_isSo_437 rfl ?_
      refine JL_ld X hL.la 7 (by decide) (vp_up (vp_in_nI (n := 2) (N := 3) (by decide) (by decide)) (by decide)) dL_isSo_438 ?_
      refine J_icmp_ge (tgt := 937) X dL_isSo_439 (by decide) (fun _ => ?_) (fun c => absurd (lp_exit hB (by omega) hk) c)
      refine J_iconst (v := 0) X dL_isSo_937 rfl ?_
      refine J_istore_15 X dL_isSo_938 rfl (by decide) ?_
      refine J.widen (k := 187) (j := 1122) (by omega) (by omega) ?_
      exact kE hx hap hX
    | succ n ih =>
      intro k hx hk hap hX
      have hL : LH (kca K) hx (un hx la) α σ := ⟨la, rfl, hap, hLA, hα⟩
      have KR : ∀ hx2 : fH, apart hx2 la → RA (kca K) hx2 r ξ → J K (un hx2 la) [some (.ref r), some (.ref (α 0)), some (.ref (α 1)), some (.ref (α 2)), some (.ref (α 3)), some (.ref (α 4)), some (.ref (α 5)), some (.ref (α 6)), some (.ref (α 7)), some (.int one), some (.int two), some (.int pl), some (.int (1 : Int32)), none, none, some (.int (nI k)), none, none, none, none, none, none, none, none, none, none, none, none, none, none, none] [] 931 (165 + (k + 1) * 11) (990 + (k + 1) * 66) := by
        intro hx2 hap2 hX2
        refine J_iinc_15 (v := (nI (k + 1))) X dL_isSo_931 (nI_1 _) rfl (by decide) ?_
        refine J_goto (tgt := 433) X dL_isSo_934 (by decide) ?_
        exact ih (k + 1) hx2 (by omega) hap2 hX2
      refine J_iload_15 X dL_isSo_433 ?_
      refine J_aload_8 X dL_isSo_435 ?_
      refine J_iconst (v := 2) X dL_isSo_437 rfl ?_
      refine JL_ld X hL.la 7 (by decide) (vp_up (vp_in_nI (n := 2) (N := 3) (by decide) (by decide)) (by decide)) dL_isSo_438 ?_
      refine J_icmp_ge (tgt := 937) X dL_isSo_439 (by decide) (fun c => absurd c (lp_stay hB (by omega) hk)) (fun _ => ?_)
      refine J_iload_12 X dL_isSo_442 ?_
      refine J_if_eq (tgt := 937) X dL_isSo_444 (by decide) (fun c => absurd c (by decide)) (fun _ => ?_)
      refine so_d X hIX hIO hQ h1 h2 hLA hα hap hX pl hpl k (by omega) (165 + k * 11) (990 + k * 66) (by omega) (by omega) (fun hx1 hap1 hX1 => ?_)
      have hL1 : LH (kca K) hx1 (un hx1 la) α σ := ⟨la, rfl, hap1, hLA, hα⟩
      refine J_iload_12 X dL_isSo_608 ?_
      refine J_if_eq (tgt := 931) X dL_isSo_610 (by decide) (fun c => absurd c (by decide)) (fun _ => ?_)
      refine J_iload_9 X dL_isSo_613 ?_
      refine J_iconst (v := 4) X dL_isSo_615 rfl ?_
      refine J_irem X dL_isSo_616 (by decide) ?_
      refine J_if_ne (tgt := 931) X dL_isSo_617 (by decide) (fun _ => ?_) (fun _ => ?_)
      · skip
        refine J.subL (lv' := [some (.ref r), some (.ref (α 0)), some (.ref (α 1)), some (.ref (α 2)), some (.ref (α 3)), some (.ref (α 4)), some (.ref (α 5)), some (.ref (α 6)), some (.ref (α 7)), some (.int one), some (.int two), some (.int pl), some (.int (1 : Int32)), none, none, some (.int (nI k)), none, none, none, none, none, none, none, none, none, none, none, none, none, none, none]) (And.intro rfl (And.intro rfl (And.intro rfl (And.intro rfl (And.intro rfl (And.intro rfl (And.intro rfl (And.intro rfl (And.intro rfl (And.intro rfl (And.intro rfl (And.intro rfl (And.intro rfl (And.intro rfl trivial)))))))))))))) ?_
        refine J.widen (k := (165 + (k + 1) * 11)) (j := (990 + (k + 1) * 66)) (by omega) (by omega) ?_
        exact KR hx1 hap1 hX1
      · skip
        refine so_e X hIX hIO hQ h1 h2 hLA hα hap1 hX1 hA pl hpl k (by omega) (165 + k * 11 + 8) (990 + k * 66 + 48) (by omega) (by omega) (fun hx3 hap3 hX3 => ?_)
        refine J.widen (k := (165 + (k + 1) * 11)) (j := (990 + (k + 1) * 66)) (by omega) (by omega) ?_
        exact KR hx3 hap3 hX3
  exact L (ix (ξ 8 0)) 0 hx (Nat.zero_add _) hap hX
set_option maxRecDepth 100000 in
set_option maxHeartbeats 4000000 in
theorem so_n {K : KT} {h0 hx la : fH} {post : Option Value → fH → Prop} {px : String → fH → Prop} {r : Nat} {α : Nat → Nat} {σ ξ : St} {one two : Int32} (X : JX K yL_isSo.name yL_isSo.cls cL_isSo 31 (some .boolean) [] (Cond.code yL_isSo cL_isSo 31 (some .boolean)) rmSo h0 post px) (hIX : InvX ξ) (hIO : InvO ξ) (hQ : LQ ξ σ) (h1 : vp_in one 60000) (h2 : vp_in two 60000) (hLA : LA (kca K) la α σ) (hα : ∀ i j, i < 8 → j < 8 → α i = α j → i = j) (hap : apart hx la) (hX : RA (kca K) hx r ξ) (pl : Int32) (hpl : vp_in pl 64) (kE : ∀ hx' : fH, apart hx' la → RA (kca K) hx' r ξ → J K (un hx' la) [some (.ref r), some (.ref (α 0)), some (.ref (α 1)), some (.ref (α 2)), some (.ref (α 3)), some (.ref (α 4)), some (.ref (α 5)), some (.ref (α 6)), some (.ref (α 7)), some (.int one), some (.int two), some (.int pl), some (.int (1 : Int32)), none, none, none, none, none, none, none, none, none, none, none, none, none, none, none, none, none, none] [] 1234 377 2262) : J K (un hx la) [some (.ref r), some (.ref (α 0)), some (.ref (α 1)), some (.ref (α 2)), some (.ref (α 3)), some (.ref (α 4)), some (.ref (α 5)), some (.ref (α 6)), some (.ref (α 7)), some (.int one), some (.int two), some (.int pl), some (.int (1 : Int32)), none, none, some (.int (0 : Int32)), none, none, none, none, none, none, none, none, none, none, none, none, none, none, none] [] 940 187 1122 := by
  have hI := IL_of hQ hIX
  have hL : LH (kca K) hx (un hx la) α σ := ⟨la, rfl, hap, hLA, hα⟩
  have hv2 := hQ.lim.2.2
  have hB : σ 7 (ix (4 : Int32)) = nI (ix (ξ 26 0)) := hQ.g.2.2.2.2.1.trans (vp_nI' (hIX.1 26 0 : vp_in (ξ 26 0) 9) (by decide))
  have L : ∀ (n k : Nat) (hx : fH), k + n = ix (ξ 26 0) → apart hx la → RA (kca K) hx r ξ → J K (un hx la) [some (.ref r), some (.ref (α 0)), some (.ref (α 1)), some (.ref (α 2)), some (.ref (α 3)), some (.ref (α 4)), some (.ref (α 5)), some (.ref (α 6)), some (.ref (α 7)), some (.int one), some (.int two), some (.int pl), some (.int (1 : Int32)), none, none, some (.int (nI k)), none, none, none, none, none, none, none, none, none, none, none, none, none, none, none] [] 940 (187 + k * 95) (1122 + k * 570) := by
    intro n
    induction n with
    | zero =>
      intro k hx hk hap hX
      have hL : LH (kca K) hx (un hx la) α σ := ⟨la, rfl, hap, hLA, hα⟩
      refine J_iload_15 X dL_isSo_940 ?_
      refine J_aload_8 X dL_isSo_942 ?_
      refine J_iconst (v := 4) X dL_isSo_944 rfl ?_
      refine JL_ld X hL.la 7 (by decide) (vp_up (vp_in_nI (n := 4) (N := 5) (by decide) (by decide)) (by decide)) dL_isSo_945 ?_
      refine J_icmp_ge (tgt := 1234) X dL_isSo_946 (by decide) (fun _ => ?_) (fun c => absurd (lp_exit hB (by omega) hk) c)
      refine J.subL (lv' := [some (.ref r), some (.ref (α 0)), some (.ref (α 1)), some (.ref (α 2)), some (.ref (α 3)), some (.ref (α 4)), some (.ref (α 5)), some (.ref (α 6)), some (.ref (α 7)), some (.int one), some (.int two), some (.int pl), some (.int (1 : Int32)), none, none, none, none, none, none, none, none, none, none, none, none, none, none, none, none, none, none]) (And.intro rfl (And.intro rfl (And.intro rfl (And.intro rfl (And.intro rfl (And.intro rfl (And.intro rfl (And.intro rfl (And.intro rfl (And.intro rfl (And.intro rfl (And.intro rfl (And.intro rfl trivial))))))))))))) ?_
      refine J.widen (k := 377) (j := 2262) (by omega) (by omega) ?_
      exact kE hx hap hX
    | succ n ih =>
      intro k hx hk hap hX
      have hL : LH (kca K) hx (un hx la) α σ := ⟨la, rfl, hap, hLA, hα⟩
      refine J_iload_15 X dL_isSo_940 ?_
      refine J_aload_8 X dL_isSo_942 ?_
      refine J_iconst (v := 4) X dL_isSo_944 rfl ?_
      refine JL_ld X hL.la 7 (by decide) (vp_up (vp_in_nI (n := 4) (N := 5) (by decide) (by decide)) (by decide)) dL_isSo_945 ?_
      refine J_icmp_ge (tgt := 1234) X dL_isSo_946 (by decide) (fun c => absurd c (lp_stay hB (by omega) hk)) (fun _ => ?_)
      refine J_iload_12 X dL_isSo_949 ?_
      refine J_if_eq (tgt := 1234) X dL_isSo_951 (by decide) (fun c => absurd c (by decide)) (fun _ => ?_)
      refine so_m X hIX hIO hQ h1 h2 hLA hα hap hX pl hpl k (by omega) (187 + k * 95) (1122 + k * 570) (by omega) (by omega) (fun hx1 hap1 hX1 => ?_)
      refine J_iinc_15 (v := (nI (k + 1))) X dL_isSo_1228 (nI_1 _) rfl (by decide) ?_
      refine J_goto (tgt := 940) X dL_isSo_1231 (by decide) ?_
      refine J.widen (k := (187 + (k + 1) * 95)) (j := (1122 + (k + 1) * 570)) (by omega) (by omega) ?_
      exact ih (k + 1) hx1 (by omega) hap1 hX1
  exact L (ix (ξ 26 0)) 0 hx (Nat.zero_add _) hap hX
theorem cw_L_isSo : Cond.static yL_isSo ∈ GW ∧ Cond.initialized yL_isSo.cls ∈ GW ∧ Cond.code yL_isSo cL_isSo 31 (some .boolean) ∈ GW ∧ (yL_isSo.cls ≠ "java/lang/invoke/MethodHandle" ∧ yL_isSo.cls ≠ "java/lang/invoke/VarHandle") ∧ (parseMethodDescriptor yL_isSo.desc).map (fun d => d.parameters.length) = some 11 := ⟨gw_4_76, gw_1_0, gw_4_77, ⟨by decide, by decide⟩, by decide +kernel⟩
/-- the law's question at the end of each call is answered yes, and nothing has changed -/
theorem c_isSo {l : Launch} {D : va_G} {ca : Nat → Nat} {h hx : fH} {r : Nat} {α : Nat → Nat} {σ ξ : St} (hL : LH ca hx h α σ) (hX : RA ca hx r ξ) (hIX : InvX ξ) (hIO : InvO ξ) (hQ : LQ ξ σ) (hA : AG σ) (one two : Int32) (h1 : vp_in one 60000) (h2 : vp_in two 60000) : FM l D ca yL_isSo (.code yL_isSo cL_isSo 31 (some .boolean)) rmSo [.ref r, .ref (α 0), .ref (α 1), .ref (α 2), .ref (α 3), .ref (α 4), .ref (α 5), .ref (α 6), .ref (α 7), .int one, .int two] h (fun v h2 => v = some (.int 1) ∧ ∃ hx2, LH ca hx2 h2 α σ ∧ RA ca hx2 r ξ) noX := by
  obtain ⟨la, rfl, hap, hLA, hα⟩ := hL
  refine FM.of [some (.ref r), some (.ref (α 0)), some (.ref (α 1)), some (.ref (α 2)), some (.ref (α 3)), some (.ref (α 4)), some (.ref (α 5)), some (.ref (α 6)), some (.ref (α 7)), some (.int one), some (.int two), none, none, none, none, none, none, none, none, none, none, none, none, none, none, none, none, none, none, none, none] (by decide) (Nat.le_of_ble_eq_true rfl) rfl ?_
  rintro K X rfl rfl rfl
  have hpl : vp_in (one - one / (64 : Int32) * (64 : Int32)) 64 := vr_rem (c := 64) h1 (by decide) (by decide) (by decide)
  refine so_a X hIX hIO hQ h1 h2 hLA hα hap hX (fun hx1 hap1 hX1 => ?_)
  generalize one - one / (64 : Int32) * (64 : Int32) = pl at *
  refine so_b X hIX hIO hQ h1 h2 hLA hα hap1 hX1 pl hpl (fun hx2 hap2 hX2 => ?_)
  refine so_c X hIX hIO hQ h1 h2 hLA hα hap2 hX2 pl hpl (fun hx3 hap3 hX3 => ?_)
  refine so_v X hIX hIO hQ h1 h2 hLA hα hap3 hX3 hA pl hpl (fun hx4 hap4 hX4 => ?_)
  refine so_n X hIX hIO hQ h1 h2 hLA hα hap4 hX4 pl hpl (fun hx5 hap5 hX5 => ?_)
  exact so_w X hIX hIO hQ h1 h2 hLA hα hap5 hX5 pl hpl (fun hx6 hap6 hX6 => ⟨rfl, hx6, ⟨la, rfl, hap6, hLA, hα⟩, hX6⟩)
end
