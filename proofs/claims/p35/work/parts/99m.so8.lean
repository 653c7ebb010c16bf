noncomputable section
section SOS
variable {ξ τ : St} {pl : Int32} {k s j : Nat}
def soN (ξ : St) (k s j : Nat) : Int32 := @ite _ (inS ξ k s j) (Classical.propDecidable _) 1 0
theorem soN_b (ξ : St) (k s j : Nat) : soN ξ k s j = 0 ∨ soN ξ k s j = 1 := by
  unfold soN
  (repeat' split) <;> first | exact Or.inl rfl | exact Or.inr rfl
theorem soN_y {f : Nat → Nat} : sN f (inS ξ k s) j + (if soN ξ k s j = 0 then 0 else f j) = sN f (inS ξ k s) (j + 1) ∧ sN f (fun i => ¬ inS ξ k s i) j + (if soN ξ k s j = 0 then f j else 0) = sN f (fun i => ¬ inS ξ k s i) (j + 1) := by
  unfold soN
  rw [sN, sN]
  by_cases c : inS ξ k s j
  · repeat rw [if_pos c]
    repeat rw [if_neg (show ¬ (1 : Int32) = 0 by decide)]
    rw [if_neg (fun z => z c)]
    exact ⟨rfl, rfl⟩
  · repeat rw [if_neg c]
    repeat rw [if_pos (show (0 : Int32) = 0 from rfl)]
    rw [if_pos c]
    exact ⟨rfl, rfl⟩
theorem so_odd {x : Nat} (h : x < 100000) : nI x - nI x / (2 : Int32) * (2 : Int32) = (1 : Int32) ↔ x % 2 = 1 := by
  rw [show (2 : Int32) = nI 2 from rfl, show (1 : Int32) = nI 1 from rfl, pk_rem (by omega) (by decide) (by decide), nI_eq (by omega) (by decide)]
theorem so_quo (h : s < 1024) (c : Nat) : s / 2 ^ c < 100000 := Nat.lt_of_le_of_lt (Nat.div_le_self _ _) (by omega)
theorem so_n0 (h : soI ξ k j = 0) : 0 = soN ξ k s j := by
  unfold soN
  rw [if_neg (fun z => soI_0 h z.1)]
theorem so_n1 (hQ : LQ ξ τ) (hs : s < 1024) (hj : j < ix (ξ 13 0)) (h : ¬ soI ξ k j = 0) (hb : nI (s / 2 ^ oN (ξ 14) (nI k) j) - nI (s / 2 ^ oN (ξ 14) (nI k) j) / (2 : Int32) * (2 : Int32) = (1 : Int32)) : 1 = soN ξ k s j := by
  have h10 := oN_10 (k := k) hQ (Nat.le_of_lt hj)
  unfold soN
  rw [if_pos ⟨soI_1 h, (nI_bit (by omega) (by omega)).mpr ((so_odd (so_quo hs _)).mp hb)⟩]
theorem so_n2 (hQ : LQ ξ τ) (hs : s < 1024) (hj : j < ix (ξ 13 0)) (hb : ¬ nI (s / 2 ^ oN (ξ 14) (nI k) j) - nI (s / 2 ^ oN (ξ 14) (nI k) j) / (2 : Int32) * (2 : Int32) = (1 : Int32)) : 0 = soN ξ k s j := by
  have h10 := oN_10 (k := k) hQ (Nat.le_of_lt hj)
  unfold soN
  rw [if_neg (fun z => hb ((so_odd (so_quo hs _)).mpr ((nI_bit (by omega) (by omega)).mp z.2)))]
theorem so_dv (ξ : St) (k j : Nat) : ¬ (if soI ξ k j = (0 : Int32) then (1 : Int32) else (2 : Int32)) = 0 := by
  split <;> decide
theorem so_left (hs : s < 1024) : nI (s / 2 ^ oN (ξ 14) (nI k) j) / (if soI ξ k j = (0 : Int32) then (1 : Int32) else (2 : Int32)) = nI (s / 2 ^ oN (ξ 14) (nI k) (j + 1)) := by
  have q := so_quo hs (oN (ξ 14) (nI k) j)
  by_cases c : soI ξ k j = 0
  · rw [if_pos c, oN_not (soI_0 c), show (1 : Int32) = nI 1 from rfl, pk_div (by omega) (by decide) (by decide), Nat.div_one]
  · rw [if_neg c, oN_own (soI_1 c), show (2 : Int32) = nI 2 from rfl, pk_div (by omega) (by decide) (by decide), Nat.div_div_eq_div_mul, Nat.pow_succ]
theorem so_gl (hQ : LQ ξ τ) (hI : InvX ξ) (hA : AG τ) (hpl : vp_in pl 64) (hj : j < ix (ξ 13 0)) : nI (sA ξ pl k s j) + (if soN ξ k s j = (0 : Int32) then L_gives τ (nI j) pl else (0 : Int32)) = nI (sA ξ pl k s (j + 1)) := by
  have hl := hQ.lim.2.1
  have e := (soN_y (ξ := ξ) (k := k) (s := s) (j := j) (f := gN ξ pl)).2
  rw [LM_given hQ hI (vp_in_nI hj (by omega)) hpl, (gN_M hQ hI hA hpl (show j < 10 by omega)).1]
  unfold sA
  rw [← e]
  split
  · rw [nI_add]
  · rw [Nat.add_zero, Int32.add_zero]
theorem so_co (hQ : LQ ξ τ) (hI : InvX ξ) (hj : j < ix (ξ 13 0)) : nI (sD ξ k s j) + (if soN ξ k s j = (0 : Int32) then (0 : Int32) else (if τ 3 (ix (((6 : Int32) * (nI j)) + (5 : Int32))) ≤ τ 7 (ix (0 : Int32)) then ((20 : Int32) - ((2 : Int32) * (τ 3 (ix (((6 : Int32) * (nI j)) + (2 : Int32))) / (4 : Int32) - τ 3 (ix (((6 : Int32) * (nI j)) + (2 : Int32))) / (4 : Int32) / (16 : Int32) * (16 : Int32)))) else (100000 : Int32))) = nI (sD ξ k s (j + 1)) := by
  have hl := hQ.lim.2.1
  have hp : vp_in (nI j) 10 := vp_in_nI (by omega) (by decide)
  have ij : ix (nI j) = j := ixn (by omega)
  have e := (soN_y (ξ := ξ) (k := k) (s := s) (j := j) (f := dN ξ)).1
  obtain ⟨x, hx, ex⟩ := vn (hI.1 18 j : vp_in (ξ 18 j) 11) (by decide)
  have ed : (if τ 3 (ix (((6 : Int32) * (nI j)) + (5 : Int32))) ≤ τ 7 (ix (0 : Int32)) then ((20 : Int32) - ((2 : Int32) * (τ 3 (ix (((6 : Int32) * (nI j)) + (2 : Int32))) / (4 : Int32) - τ 3 (ix (((6 : Int32) * (nI j)) + (2 : Int32))) / (4 : Int32) / (16 : Int32) * (16 : Int32)))) else (100000 : Int32)) = nI (dN ξ j) := by
    rw [dl_5 hQ hp, dl_shd hQ hI hp, show τ 7 (ix (0 : Int32)) = ξ 0 0 from hQ.g.1, ij]
    unfold dN M_isBound M_isBound_j10
    rw [ij, ex, ixn (by omega)]
    by_cases c : ξ 24 j ≤ ξ 0 0
    · rw [if_pos c, if_pos c, if_pos rfl, show (20 : Int32) = nI 20 from rfl, show (2 : Int32) = nI 2 from rfl, pk_mul, pk_sub (by omega)]
      congr 1
      omega
    · rw [if_neg c, if_neg c, if_neg (by decide)]
      rfl
  rw [ed]
  unfold sD
  rw [← e]
  split
  · rw [Nat.add_zero, Int32.add_zero]
  · rw [nI_add]
theorem so_m1 (n : Nat) : nI (n + 1) - (1 : Int32) = nI n := by
  rw [show (1 : Int32) = nI 1 from rfl, pk_sub (by omega), Nat.add_sub_cancel]
theorem plan_eq (hQ : LQ ξ τ) (hI : InvX ξ) (hA : AG τ) (hk : vp_in (nI k) (ix (ξ 8 0))) (hpl : vp_in pl 64) {ci : Nat} (hc : ci < 60) {b l p : Int32} (h : IL2 (fun s => sA ξ pl k s (ix (ξ 13 0))) (fun s => sD ξ k s (ix (ξ 13 0))) (MS ξ k) ci 0 b l p) : M_plan ξ (nI k) pl (nI ci) = b := by
  obtain ⟨b0, h1, h2, h3, h4⟩ := plan_best hQ hI hA hk hpl hc
  rcases h with ⟨_, _, _, w⟩ | ⟨b', _, w2, w3, _, _, w6, w7⟩
  · have := w 0 (Nat.zero_le _) MS_pos
    dsimp only at this
    rw [sD_0 hQ] at this
    omega
  · rw [h2, w3, (h4 b' w2 w6).anti (w7 b0 (Nat.zero_le _) h1 h3)]
end SOS
set_option maxRecDepth 100000 in
set_option maxHeartbeats 4000000 in
theorem so_e {K : KT} {h0 hx la : fH} {post : Option Value → fH → Prop} {px : String → fH → Prop} {r : Nat} {α : Nat → Nat} {σ ξ : St} {one two : Int32} (X : JX K yL_isSo.name yL_isSo.cls cL_isSo 31 (some .boolean) [] (Cond.code yL_isSo cL_isSo 31 (some .boolean)) rmSo h0 post px) (hIX : InvX ξ) (hIO : InvO ξ) (hQ : LQ ξ σ) (h1 : vp_in one 60000) (h2 : vp_in two 60000) (hLA : LA (kca K) la α σ) (hα : ∀ i j, i < 8 → j < 8 → α i = α j → i = j) (hap : apart hx la) (hX : RA (kca K) hx r ξ) (hA : AG σ) (pl : Int32) (hpl : vp_in pl 64) (k : Nat) (hk : k < ix (ξ 8 0)) (c : Nat) (s : Nat) (hc : c ≤ 300) (hs0 : s ≤ 3000) (kE : ∀ hx' : fH, apart hx' la → RA (kca K) hx' r ξ → J K (un hx' la) [some (.ref r), some (.ref (α 0)), some (.ref (α 1)), some (.ref (α 2)), some (.ref (α 3)), some (.ref (α 4)), some (.ref (α 5)), some (.ref (α 6)), some (.ref (α 7)), some (.int one), some (.int two), some (.int pl), some (.int (1 : Int32)), none, none, some (.int (nI k)), none, none, none, none, none, none, none, none, none, none, none, none, none, none, none] [] 931 (c + 3) (s + 18)) : J K (un hx la) [some (.ref r), some (.ref (α 0)), some (.ref (α 1)), some (.ref (α 2)), some (.ref (α 3)), some (.ref (α 4)), some (.ref (α 5)), some (.ref (α 6)), some (.ref (α 7)), some (.int one), some (.int two), some (.int pl), some (.int (1 : Int32)), none, none, some (.int (nI k)), some (.int (nI (oN (ξ 14) (nI k) (ix (ξ 13 0))))), none, none, none, none, none, none, none, none, none, none, none, none, none, none] [] 620 (c) (s) := by
  have hI := IL_of hQ hIX
  have hL : LH (kca K) hx (un hx la) α σ := ⟨la, rfl, hap, hLA, hα⟩
  have hv2 := hQ.lim.1
  have hk2 : k < 2 := by omega
  have hkv : vp_in (nI k) (ix (ξ 8 0)) := vp_in_nI hk (by omega)
  have hB : σ 7 (ix (3 : Int32)) = nI (ix (ξ 13 0)) := hQ.g.2.2.2.1.trans (vp_nI' (hIX.1 13 0 : vp_in (ξ 13 0) 41) (by decide))
  have hl10 := hQ.lim.2.1
  obtain ⟨ci, hci, eci⟩ := vn (vr_rem (c := 60) h2 (by decide) (by decide) (by decide)) (by decide)
  have hM := MS_le (k := k) hQ
  refine J_iload_10 X dL_isSo_620 ?_
  refine J_bipush (v := (60 : Int32)) X dL_isSo_622 (by decide) ?_
  refine J_irem X dL_isSo_624 (by decide) ?_
  refine J.eqi eci ?_
  refine J_istore_18 X dL_isSo_625 rfl (by decide) ?_
  refine J_iconst (v := -1) X dL_isSo_627 rfl ?_
  refine J_istore_19 X dL_isSo_628 rfl (by decide) ?_
  refine J_iconst (v := 0) X dL_isSo_630 rfl ?_
  refine J_istore_20 X dL_isSo_631 rfl (by decide) ?_
  refine J_iconst (v := 0) X dL_isSo_633 rfl ?_
  refine J_istore_21 X dL_isSo_634 rfl (by decide) ?_
  refine J_iconst (v := 1) X dL_isSo_636 rfl ?_
  refine J_iload_16 X dL_isSo_637 ?_
  refine J_ishl X dL_isSo_639 ?_
  refine J_iconst (v := 1) X dL_isSo_640 rfl ?_
  refine J_isub X dL_isSo_641 ?_
  refine J_istore_22 X dL_isSo_642 rfl (by decide) ?_
  rw [shl_n (oN_10 (k := k) hQ (Nat.le_refl _))]
  have LS : ∀ (n : Nat) (b l p : Int32), n ≤ MS ξ k → IL2 (fun s => sA ξ pl k s (ix (ξ 13 0))) (fun s => sD ξ k s (ix (ξ 13 0))) (MS ξ k) ci n b l p → J K (un hx la) [some (.ref r), some (.ref (α 0)), some (.ref (α 1)), some (.ref (α 2)), some (.ref (α 3)), some (.ref (α 4)), some (.ref (α 5)), some (.ref (α 6)), some (.ref (α 7)), some (.int one), some (.int two), some (.int pl), some (.int (1 : Int32)), none, none, some (.int (nI k)), some (.int (nI (oN (ξ 14) (nI k) (ix (ξ 13 0))))), none, some (.int (nI ci)), some (.int b), some (.int l), some (.int p), some (.int ((nI n) - (1 : Int32))), none, none, none, none, none, none, none, none] [] 644 (c) (s) := by
    intro n
    induction n with
    | zero =>
      intro b l p _ hb
      refine J_iload_22 X dL_isSo_644 ?_
      refine J_if_lt (tgt := 909) X dL_isSo_646 (by decide) (fun _ => ?_) (fun c => absurd (show nI 0 - (1 : Int32) < 0 by decide) c)
      refine J_aload_0 X dL_isSo_909 ?_
      refine J_iload_15 X dL_isSo_910 ?_
      refine J_iload_11 X dL_isSo_912 ?_
      refine J_iload_18 X dL_isSo_914 ?_
      obtain ⟨vs, hroot⟩ := RA.root hX
      refine J_callV X ((c_Q_plan hX hIX hIO (nI k) pl (nI ci) (plan_s hIX hkv hpl hci)).frame hap) (And.intro gw_4_48 cw_X10_plan) (un_l hroot) rfl rfl (hroom2 (show (c + 3) ≤ 1000 by omega) (show (s + 18) ≤ 6000 by omega)) (Nat.le_of_ble_eq_true rfl) dL_isSo_916 rfl (fun v h11 e => ?_) (fun E h11 e => by obtain ⟨_, q, _⟩ := e; exact q.elim)
      obtain ⟨hx11, ⟨e0, hX11⟩, hap11, eh⟩ := e
      subst e0
      subst eh
      have hL11 : LH (kca K) hx11 (un hx11 la) α σ := ⟨la, rfl, hap11, hLA, hα⟩
      show J K (un hx11 la) [some (.ref r), some (.ref (α 0)), some (.ref (α 1)), some (.ref (α 2)), some (.ref (α 3)), some (.ref (α 4)), some (.ref (α 5)), some (.ref (α 6)), some (.ref (α 7)), some (.int one), some (.int two), some (.int pl), some (.int (1 : Int32)), none, none, some (.int (nI k)), some (.int (nI (oN (ξ 14) (nI k) (ix (ξ 13 0))))), none, some (.int (nI ci)), some (.int b), some (.int l), some (.int p), some (.int ((nI 0) - (1 : Int32))), none, none, none, none, none, none, none, none] [.int (M_plan ξ (nI k) pl (nI ci))] 919 (c + 3) (s + 18)
      refine J_iload_19 X dL_isSo_919 ?_
      refine J_icmp_ne (tgt := 928) X dL_isSo_921 (by decide) (fun c => absurd (plan_eq hQ hIX hA hkv hpl hci hb) c) (fun _ => ?_)
      refine J_iconst (v := 1) X dL_isSo_924 rfl ?_
      refine J_goto (tgt := 929) X dL_isSo_925 (by decide) ?_
      refine J_istore_12 X dL_isSo_929 rfl (by decide) ?_
      refine J.subL (lv' := [some (.ref r), some (.ref (α 0)), some (.ref (α 1)), some (.ref (α 2)), some (.ref (α 3)), some (.ref (α 4)), some (.ref (α 5)), some (.ref (α 6)), some (.ref (α 7)), some (.int one), some (.int two), some (.int pl), some (.int (1 : Int32)), none, none, some (.int (nI k)), none, none, none, none, none, none, none, none, none, none, none, none, none, none, none]) (And.intro rfl (And.intro rfl (And.intro rfl (And.intro rfl (And.intro rfl (And.intro rfl (And.intro rfl (And.intro rfl (And.intro rfl (And.intro rfl (And.intro rfl (And.intro rfl (And.intro rfl (And.intro rfl trivial)))))))))))))) ?_
      exact kE hx11 hap11 hX11
    | succ n ihS =>
      intro b l p hn hb
      have hs : n < 1024 := by omega
      rw [so_m1]
      refine J_iload_22 X dL_isSo_644 ?_
      refine J_if_lt (tgt := 909) X dL_isSo_646 (by decide) (fun c => absurd c (nIltb (by omega))) (fun _ => ?_)
      refine J_iload_22 X dL_isSo_649 ?_
      refine J_istore_23 X dL_isSo_651 rfl (by decide) ?_
      refine J_iconst (v := 0) X dL_isSo_653 rfl ?_
      refine J_istore_24 X dL_isSo_654 rfl (by decide) ?_
      refine J_iconst (v := 0) X dL_isSo_656 rfl ?_
      refine J_istore_25 X dL_isSo_657 rfl (by decide) ?_
      refine J_iconst (v := 0) X dL_isSo_659 rfl ?_
      refine J_istore_26 X dL_isSo_660 rfl (by decide) ?_
      suffices KX : J K (un hx la) [some (.ref r), some (.ref (α 0)), some (.ref (α 1)), some (.ref (α 2)), some (.ref (α 3)), some (.ref (α 4)), some (.ref (α 5)), some (.ref (α 6)), some (.ref (α 7)), some (.int one), some (.int two), some (.int pl), some (.int (1 : Int32)), none, none, some (.int (nI k)), some (.int (nI (oN (ξ 14) (nI k) (ix (ξ 13 0))))), none, some (.int (nI ci)), some (.int b), some (.int l), some (.int p), some (.int (nI n)), none, some (.int (nI (sA ξ pl k n (ix (ξ 13 0))))), some (.int (nI (sD ξ k n (ix (ξ 13 0))))), none, none, none, none, none] [] 821 (c) (s) by
        have L : ∀ (m j : Nat), j + m = ix (ξ 13 0) → J K (un hx la) [some (.ref r), some (.ref (α 0)), some (.ref (α 1)), some (.ref (α 2)), some (.ref (α 3)), some (.ref (α 4)), some (.ref (α 5)), some (.ref (α 6)), some (.ref (α 7)), some (.int one), some (.int two), some (.int pl), some (.int (1 : Int32)), none, none, some (.int (nI k)), some (.int (nI (oN (ξ 14) (nI k) (ix (ξ 13 0))))), none, some (.int (nI ci)), some (.int b), some (.int l), some (.int p), some (.int (nI n)), some (.int (nI (n / 2 ^ oN (ξ 14) (nI k) j))), some (.int (nI (sA ξ pl k n j))), some (.int (nI (sD ξ k n j))), some (.int (nI j)), none, none, none, none] [] 662 (c) (s) := by
          intro m
          induction m with
          | zero =>
            intro j hj
            obtain rfl : j = ix (ξ 13 0) := by omega
            refine J_iload_26 X dL_isSo_662 ?_
            refine J_aload_8 X dL_isSo_664 ?_
            refine J_iconst (v := 3) X dL_isSo_666 rfl ?_
            refine JL_ld X hL.la 7 (by decide) (vp_up (vp_in_nI (n := 3) (N := 4) (by decide) (by decide)) (by decide)) dL_isSo_667 ?_
            refine J_icmp_ge (tgt := 821) X dL_isSo_668 (by decide) (fun _ => ?_) (fun c => absurd (lp_exit hB (by omega) hj) c)
            refine J.subL (lv' := [some (.ref r), some (.ref (α 0)), some (.ref (α 1)), some (.ref (α 2)), some (.ref (α 3)), some (.ref (α 4)), some (.ref (α 5)), some (.ref (α 6)), some (.ref (α 7)), some (.int one), some (.int two), some (.int pl), some (.int (1 : Int32)), none, none, some (.int (nI k)), some (.int (nI (oN (ξ 14) (nI k) (ix (ξ 13 0))))), none, some (.int (nI ci)), some (.int b), some (.int l), some (.int p), some (.int (nI n)), none, some (.int (nI (sA ξ pl k n (ix (ξ 13 0))))), some (.int (nI (sD ξ k n (ix (ξ 13 0))))), none, none, none, none, none]) (And.intro rfl (And.intro rfl (And.intro rfl (And.intro rfl (And.intro rfl (And.intro rfl (And.intro rfl (And.intro rfl (And.intro rfl (And.intro rfl (And.intro rfl (And.intro rfl (And.intro rfl (And.intro rfl (And.intro rfl (And.intro rfl (And.intro rfl (And.intro rfl (And.intro rfl (And.intro rfl (And.intro rfl (And.intro rfl trivial)))))))))))))))))))))) ?_
            exact KX
          | succ m ih =>
            intro j hj
            have hj10 : j < 10 := by omega
            have hjn : j < ix (ξ 13 0) := by omega
            have hp : vp_in (nI j) (ix (ξ 13 0)) := vp_in_nI (by omega) (by omega)
            refine J_iload_26 X dL_isSo_662 ?_
            refine J_aload_8 X dL_isSo_664 ?_
            refine J_iconst (v := 3) X dL_isSo_666 rfl ?_
            refine JL_ld X hL.la 7 (by decide) (vp_up (vp_in_nI (n := 3) (N := 4) (by decide) (by decide)) (by decide)) dL_isSo_667 ?_
            refine J_icmp_ge (tgt := 821) X dL_isSo_668 (by decide) (fun c => absurd c (lp_stay hB (by omega) hj)) (fun _ => ?_)
            refine J_aload_4 X dL_isSo_671 ?_
            refine J_bipush (v := (6 : Int32)) X dL_isSo_673 (by decide) ?_
            refine J_iload_26 X dL_isSo_675 ?_
            refine J_imul X dL_isSo_677 ?_
            refine JL_ld X hL.la 3 (by decide) (vp_up (vr_mul (vp_in_nI (n := 6) (N := 7) (by decide) (by decide)) (vp_in_nI (n := j) (N := 10) hj10 (by decide)) (by decide)) (by decide)) dL_isSo_678 ?_
            refine J_bipush (v := (64 : Int32)) X dL_isSo_679 (by decide) ?_
            refine J_idiv X dL_isSo_681 (by decide) ?_
            refine J_iconst (v := 2) X dL_isSo_682 rfl ?_
            refine J_irem X dL_isSo_683 (by decide) ?_
            refine J_iload_15 X dL_isSo_684 ?_
            suffices K686 : J K (un hx la) [some (.ref r), some (.ref (α 0)), some (.ref (α 1)), some (.ref (α 2)), some (.ref (α 3)), some (.ref (α 4)), some (.ref (α 5)), some (.ref (α 6)), some (.ref (α 7)), some (.int one), some (.int two), some (.int pl), some (.int (1 : Int32)), none, none, some (.int (nI k)), some (.int (nI (oN (ξ 14) (nI k) (ix (ξ 13 0))))), none, some (.int (nI ci)), some (.int b), some (.int l), some (.int p), some (.int (nI n)), some (.int (nI (n / 2 ^ oN (ξ 14) (nI k) j))), some (.int (nI (sA ξ pl k n j))), some (.int (nI (sD ξ k n j))), some (.int (nI j)), none, none, none, none] [.int (soI ξ k j)] 694 (c) (s) by
              refine J_icmp_ne (tgt := 693) X dL_isSo_686 (by decide) (fun c686 => ?_) (fun c686 => ?_)
              · skip
                refine J_iconst (v := 0) X dL_isSo_693 rfl ?_
                refine J.eqi (show (0 : Int32) = (soI ξ k j) from (by unfold soI; rw [← so_own hQ hIX hp (by omega), if_neg c686])) ?_
                exact K686
              · skip
                refine J_iconst (v := 1) X dL_isSo_689 rfl ?_
                refine J_goto (tgt := 694) X dL_isSo_690 (by decide) ?_
                refine J.eqi (show (1 : Int32) = (soI ξ k j) from (by unfold soI; rw [← so_own hQ hIX hp (by omega), if_pos c686])) ?_
                exact K686
            refine J_istore_27 X dL_isSo_694 rfl (by decide) ?_
            refine J_iload_27 X dL_isSo_696 ?_
            suffices K698 : J K (un hx la) [some (.ref r), some (.ref (α 0)), some (.ref (α 1)), some (.ref (α 2)), some (.ref (α 3)), some (.ref (α 4)), some (.ref (α 5)), some (.ref (α 6)), some (.ref (α 7)), some (.int one), some (.int two), some (.int pl), some (.int (1 : Int32)), none, none, some (.int (nI k)), some (.int (nI (oN (ξ 14) (nI k) (ix (ξ 13 0))))), none, some (.int (nI ci)), some (.int b), some (.int l), some (.int p), some (.int (nI n)), some (.int (nI (n / 2 ^ oN (ξ 14) (nI k) j))), some (.int (nI (sA ξ pl k n j))), some (.int (nI (sD ξ k n j))), some (.int (nI j)), some (.int (soI ξ k j)), none, none, none] [.int (soN ξ k n j)] 714 (c) (s) by
              refine J_if_eq (tgt := 713) X dL_isSo_698 (by decide) (fun c698 => ?_) (fun c698 => ?_)
              · skip
                refine J_iconst (v := 0) X dL_isSo_713 rfl ?_
                refine J.eqi (show (0 : Int32) = (soN ξ k n j) from (so_n0 c698)) ?_
                exact K698
              · skip
                refine J_iload_23 X dL_isSo_701 ?_
                refine J_iconst (v := 2) X dL_isSo_703 rfl ?_
                refine J_irem X dL_isSo_704 (by decide) ?_
                refine J_iconst (v := 1) X dL_isSo_705 rfl ?_
                refine J_icmp_ne (tgt := 713) X dL_isSo_706 (by decide) (fun c706 => ?_) (fun c706 => ?_)
                · skip
                  refine J_iconst (v := 0) X dL_isSo_713 rfl ?_
                  refine J.eqi (show (0 : Int32) = (soN ξ k n j) from (so_n2 hQ hs hjn c706)) ?_
                  exact K698
                · skip
                  refine J_iconst (v := 1) X dL_isSo_709 rfl ?_
                  refine J_goto (tgt := 714) X dL_isSo_710 (by decide) ?_
                  refine J.eqi (show (1 : Int32) = (soN ξ k n j) from (so_n1 hQ hs hjn c698 c706)) ?_
                  exact K698
            refine J_istore_28 X dL_isSo_714 rfl (by decide) ?_
            refine J_iload_23 X dL_isSo_716 ?_
            refine J_iload_27 X dL_isSo_718 ?_
            suffices K720 : J K (un hx la) [some (.ref r), some (.ref (α 0)), some (.ref (α 1)), some (.ref (α 2)), some (.ref (α 3)), some (.ref (α 4)), some (.ref (α 5)), some (.ref (α 6)), some (.ref (α 7)), some (.int one), some (.int two), some (.int pl), some (.int (1 : Int32)), none, none, some (.int (nI k)), some (.int (nI (oN (ξ 14) (nI k) (ix (ξ 13 0))))), none, some (.int (nI ci)), some (.int b), some (.int l), some (.int p), some (.int (nI n)), some (.int (nI (n / 2 ^ oN (ξ 14) (nI k) j))), some (.int (nI (sA ξ pl k n j))), some (.int (nI (sD ξ k n j))), some (.int (nI j)), some (.int (soI ξ k j)), some (.int (soN ξ k n j)), none, none] [.int (if (soI ξ k j) = (0 : Int32) then (1 : Int32) else (2 : Int32)), .int (nI (n / 2 ^ oN (ξ 14) (nI k) j))] 728 (c) (s) by
              refine J_if_eq (tgt := 727) X dL_isSo_720 (by decide) (fun c720 => ?_) (fun c720 => ?_)
              · skip
                refine J_iconst (v := 1) X dL_isSo_727 rfl ?_
                refine J.eqi (show (1 : Int32) = (if (soI ξ k j) = (0 : Int32) then (1 : Int32) else (2 : Int32)) from (by rw [if_pos c720])) ?_
                exact K720
              · skip
                refine J_iconst (v := 2) X dL_isSo_723 rfl ?_
                refine J_goto (tgt := 728) X dL_isSo_724 (by decide) ?_
                refine J.eqi (show (2 : Int32) = (if (soI ξ k j) = (0 : Int32) then (1 : Int32) else (2 : Int32)) from (by rw [if_neg c720])) ?_
                exact K720
            refine J_idiv X dL_isSo_728 (so_dv ξ k j) ?_
            refine J.eqi (so_left hs) ?_
            refine J_istore_23 X dL_isSo_729 rfl (by decide) ?_
            refine J_iload_24 X dL_isSo_731 ?_
            refine J_iload_28 X dL_isSo_733 ?_
            suffices K735 : J K (un hx la) [some (.ref r), some (.ref (α 0)), some (.ref (α 1)), some (.ref (α 2)), some (.ref (α 3)), some (.ref (α 4)), some (.ref (α 5)), some (.ref (α 6)), some (.ref (α 7)), some (.int one), some (.int two), some (.int pl), some (.int (1 : Int32)), none, none, some (.int (nI k)), some (.int (nI (oN (ξ 14) (nI k) (ix (ξ 13 0))))), none, some (.int (nI ci)), some (.int b), some (.int l), some (.int p), some (.int (nI n)), some (.int (nI (n / 2 ^ oN (ξ 14) (nI k) (j + 1)))), some (.int (nI (sA ξ pl k n j))), some (.int (nI (sD ξ k n j))), some (.int (nI j)), some (.int (soI ξ k j)), some (.int (soN ξ k n j)), none, none] [.int (if (soN ξ k n j) = (0 : Int32) then (L_gives σ (nI j) pl) else (0 : Int32)), .int (nI (sA ξ pl k n j))] 756 (c) (s) by
              refine J_if_eq (tgt := 742) X dL_isSo_735 (by decide) (fun c735 => ?_) (fun c735 => ?_)
              · skip
                refine J_aload_1 X dL_isSo_742 ?_
                refine J_aload_2 X dL_isSo_743 ?_
                refine J_aload_3 X dL_isSo_744 ?_
                refine J_aload_4 X dL_isSo_745 ?_
                refine J_aload_8 X dL_isSo_747 ?_
                refine J_iload_26 X dL_isSo_749 ?_
                refine J_iload_11 X dL_isSo_751 ?_
                refine J_callS X (c_L_gives hL.la hI (nI j) pl (vp_up (vp_in_nI (n := j) (N := 10) hj10 (by decide)) (by decide)) (vp_up hpl (by decide))) (And.intro gw_4_89 cw_L_gives) rfl (hroom2 (show (c) ≤ 1000 by omega) (show (s) ≤ 6000 by omega)) (Nat.le_of_ble_eq_true rfl) dL_isSo_753 rfl (J.pi ?_) JE.no
                refine J.eqi (show (L_gives σ (nI j) pl) = (if (soN ξ k n j) = (0 : Int32) then (L_gives σ (nI j) pl) else (0 : Int32)) from (by rw [if_pos c735])) ?_
                exact K735
              · skip
                refine J_iconst (v := 0) X dL_isSo_738 rfl ?_
                refine J_goto (tgt := 756) X dL_isSo_739 (by decide) ?_
                refine J.eqi (show (0 : Int32) = (if (soN ξ k n j) = (0 : Int32) then (L_gives σ (nI j) pl) else (0 : Int32)) from (by rw [if_neg c735])) ?_
                exact K735
            refine J_iadd X dL_isSo_756 ?_
            refine J.eqi (so_gl hQ hIX hA hpl hjn) ?_
            refine J_istore_24 X dL_isSo_757 rfl (by decide) ?_
            refine J_iload_25 X dL_isSo_759 ?_
            refine J_iload_28 X dL_isSo_761 ?_
            suffices K763 : J K (un hx la) [some (.ref r), some (.ref (α 0)), some (.ref (α 1)), some (.ref (α 2)), some (.ref (α 3)), some (.ref (α 4)), some (.ref (α 5)), some (.ref (α 6)), some (.ref (α 7)), some (.int one), some (.int two), some (.int pl), some (.int (1 : Int32)), none, none, some (.int (nI k)), some (.int (nI (oN (ξ 14) (nI k) (ix (ξ 13 0))))), none, some (.int (nI ci)), some (.int b), some (.int l), some (.int p), some (.int (nI n)), some (.int (nI (n / 2 ^ oN (ξ 14) (nI k) (j + 1)))), some (.int (nI (sA ξ pl k n (j + 1)))), some (.int (nI (sD ξ k n j))), some (.int (nI j)), some (.int (soI ξ k j)), some (.int (soN ξ k n j)), none, none] [.int (if (soN ξ k n j) = (0 : Int32) then (0 : Int32) else (if (σ 3 (ix (((6 : Int32) * (nI j)) + (5 : Int32)))) ≤ (σ 7 (ix (0 : Int32))) then ((20 : Int32) - ((2 : Int32) * (((σ 3 (ix (((6 : Int32) * (nI j)) + (2 : Int32)))) / (4 : Int32)) - ((σ 3 (ix (((6 : Int32) * (nI j)) + (2 : Int32)))) / (4 : Int32)) / (16 : Int32) * (16 : Int32)))) else (100000 : Int32))), .int (nI (sD ξ k n j))] 812 (c) (s) by
              refine J_if_ne (tgt := 770) X dL_isSo_763 (by decide) (fun c763 => ?_) (fun c763 => ?_)
              · skip
                refine J_aload_4 X dL_isSo_770 ?_
                refine J_bipush (v := (6 : Int32)) X dL_isSo_772 (by decide) ?_
                refine J_iload_26 X dL_isSo_774 ?_
                refine J_imul X dL_isSo_776 ?_
                refine J_iconst (v := 5) X dL_isSo_777 rfl ?_
                refine J_iadd X dL_isSo_778 ?_
                refine JL_ld X hL.la 3 (by decide) (vp_up (vr_add (vr_mul (vp_in_nI (n := 6) (N := 7) (by decide) (by decide)) (vp_in_nI (n := j) (N := 10) hj10 (by decide)) (by decide)) (vp_in_nI (n := 5) (N := 6) (by decide) (by decide)) (by decide)) (by decide)) dL_isSo_779 ?_
                refine J_aload_8 X dL_isSo_780 ?_
                refine J_iconst (v := 0) X dL_isSo_782 rfl ?_
                refine JL_ld X hL.la 7 (by decide) (vp_up (vp_in_nI (n := 0) (N := 1) (by decide) (by decide)) (by decide)) dL_isSo_783 ?_
                refine J_icmp_le (tgt := 792) X dL_isSo_784 (by decide) (fun c784 => ?_) (fun c784 => ?_)
                · skip
                  refine J_bipush (v := (20 : Int32)) X dL_isSo_792 (by decide) ?_
                  refine J_iconst (v := 2) X dL_isSo_794 rfl ?_
                  refine J_aload_4 X dL_isSo_795 ?_
                  refine J_bipush (v := (6 : Int32)) X dL_isSo_797 (by decide) ?_
                  refine J_iload_26 X dL_isSo_799 ?_
                  refine J_imul X dL_isSo_801 ?_
                  refine J_iconst (v := 2) X dL_isSo_802 rfl ?_
                  refine J_iadd X dL_isSo_803 ?_
                  refine JL_ld X hL.la 3 (by decide) (vp_up (vr_add (vr_mul (vp_in_nI (n := 6) (N := 7) (by decide) (by decide)) (vp_in_nI (n := j) (N := 10) hj10 (by decide)) (by decide)) (vp_in_nI (n := 2) (N := 3) (by decide) (by decide)) (by decide)) (by decide)) dL_isSo_804 ?_
                  refine J_iconst (v := 4) X dL_isSo_805 rfl ?_
                  refine J_idiv X dL_isSo_806 (by decide) ?_
                  refine J_bipush (v := (16 : Int32)) X dL_isSo_807 (by decide) ?_
                  refine J_irem X dL_isSo_809 (by decide) ?_
                  refine J_imul X dL_isSo_810 ?_
                  refine J_isub X dL_isSo_811 ?_
                  refine J.eqi (show ((20 : Int32) - ((2 : Int32) * (((σ 3 (ix (((6 : Int32) * (nI j)) + (2 : Int32)))) / (4 : Int32)) - ((σ 3 (ix (((6 : Int32) * (nI j)) + (2 : Int32)))) / (4 : Int32)) / (16 : Int32) * (16 : Int32)))) = (if (soN ξ k n j) = (0 : Int32) then (0 : Int32) else (if (σ 3 (ix (((6 : Int32) * (nI j)) + (5 : Int32)))) ≤ (σ 7 (ix (0 : Int32))) then ((20 : Int32) - ((2 : Int32) * (((σ 3 (ix (((6 : Int32) * (nI j)) + (2 : Int32)))) / (4 : Int32)) - ((σ 3 (ix (((6 : Int32) * (nI j)) + (2 : Int32)))) / (4 : Int32)) / (16 : Int32) * (16 : Int32)))) else (100000 : Int32))) from (by rw [if_neg c763, if_pos c784])) ?_
                  exact K763
                · skip
                  refine J_ldc (v := (100000 : Int32)) X dL_isSo_787 gw_4_133 ?_
                  refine J_goto (tgt := 812) X dL_isSo_789 (by decide) ?_
                  refine J.eqi (show (100000 : Int32) = (if (soN ξ k n j) = (0 : Int32) then (0 : Int32) else (if (σ 3 (ix (((6 : Int32) * (nI j)) + (5 : Int32)))) ≤ (σ 7 (ix (0 : Int32))) then ((20 : Int32) - ((2 : Int32) * (((σ 3 (ix (((6 : Int32) * (nI j)) + (2 : Int32)))) / (4 : Int32)) - ((σ 3 (ix (((6 : Int32) * (nI j)) + (2 : Int32)))) / (4 : Int32)) / (16 : Int32) * (16 : Int32)))) else (100000 : Int32))) from (by rw [if_neg c763, if_neg c784])) ?_
                  exact K763
              · skip
                refine J_iconst (v := 0) X dL_isSo_766 rfl ?_
                refine J_goto (tgt := 812) X dL_isSo_767 (by decide) ?_
                refine J.eqi (show (0 : Int32) = (if (soN ξ k n j) = (0 : Int32) then (0 : Int32) else (if (σ 3 (ix (((6 : Int32) * (nI j)) + (5 : Int32)))) ≤ (σ 7 (ix (0 : Int32))) then ((20 : Int32) - ((2 : Int32) * (((σ 3 (ix (((6 : Int32) * (nI j)) + (2 : Int32)))) / (4 : Int32)) - ((σ 3 (ix (((6 : Int32) * (nI j)) + (2 : Int32)))) / (4 : Int32)) / (16 : Int32) * (16 : Int32)))) else (100000 : Int32))) from (by rw [if_pos c763])) ?_
                exact K763
            refine J_iadd X dL_isSo_812 ?_
            refine J.eqi (so_co hQ hIX hjn) ?_
            refine J_istore_25 X dL_isSo_813 rfl (by decide) ?_
            refine J_iinc_26 (v := (nI (j + 1))) X dL_isSo_815 (nI_1 _) rfl (by decide) ?_
            refine J_goto (tgt := 662) X dL_isSo_818 (by decide) ?_
            refine J.subL (lv' := [some (.ref r), some (.ref (α 0)), some (.ref (α 1)), some (.ref (α 2)), some (.ref (α 3)), some (.ref (α 4)), some (.ref (α 5)), some (.ref (α 6)), some (.ref (α 7)), some (.int one), some (.int two), some (.int pl), some (.int (1 : Int32)), none, none, some (.int (nI k)), some (.int (nI (oN (ξ 14) (nI k) (ix (ξ 13 0))))), none, some (.int (nI ci)), some (.int b), some (.int l), some (.int p), some (.int (nI n)), some (.int (nI (n / 2 ^ oN (ξ 14) (nI k) (j + 1)))), some (.int (nI (sA ξ pl k n (j + 1)))), some (.int (nI (sD ξ k n (j + 1)))), some (.int (nI (j + 1))), none, none, none, none]) (And.intro rfl (And.intro rfl (And.intro rfl (And.intro rfl (And.intro rfl (And.intro rfl (And.intro rfl (And.intro rfl (And.intro rfl (And.intro rfl (And.intro rfl (And.intro rfl (And.intro rfl (And.intro rfl (And.intro rfl (And.intro rfl (And.intro rfl (And.intro rfl (And.intro rfl (And.intro rfl (And.intro rfl (And.intro rfl (And.intro rfl (And.intro rfl trivial)))))))))))))))))))))))) ?_
            exact ih (j + 1) (by omega)
        have z := L (ix (ξ 13 0)) 0 (Nat.zero_add _)
        rw [show n / 2 ^ oN (ξ 14) (nI k) 0 = n from Nat.div_one n] at z
        exact z
      refine J_iload_25 X dL_isSo_821 ?_
      refine J_iload_18 X dL_isSo_823 ?_
      suffices K825 : J K (un hx la) [some (.ref r), some (.ref (α 0)), some (.ref (α 1)), some (.ref (α 2)), some (.ref (α 3)), some (.ref (α 4)), some (.ref (α 5)), some (.ref (α 6)), some (.ref (α 7)), some (.int one), some (.int two), some (.int pl), some (.int (1 : Int32)), none, none, some (.int (nI k)), some (.int (nI (oN (ξ 14) (nI k) (ix (ξ 13 0))))), none, some (.int (nI ci)), some (.int b), some (.int l), some (.int p), some (.int (nI n)), none, some (.int (nI (sA ξ pl k n (ix (ξ 13 0))))), some (.int (nI (sD ξ k n (ix (ξ 13 0))))), none, none, none, none, none] [.int (soT (nI (sD ξ k n (ix (ξ 13 0)))) (nI (sA ξ pl k n (ix (ξ 13 0)))) b l p (nI ci))] 859 (c) (s) by
        refine J_icmp_gt (tgt := 858) X dL_isSo_825 (by decide) (fun c825 => ?_) (fun c825 => ?_)
        · skip
          refine J_iconst (v := 0) X dL_isSo_858 rfl ?_
          refine J.eqi (show (0 : Int32) = (soT (nI (sD ξ k n (ix (ξ 13 0)))) (nI (sA ξ pl k n (ix (ξ 13 0)))) b l p (nI ci)) from (by unfold soT; rw [if_pos c825])) ?_
          exact K825
        · skip
          refine J_iload_19 X dL_isSo_828 ?_
          refine J_if_lt (tgt := 854) X dL_isSo_830 (by decide) (fun c830 => ?_) (fun c830 => ?_)
          · skip
            refine J_iconst (v := 1) X dL_isSo_854 rfl ?_
            refine J_goto (tgt := 859) X dL_isSo_855 (by decide) ?_
            refine J.eqi (show (1 : Int32) = (soT (nI (sD ξ k n (ix (ξ 13 0)))) (nI (sA ξ pl k n (ix (ξ 13 0)))) b l p (nI ci)) from (by unfold soT; rw [if_neg c825, if_pos c830])) ?_
            exact K825
          · skip
            refine J_iload_24 X dL_isSo_833 ?_
            refine J_iload_20 X dL_isSo_835 ?_
            refine J_icmp_lt (tgt := 854) X dL_isSo_837 (by decide) (fun c837 => ?_) (fun c837 => ?_)
            · skip
              refine J_iconst (v := 1) X dL_isSo_854 rfl ?_
              refine J_goto (tgt := 859) X dL_isSo_855 (by decide) ?_
              refine J.eqi (show (1 : Int32) = (soT (nI (sD ξ k n (ix (ξ 13 0)))) (nI (sA ξ pl k n (ix (ξ 13 0)))) b l p (nI ci)) from (by unfold soT; rw [if_neg c825, if_neg c830, if_pos c837])) ?_
              exact K825
            · skip
              refine J_iload_24 X dL_isSo_840 ?_
              refine J_iload_20 X dL_isSo_842 ?_
              refine J_icmp_ne (tgt := 858) X dL_isSo_844 (by decide) (fun c844 => ?_) (fun c844 => ?_)
              · skip
                refine J_iconst (v := 0) X dL_isSo_858 rfl ?_
                refine J.eqi (show (0 : Int32) = (soT (nI (sD ξ k n (ix (ξ 13 0)))) (nI (sA ξ pl k n (ix (ξ 13 0)))) b l p (nI ci)) from (by unfold soT; rw [if_neg c825, if_neg c830, if_neg c837, if_neg c844])) ?_
                exact K825
              · skip
                refine J_iload_25 X dL_isSo_847 ?_
                refine J_iload_21 X dL_isSo_849 ?_
                refine J_icmp_gt (tgt := 858) X dL_isSo_851 (by decide) (fun c851 => ?_) (fun c851 => ?_)
                · skip
                  refine J_iconst (v := 0) X dL_isSo_858 rfl ?_
                  refine J.eqi (show (0 : Int32) = (soT (nI (sD ξ k n (ix (ξ 13 0)))) (nI (sA ξ pl k n (ix (ξ 13 0)))) b l p (nI ci)) from (by unfold soT; rw [if_neg c825, if_neg c830, if_neg c837, if_pos c844, if_pos c851])) ?_
                  exact K825
                · skip
                  refine J_iconst (v := 1) X dL_isSo_854 rfl ?_
                  refine J_goto (tgt := 859) X dL_isSo_855 (by decide) ?_
                  refine J.eqi (show (1 : Int32) = (soT (nI (sD ξ k n (ix (ξ 13 0)))) (nI (sA ξ pl k n (ix (ξ 13 0)))) b l p (nI ci)) from (by unfold soT; rw [if_neg c825, if_neg c830, if_neg c837, if_pos c844, if_neg c851])) ?_
                  exact K825
      refine J_istore_26 X dL_isSo_859 rfl (by decide) ?_
      refine J_iload_26 X dL_isSo_861 ?_
      suffices K863 : J K (un hx la) [some (.ref r), some (.ref (α 0)), some (.ref (α 1)), some (.ref (α 2)), some (.ref (α 3)), some (.ref (α 4)), some (.ref (α 5)), some (.ref (α 6)), some (.ref (α 7)), some (.int one), some (.int two), some (.int pl), some (.int (1 : Int32)), none, none, some (.int (nI k)), some (.int (nI (oN (ξ 14) (nI k) (ix (ξ 13 0))))), none, some (.int (nI ci)), some (.int b), some (.int l), some (.int p), some (.int (nI n)), none, some (.int (nI (sA ξ pl k n (ix (ξ 13 0))))), some (.int (nI (sD ξ k n (ix (ξ 13 0))))), some (.int (soT (nI (sD ξ k n (ix (ξ 13 0)))) (nI (sA ξ pl k n (ix (ξ 13 0)))) b l p (nI ci))), none, none, none, none] [.int (if (soT (nI (sD ξ k n (ix (ξ 13 0)))) (nI (sA ξ pl k n (ix (ξ 13 0)))) b l p (nI ci)) = (0 : Int32) then b else (nI n))] 873 (c) (s) by
        refine J_if_eq (tgt := 871) X dL_isSo_863 (by decide) (fun c863 => ?_) (fun c863 => ?_)
        · skip
          refine J_iload_19 X dL_isSo_871 ?_
          refine J.eqi (show b = (if (soT (nI (sD ξ k n (ix (ξ 13 0)))) (nI (sA ξ pl k n (ix (ξ 13 0)))) b l p (nI ci)) = (0 : Int32) then b else (nI n)) from (by rw [if_pos c863])) ?_
          exact K863
        · skip
          refine J_iload_22 X dL_isSo_866 ?_
          refine J_goto (tgt := 873) X dL_isSo_868 (by decide) ?_
          refine J.eqi (show (nI n) = (if (soT (nI (sD ξ k n (ix (ξ 13 0)))) (nI (sA ξ pl k n (ix (ξ 13 0)))) b l p (nI ci)) = (0 : Int32) then b else (nI n)) from (by rw [if_neg c863])) ?_
          exact K863
      refine J_istore_19 X dL_isSo_873 rfl (by decide) ?_
      refine J_iload_26 X dL_isSo_875 ?_
      suffices K877 : J K (un hx la) [some (.ref r), some (.ref (α 0)), some (.ref (α 1)), some (.ref (α 2)), some (.ref (α 3)), some (.ref (α 4)), some (.ref (α 5)), some (.ref (α 6)), some (.ref (α 7)), some (.int one), some (.int two), some (.int pl), some (.int (1 : Int32)), none, none, some (.int (nI k)), some (.int (nI (oN (ξ 14) (nI k) (ix (ξ 13 0))))), none, some (.int (nI ci)), some (.int (if (soT (nI (sD ξ k n (ix (ξ 13 0)))) (nI (sA ξ pl k n (ix (ξ 13 0)))) b l p (nI ci)) = (0 : Int32) then b else (nI n))), some (.int l), some (.int p), some (.int (nI n)), none, some (.int (nI (sA ξ pl k n (ix (ξ 13 0))))), some (.int (nI (sD ξ k n (ix (ξ 13 0))))), some (.int (soT (nI (sD ξ k n (ix (ξ 13 0)))) (nI (sA ξ pl k n (ix (ξ 13 0)))) b l p (nI ci))), none, none, none, none] [.int (if (soT (nI (sD ξ k n (ix (ξ 13 0)))) (nI (sA ξ pl k n (ix (ξ 13 0)))) b l p (nI ci)) = (0 : Int32) then l else (nI (sA ξ pl k n (ix (ξ 13 0)))))] 887 (c) (s) by
        refine J_if_eq (tgt := 885) X dL_isSo_877 (by decide) (fun c877 => ?_) (fun c877 => ?_)
        · skip
          refine J_iload_20 X dL_isSo_885 ?_
          refine J.eqi (show l = (if (soT (nI (sD ξ k n (ix (ξ 13 0)))) (nI (sA ξ pl k n (ix (ξ 13 0)))) b l p (nI ci)) = (0 : Int32) then l else (nI (sA ξ pl k n (ix (ξ 13 0))))) from (by rw [if_pos c877])) ?_
          exact K877
        · skip
          refine J_iload_24 X dL_isSo_880 ?_
          refine J_goto (tgt := 887) X dL_isSo_882 (by decide) ?_
          refine J.eqi (show (nI (sA ξ pl k n (ix (ξ 13 0)))) = (if (soT (nI (sD ξ k n (ix (ξ 13 0)))) (nI (sA ξ pl k n (ix (ξ 13 0)))) b l p (nI ci)) = (0 : Int32) then l else (nI (sA ξ pl k n (ix (ξ 13 0))))) from (by rw [if_neg c877])) ?_
          exact K877
      refine J_istore_20 X dL_isSo_887 rfl (by decide) ?_
      refine J_iload_26 X dL_isSo_889 ?_
      suffices K891 : J K (un hx la) [some (.ref r), some (.ref (α 0)), some (.ref (α 1)), some (.ref (α 2)), some (.ref (α 3)), some (.ref (α 4)), some (.ref (α 5)), some (.ref (α 6)), some (.ref (α 7)), some (.int one), some (.int two), some (.int pl), some (.int (1 : Int32)), none, none, some (.int (nI k)), some (.int (nI (oN (ξ 14) (nI k) (ix (ξ 13 0))))), none, some (.int (nI ci)), some (.int (if (soT (nI (sD ξ k n (ix (ξ 13 0)))) (nI (sA ξ pl k n (ix (ξ 13 0)))) b l p (nI ci)) = (0 : Int32) then b else (nI n))), some (.int (if (soT (nI (sD ξ k n (ix (ξ 13 0)))) (nI (sA ξ pl k n (ix (ξ 13 0)))) b l p (nI ci)) = (0 : Int32) then l else (nI (sA ξ pl k n (ix (ξ 13 0)))))), some (.int p), some (.int (nI n)), none, some (.int (nI (sA ξ pl k n (ix (ξ 13 0))))), some (.int (nI (sD ξ k n (ix (ξ 13 0))))), some (.int (soT (nI (sD ξ k n (ix (ξ 13 0)))) (nI (sA ξ pl k n (ix (ξ 13 0)))) b l p (nI ci))), none, none, none, none] [.int (if (soT (nI (sD ξ k n (ix (ξ 13 0)))) (nI (sA ξ pl k n (ix (ξ 13 0)))) b l p (nI ci)) = (0 : Int32) then p else (nI (sD ξ k n (ix (ξ 13 0)))))] 901 (c) (s) by
        refine J_if_eq (tgt := 899) X dL_isSo_891 (by decide) (fun c891 => ?_) (fun c891 => ?_)
        · skip
          refine J_iload_21 X dL_isSo_899 ?_
          refine J.eqi (show p = (if (soT (nI (sD ξ k n (ix (ξ 13 0)))) (nI (sA ξ pl k n (ix (ξ 13 0)))) b l p (nI ci)) = (0 : Int32) then p else (nI (sD ξ k n (ix (ξ 13 0))))) from (by rw [if_pos c891])) ?_
          exact K891
        · skip
          refine J_iload_25 X dL_isSo_894 ?_
          refine J_goto (tgt := 901) X dL_isSo_896 (by decide) ?_
          refine J.eqi (show (nI (sD ξ k n (ix (ξ 13 0)))) = (if (soT (nI (sD ξ k n (ix (ξ 13 0)))) (nI (sA ξ pl k n (ix (ξ 13 0)))) b l p (nI ci)) = (0 : Int32) then p else (nI (sD ξ k n (ix (ξ 13 0))))) from (by rw [if_neg c891])) ?_
          exact K891
      refine J_istore_21 X dL_isSo_901 rfl (by decide) ?_
      refine J_iinc_22 (v := ((nI n) + -1)) X dL_isSo_903 rfl rfl (by decide) ?_
      refine J_goto (tgt := 644) X dL_isSo_906 (by decide) ?_
      rw [show nI n + (-1 : Int32) = nI n - (1 : Int32) from (Int32.sub_eq_add_neg _ _).symm]
      refine J.subL (lv' := [some (.ref r), some (.ref (α 0)), some (.ref (α 1)), some (.ref (α 2)), some (.ref (α 3)), some (.ref (α 4)), some (.ref (α 5)), some (.ref (α 6)), some (.ref (α 7)), some (.int one), some (.int two), some (.int pl), some (.int (1 : Int32)), none, none, some (.int (nI k)), some (.int (nI (oN (ξ 14) (nI k) (ix (ξ 13 0))))), none, some (.int (nI ci)), some (.int (if (soT (nI (sD ξ k n (ix (ξ 13 0)))) (nI (sA ξ pl k n (ix (ξ 13 0)))) b l p (nI ci)) = (0 : Int32) then b else (nI n))), some (.int (if (soT (nI (sD ξ k n (ix (ξ 13 0)))) (nI (sA ξ pl k n (ix (ξ 13 0)))) b l p (nI ci)) = (0 : Int32) then l else (nI (sA ξ pl k n (ix (ξ 13 0)))))), some (.int (if (soT (nI (sD ξ k n (ix (ξ 13 0)))) (nI (sA ξ pl k n (ix (ξ 13 0)))) b l p (nI ci)) = (0 : Int32) then p else (nI (sD ξ k n (ix (ξ 13 0)))))), some (.int ((nI n) - (1 : Int32))), none, none, none, none, none, none, none, none]) (And.intro rfl (And.intro rfl (And.intro rfl (And.intro rfl (And.intro rfl (And.intro rfl (And.intro rfl (And.intro rfl (And.intro rfl (And.intro rfl (And.intro rfl (And.intro rfl (And.intro rfl (And.intro rfl (And.intro rfl (And.intro rfl (And.intro rfl (And.intro rfl (And.intro rfl (And.intro rfl trivial)))))))))))))))))))) ?_
      exact ihS _ _ _ (by omega) (IL2_step (A := (fun s => sA ξ pl k s (ix (ξ 13 0)))) (C := (fun s => sD ξ k s (ix (ξ 13 0)))) hb (by omega) (fun s _ => sA_lt hQ hIX hA hpl (Nat.le_refl _)) (fun s _ => sD_lt hQ (Nat.le_refl _)) (by omega) (by omega))
  exact LS (MS ξ k) (-1) 0 0 (Nat.le_refl _) (Or.inl ⟨rfl, rfl, rfl, fun s h1 h2 => absurd h2 (by omega)⟩)
end
