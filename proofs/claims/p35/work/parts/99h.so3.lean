noncomputable section
section SOV
variable {ξ τ : St} {p q : Int32}
theorem ov_j (hI : InvX ξ) (h : vp_in p (ix (ξ 8 0))) (hq : vp_in q 4) : M_ofVillage_j6 ξ p q = 0 := by
  unfold M_ofVillage_j6
  rw [if_neg (fun z => (village_iff hI).mp z h), if_neg (fun z => (isIn_n (a := 0) (b := 3) (A := 0) (B := 3) hq (by decide) rfl rfl (by decide) (by decide)).mp z ⟨Nat.zero_le _, by have := vp_lt hq; omega⟩)]
theorem ov_s (hI : InvX ξ) (h : vp_in p (ix (ξ 8 0))) (hq : vp_in q 4) : M_ofVillage_s ξ p q 41 0 = 0 := by
  have hK : ∀ n k a, M_ofVillage_L40_s ξ p q (fun _ => M_fails_s ξ 0) n k a 41 0 = 0 := by
    intro n
    induction n with
    | zero => intro k a; rw [M_ofVillage_L40_s]; exact f41 ξ 0
    | succ n ih => intro k a; rw [M_ofVillage_L40_s]; exact ih _ _
  unfold M_ofVillage_s
  rw [ov_j hI h hq, if_pos (fails_0 ξ)]
  exact hK _ _ _
theorem ov_K (p q : Int32) {K : Int32 → Int32} {v : Int32} (hK : ∀ a, K a = v) : ∀ n k a, M_ofVillage_L40 ξ p q K n k a = v := by
  intro n
  induction n with
  | zero => intro k a; rw [M_ofVillage_L40]; exact hK a
  | succ n ih => intro k a; rw [M_ofVillage_L40]; exact ih _ _
theorem li4 (hp : vp_in p 2) {c : Nat} (hc : c < 4) : ix (((4 : Int32) * p) + nI c) = 4 * ix p + c := ixc (f := 4) hp (by omega) (by decide)
theorem ov_0 (hQ : LQ ξ τ) (hI : InvX ξ) (h : vp_in p (ix (ξ 8 0))) : M_ofVillage ξ p 0 = τ 2 (ix (((4 : Int32) * p) + (1 : Int32))) := by
  have hp := vp_up h hQ.lim.1
  unfold M_ofVillage
  rw [ov_j hI h (q := 0) (vp_in_nI (n := 0) (by decide) (by decide)), if_pos (fails_0 ξ), show ix (((4 : Int32) * p) + (1 : Int32)) = 4 * ix p + 1 from li4 hp (c := 1) (by decide), (hQ.v (vp_lt hp)).2.1]
  refine ov_K p 0 (fun a => ?_) _ _ _
  unfold M_ofVillage_j84
  rw [if_pos rfl, ov_j hI h (q := 0) (vp_in_nI (n := 0) (by decide) (by decide)), sEq.f ξ 0 10 (by decide)]
theorem ov_1 (hI : InvX ξ) (h : vp_in p (ix (ξ 8 0))) : M_ofVillage ξ p 1 = nI (oN (ξ 14) p (ix (ξ 13 0))) := by
  unfold M_ofVillage
  rw [ov_j hI h (q := 1) (vp_in_nI (n := 1) (by decide) (by decide)), if_pos (fails_0 ξ)]
  refine ov_K p 1 (fun a => ?_) _ _ _
  unfold M_ofVillage_j84
  rw [if_neg (by decide), if_pos rfl, lampsOf41, lampsOf_eq hI, cntO_nI]
theorem ov_2 (hI : InvX ξ) (h : vp_in p (ix (ξ 8 0))) : M_ofVillage ξ p 2 = M_ofVillage_L40 ξ p 2 (fun a => a) (ix (ξ 13 0)) 0 0 := by
  unfold M_ofVillage
  rw [ov_j hI h (q := 2) (vp_in_nI (n := 2) (by decide) (by decide)), if_pos (fails_0 ξ)]
  have e : (fun a => M_ofVillage_j84 ξ p 2 a) = (fun a => a) := funext fun a => by
    unfold M_ofVillage_j84
    rw [if_neg (by decide), if_neg (by decide), if_pos rfl]
  rw [e]
theorem ov_3 (hQ : LQ ξ τ) (hI : InvX ξ) (h : vp_in p (ix (ξ 8 0))) : M_ofVillage ξ p 3 = τ 2 (ix (((4 : Int32) * p) + (2 : Int32))) := by
  have hp := vp_up h hQ.lim.1
  unfold M_ofVillage
  rw [ov_j hI h (q := 3) (vp_in_nI (n := 3) (by decide) (by decide)), if_pos (fails_0 ξ), show ix (((4 : Int32) * p) + (2 : Int32)) = 4 * ix p + 2 from li4 hp (c := 2) (by decide), (hQ.v (vp_lt hp)).2.2.1]
  refine ov_K p 3 (fun a => ?_) _ _ _
  unfold M_ofVillage_j84
  rw [if_neg (by decide), if_neg (by decide), if_neg (by decide), ov_j hI h (q := 3) (vp_in_nI (n := 3) (by decide) (by decide)), sEq.f ξ 0 11 (by decide)]
/-- is lamp n the village's -/
def soI (ξ : St) (k n : Nat) : Int32 := if ξ 14 n = nI k then 1 else 0
theorem soI_b (ξ : St) (k n : Nat) : soI ξ k n = 0 ∨ soI ξ k n = 1 := by
  unfold soI
  (repeat' split) <;> first | exact Or.inl rfl | exact Or.inr rfl
def soB (ξ : St) (k n : Nat) : Int32 := if ξ 14 n = nI k then (if M_burns ξ (nI n) = 0 then 0 else 1) else 0
theorem soI_0 {k n : Nat} (h : soI ξ k n = 0) : ¬ ξ 14 n = nI k := fun z => by
  unfold soI at h
  rw [if_pos z] at h
  exact absurd h (by decide)
theorem soI_1 {k n : Nat} (h : ¬ soI ξ k n = 0) : ξ 14 n = nI k := Classical.byContradiction fun z => by
  unfold soI at h
  rw [if_neg z] at h
  exact h rfl
theorem soB_0 {k n : Nat} (h : soI ξ k n = 0) : 0 = soB ξ k n := by
  unfold soB
  rw [if_neg (soI_0 h)]
theorem soB_1 (hQ : LQ ξ τ) (hI : InvX ξ) {k n : Nat} (hp : vp_in (nI n) (ix (ξ 13 0))) (h : ¬ soI ξ k n = 0) (hb : L_burns τ (nI n) = 0) : 0 = soB ξ k n := by
  unfold soB
  rw [LM_burns hQ hI hp] at hb
  rw [if_pos (soI_1 h), if_pos hb]
theorem soB_2 (hQ : LQ ξ τ) (hI : InvX ξ) {k n : Nat} (hp : vp_in (nI n) (ix (ξ 13 0))) (h : ¬ soI ξ k n = 0) (hb : ¬ L_burns τ (nI n) = 0) : 1 = soB ξ k n := by
  unfold soB
  rw [LM_burns hQ hI hp] at hb
  rw [if_pos (soI_1 h), if_neg hb]
theorem so_own (hQ : LQ ξ τ) (hI : InvX ξ) {n : Nat} (hp : vp_in (nI n) (ix (ξ 13 0))) (hn : n < 1000) : τ 3 (ix ((6 : Int32) * (nI n))) / (64 : Int32) - τ 3 (ix ((6 : Int32) * (nI n))) / (64 : Int32) / (2 : Int32) * (2 : Int32) = ξ 14 n := by
  rw [dl_own hQ hI hp, ixn (by omega)]
theorem soI_s (ξ : St) (k n : Nat) : nI (oN (ξ 14) (nI k) n) + soI ξ k n = nI (oN (ξ 14) (nI k) (n + 1)) := by
  unfold soI
  by_cases c : ξ 14 n = nI k
  · rw [if_pos c, oN_own c, nI_1]
  · rw [if_neg c, oN_not c, Int32.add_zero]
theorem ov_step (hI : InvX ξ) {n i k : Nat} (h : vp_in (nI k) (ix (ξ 8 0))) (hi : i < 1000) (b : Int32) : M_ofVillage_L40 ξ (nI k) 2 (fun a => a) (n + 1) i b = M_ofVillage_L40 ξ (nI k) 2 (fun a => a) n (i + 1) (b + soB ξ k i) := by
  rw [M_ofVillage_L40]
  unfold M_ofVillage_j58 soB
  rw [ov_j hI h (q := 2) (vp_in_nI (n := 2) (by decide) (by decide)), sEq.f ξ 0 14 (by decide), burns41, ixn (by omega)]
end SOV
set_option maxRecDepth 100000 in
set_option maxHeartbeats 4000000 in
theorem so_c {K : KT} {h0 hx la : fH} {post : Option Value → fH → Prop} {px : String → fH → Prop} {r : Nat} {α : Nat → Nat} {σ ξ : St} {one two : Int32} (X : JX K yL_isSo.name yL_isSo.cls cL_isSo 31 (some .boolean) [] (Cond.code yL_isSo cL_isSo 31 (some .boolean)) rmSo h0 post px) (hIX : InvX ξ) (hIO : InvO ξ) (hQ : LQ ξ σ) (h1 : vp_in one 60000) (h2 : vp_in two 60000) (hLA : LA (kca K) la α σ) (hα : ∀ i j, i < 8 → j < 8 → α i = α j → i = j) (hap : apart hx la) (hX : RA (kca K) hx r ξ) (pl : Int32) (hpl : vp_in pl 64) (kE : ∀ hx' : fH, apart hx' la → RA (kca K) hx' r ξ → J K (un hx' la) [some (.ref r), some (.ref (α 0)), some (.ref (α 1)), some (.ref (α 2)), some (.ref (α 3)), some (.ref (α 4)), some (.ref (α 5)), some (.ref (α 6)), some (.ref (α 7)), some (.int one), some (.int two), some (.int pl), some (.int (1 : Int32)), none, none, some (.int (0 : Int32)), none, none, none, none, none, none, none, none, none, none, none, none, none, none, none] [] 433 165 990) : J K (un hx la) [some (.ref r), some (.ref (α 0)), some (.ref (α 1)), some (.ref (α 2)), some (.ref (α 3)), some (.ref (α 4)), some (.ref (α 5)), some (.ref (α 6)), some (.ref (α 7)), some (.int one), some (.int two), some (.int pl), some (.int (1 : Int32)), some (.int (M_culprit ξ pl)), none, none, none, none, none, none, none, none, none, none, none, none, none, none, none, none, none] [] 335 160 960 := by
  have hI := IL_of hQ hIX
  have hL : LH (kca K) hx (un hx la) α σ := ⟨la, rfl, hap, hLA, hα⟩
  refine J_iload_12 X dL_isSo_335 ?_
  refine J_if_eq (tgt := 427) X dL_isSo_337 (by decide) (fun c => absurd c (by decide)) (fun _ => ?_)
  refine J_aload_0 X dL_isSo_340 ?_
  refine J_iload_11 X dL_isSo_341 ?_
  obtain ⟨vs, hroot⟩ := RA.root hX
  refine J_callV X ((c_Q_culprit hX hIX hIO pl (cu_s hpl)).frame hap) (And.intro gw_2_26 cw_X10_culprit) (un_l hroot) rfl rfl rfl (Nat.le_of_ble_eq_true rfl) dL_isSo_343 rfl (fun v h11 e => ?_) (fun E h11 e => by obtain ⟨_, q, _⟩ := e; exact q.elim)
  obtain ⟨hx11, ⟨e0, hX11⟩, hap11, eh⟩ := e
  subst e0
  subst eh
  have hL11 : LH (kca K) hx11 (un hx11 la) α σ := ⟨la, rfl, hap11, hLA, hα⟩
  show J K (un hx11 la) [some (.ref r), some (.ref (α 0)), some (.ref (α 1)), some (.ref (α 2)), some (.ref (α 3)), some (.ref (α 4)), some (.ref (α 5)), some (.ref (α 6)), some (.ref (α 7)), some (.int one), some (.int two), some (.int pl), some (.int (1 : Int32)), some (.int (M_culprit ξ pl)), none, none, none, none, none, none, none, none, none, none, none, none, none, none, none, none, none] [.int (M_culprit ξ pl)] 346 161 966
  refine J_iload_13 X dL_isSo_346 ?_
  refine J_icmp_ne (tgt := 427) X dL_isSo_348 (by decide) (fun c => absurd rfl c) (fun _ => ?_)
  refine J_aload_0 X dL_isSo_351 ?_
  refine J_iload_11 X dL_isSo_352 ?_
  obtain ⟨vs, hroot⟩ := RA.root hX11
  refine J_callV X ((c_Q_glow hX11 hIX hIO pl (gl_s hpl)).frame hap11) (And.intro gw_4_111 cw_X10_glow) (un_l hroot) rfl rfl rfl (Nat.le_of_ble_eq_true rfl) dL_isSo_354 rfl (fun v h12 e => ?_) (fun E h12 e => by obtain ⟨_, q, _⟩ := e; exact q.elim)
  obtain ⟨hx12, ⟨e0, hX12⟩, hap12, eh⟩ := e
  subst e0
  subst eh
  have hL12 : LH (kca K) hx12 (un hx12 la) α σ := ⟨la, rfl, hap12, hLA, hα⟩
  show J K (un hx12 la) [some (.ref r), some (.ref (α 0)), some (.ref (α 1)), some (.ref (α 2)), some (.ref (α 3)), some (.ref (α 4)), some (.ref (α 5)), some (.ref (α 6)), some (.ref (α 7)), some (.int one), some (.int two), some (.int pl), some (.int (1 : Int32)), some (.int (M_culprit ξ pl)), none, none, none, none, none, none, none, none, none, none, none, none, none, none, none, none, none] [.int (M_glow ξ pl)] 357 162 972
  refine J_aload_1 X dL_isSo_357 ?_
  refine J_aload_2 X dL_isSo_358 ?_
  refine J_aload_3 X dL_isSo_359 ?_
  refine J_aload_4 X dL_isSo_360 ?_
  refine J_aload_8 X dL_isSo_362 ?_
  refine J_iload_11 X dL_isSo_364 ?_
  refine J_iconst (v := 5) X dL_isSo_366 rfl ?_
  refine J_callS X (c_L_glow hL12.la hI pl (5 : Int32) (vp_up hpl (by decide))) (And.intro gw_4_115 cw_L_glow) rfl rfl (Nat.le_of_ble_eq_true rfl) dL_isSo_367 rfl (J.pi ?_) JE.no
  refine J_icmp_ne (tgt := 427) X dL_isSo_370 (by decide) (fun c => absurd (gl_v hQ hIX hpl) c) (fun _ => ?_)
  refine J_aload_0 X dL_isSo_373 ?_
  refine J_iload_11 X dL_isSo_374 ?_
  refine J_iload_10 X dL_isSo_376 ?_
  refine J_iconst (v := 5) X dL_isSo_378 rfl ?_
  refine J_irem X dL_isSo_379 (by decide) ?_
  obtain ⟨vs, hroot⟩ := RA.root hX12
  refine J_callV X ((c_Q_glowFrom hX12 hIX hIO pl (two - two / (5 : Int32) * (5 : Int32)) (gf_s hpl (vr_rem (c := 5) h2 (by decide) (by decide) (by decide)))).frame hap12) (And.intro gw_4_118 cw_X10_glowFrom) (un_l hroot) rfl rfl rfl (Nat.le_of_ble_eq_true rfl) dL_isSo_380 rfl (fun v h13 e => ?_) (fun E h13 e => by obtain ⟨_, q, _⟩ := e; exact q.elim)
  obtain ⟨hx13, ⟨e0, hX13⟩, hap13, eh⟩ := e
  subst e0
  subst eh
  have hL13 : LH (kca K) hx13 (un hx13 la) α σ := ⟨la, rfl, hap13, hLA, hα⟩
  show J K (un hx13 la) [some (.ref r), some (.ref (α 0)), some (.ref (α 1)), some (.ref (α 2)), some (.ref (α 3)), some (.ref (α 4)), some (.ref (α 5)), some (.ref (α 6)), some (.ref (α 7)), some (.int one), some (.int two), some (.int pl), some (.int (1 : Int32)), some (.int (M_culprit ξ pl)), none, none, none, none, none, none, none, none, none, none, none, none, none, none, none, none, none] [.int (M_glowFrom ξ pl (two - two / (5 : Int32) * (5 : Int32)))] 383 164 984
  refine J_aload_1 X dL_isSo_383 ?_
  refine J_aload_2 X dL_isSo_384 ?_
  refine J_aload_3 X dL_isSo_385 ?_
  refine J_aload_4 X dL_isSo_386 ?_
  refine J_aload_8 X dL_isSo_388 ?_
  refine J_iload_11 X dL_isSo_390 ?_
  refine J_iload_10 X dL_isSo_392 ?_
  refine J_iconst (v := 5) X dL_isSo_394 rfl ?_
  refine J_irem X dL_isSo_395 (by decide) ?_
  refine J_callS X (c_L_glow hL13.la hI pl (two - two / (5 : Int32) * (5 : Int32)) (vp_up hpl (by decide))) (And.intro gw_4_115 cw_L_glow) rfl rfl (Nat.le_of_ble_eq_true rfl) dL_isSo_396 rfl (J.pi ?_) JE.no
  refine J_icmp_ne (tgt := 427) X dL_isSo_399 (by decide) (fun c => absurd (LM_glowd hQ hIX hpl (vr_rem (c := 5) h2 (by decide) (by decide) (by decide))).symm c) (fun _ => ?_)
  refine J_aload_0 X dL_isSo_402 ?_
  refine J_iload_11 X dL_isSo_403 ?_
  obtain ⟨vs, hroot⟩ := RA.root hX13
  refine J_callV X ((c_Q_ground hX13 hIX hIO pl (gr_s hpl)).frame hap13) (And.intro gw_4_126 cw_X10_ground) (un_l hroot) rfl rfl rfl (Nat.le_of_ble_eq_true rfl) dL_isSo_405 rfl (fun v h14 e => ?_) (fun E h14 e => by obtain ⟨_, q, _⟩ := e; exact q.elim)
  obtain ⟨hx14, ⟨e0, hX14⟩, hap14, eh⟩ := e
  subst e0
  subst eh
  have hL14 : LH (kca K) hx14 (un hx14 la) α σ := ⟨la, rfl, hap14, hLA, hα⟩
  show J K (un hx14 la) [some (.ref r), some (.ref (α 0)), some (.ref (α 1)), some (.ref (α 2)), some (.ref (α 3)), some (.ref (α 4)), some (.ref (α 5)), some (.ref (α 6)), some (.ref (α 7)), some (.int one), some (.int two), some (.int pl), some (.int (1 : Int32)), some (.int (M_culprit ξ pl)), none, none, none, none, none, none, none, none, none, none, none, none, none, none, none, none, none] [.int (M_ground ξ pl)] 408 165 990
  refine J_aload_1 X dL_isSo_408 ?_
  refine J_aload_2 X dL_isSo_409 ?_
  refine J_aload_3 X dL_isSo_410 ?_
  refine J_aload_4 X dL_isSo_411 ?_
  refine J_aload_8 X dL_isSo_413 ?_
  refine J_iload_11 X dL_isSo_415 ?_
  refine J_callS X (c_L_ground hL14.la hI pl (vp_up hpl (by decide))) (And.intro gw_4_130 cw_L_ground) rfl rfl (Nat.le_of_ble_eq_true rfl) dL_isSo_417 rfl (J.pi ?_) JE.no
  refine J_icmp_ne (tgt := 427) X dL_isSo_420 (by decide) (fun c => absurd (gr_v hQ hIX hpl) c) (fun _ => ?_)
  refine J_iconst (v := 1) X dL_isSo_423 rfl ?_
  refine J_goto (tgt := 428) X dL_isSo_424 (by decide) ?_
  refine J_istore_12 X dL_isSo_428 rfl (by decide) ?_
  refine J_iconst (v := 0) X dL_isSo_430 rfl ?_
  refine J_istore_15 X dL_isSo_431 rfl (by decide) ?_
  refine J.subL (lv' := [some (.ref r), some (.ref (α 0)), some (.ref (α 1)), some (.ref (α 2)), some (.ref (α 3)), some (.ref (α 4)), some (.ref (α 5)), some (.ref (α 6)), some (.ref (α 7)), some (.int one), some (.int two), some (.int pl), some (.int (1 : Int32)), none, none, some (.int (0 : Int32)), none, none, none, none, none, none, none, none, none, none, none, none, none, none, none]) (And.intro rfl (And.intro rfl (And.intro rfl (And.intro rfl (And.intro rfl (And.intro rfl (And.intro rfl (And.intro rfl (And.intro rfl (And.intro rfl (And.intro rfl (And.intro rfl (And.intro rfl (And.intro rfl trivial)))))))))))))) ?_
  exact kE hx14 hap14 hX14
set_option maxRecDepth 100000 in
set_option maxHeartbeats 4000000 in
theorem so_d {K : KT} {h0 hx la : fH} {post : Option Value → fH → Prop} {px : String → fH → Prop} {r : Nat} {α : Nat → Nat} {σ ξ : St} {one two : Int32} (X : JX K yL_isSo.name yL_isSo.cls cL_isSo 31 (some .boolean) [] (Cond.code yL_isSo cL_isSo 31 (some .boolean)) rmSo h0 post px) (hIX : InvX ξ) (hIO : InvO ξ) (hQ : LQ ξ σ) (h1 : vp_in one 60000) (h2 : vp_in two 60000) (hLA : LA (kca K) la α σ) (hα : ∀ i j, i < 8 → j < 8 → α i = α j → i = j) (hap : apart hx la) (hX : RA (kca K) hx r ξ) (pl : Int32) (hpl : vp_in pl 64) (k : Nat) (hk : k < ix (ξ 8 0)) (c : Nat) (s : Nat) (hc : c ≤ 300) (hs : s ≤ 3000) (kE : ∀ hx' : fH, apart hx' la → RA (kca K) hx' r ξ → J K (un hx' la) [some (.ref r), some (.ref (α 0)), some (.ref (α 1)), some (.ref (α 2)), some (.ref (α 3)), some (.ref (α 4)), some (.ref (α 5)), some (.ref (α 6)), some (.ref (α 7)), some (.int one), some (.int two), some (.int pl), some (.int (1 : Int32)), none, none, some (.int (nI k)), some (.int (nI (oN (ξ 14) (nI k) (ix (ξ 13 0))))), none, none, none, none, none, none, none, none, none, none, none, none, none, none] [] 608 (c + 8) (s + 48)) : J K (un hx la) [some (.ref r), some (.ref (α 0)), some (.ref (α 1)), some (.ref (α 2)), some (.ref (α 3)), some (.ref (α 4)), some (.ref (α 5)), some (.ref (α 6)), some (.ref (α 7)), some (.int one), some (.int two), some (.int pl), some (.int (1 : Int32)), none, none, some (.int (nI k)), none, none, none, none, none, none, none, none, none, none, none, none, none, none, none] [] 447 (c) (s) := by
  have hI := IL_of hQ hIX
  have hL : LH (kca K) hx (un hx la) α σ := ⟨la, rfl, hap, hLA, hα⟩
  have hv2 := hQ.lim.1
  have hk2 : k < 2 := by omega
  have hkv : vp_in (nI k) (ix (ξ 8 0)) := vp_in_nI hk (by omega)
  have hB : σ 7 (ix (3 : Int32)) = nI (ix (ξ 13 0)) := hQ.g.2.2.2.1.trans (vp_nI' (hIX.1 13 0 : vp_in (ξ 13 0) 41) (by decide))
  have hl10 := hQ.lim.2.1
  refine J_iconst (v := 0) X dL_isSo_447 rfl ?_
  refine J_istore_16 X dL_isSo_448 rfl (by decide) ?_
  refine J_iconst (v := 0) X dL_isSo_450 rfl ?_
  refine J_istore_17 X dL_isSo_451 rfl (by decide) ?_
  refine J_iconst (v := 0) X dL_isSo_453 rfl ?_
  refine J_istore_18 X dL_isSo_454 rfl (by decide) ?_
  suffices KX : J K (un hx la) [some (.ref r), some (.ref (α 0)), some (.ref (α 1)), some (.ref (α 2)), some (.ref (α 3)), some (.ref (α 4)), some (.ref (α 5)), some (.ref (α 6)), some (.ref (α 7)), some (.int one), some (.int two), some (.int pl), some (.int (1 : Int32)), none, none, some (.int (nI k)), some (.int (nI (oN (ξ 14) (nI k) (ix (ξ 13 0))))), some (.int (M_ofVillage ξ (nI k) 2)), none, none, none, none, none, none, none, none, none, none, none, none, none] [] 541 (c) (s) by
    have L : ∀ (m n : Nat) (b : Int32), n + m = ix (ξ 13 0) → M_ofVillage_L40 ξ (nI k) 2 (fun a => a) m n b = M_ofVillage ξ (nI k) 2 → J K (un hx la) [some (.ref r), some (.ref (α 0)), some (.ref (α 1)), some (.ref (α 2)), some (.ref (α 3)), some (.ref (α 4)), some (.ref (α 5)), some (.ref (α 6)), some (.ref (α 7)), some (.int one), some (.int two), some (.int pl), some (.int (1 : Int32)), none, none, some (.int (nI k)), some (.int (nI (oN (ξ 14) (nI k) n))), some (.int b), some (.int (nI n)), none, none, none, none, none, none, none, none, none, none, none, none] [] 456 (c) (s) := by
      intro m
      induction m with
      | zero =>
        intro n b hk hb
        rw [M_ofVillage_L40] at hb
        subst hb
        obtain rfl : n = ix (ξ 13 0) := by omega
        refine J_iload_18 X dL_isSo_456 ?_
        refine J_aload_8 X dL_isSo_458 ?_
        refine J_iconst (v := 3) X dL_isSo_460 rfl ?_
        refine JL_ld X hL.la 7 (by decide) (vp_up (vp_in_nI (n := 3) (N := 4) (by decide) (by decide)) (by decide)) dL_isSo_461 ?_
        refine J_icmp_ge (tgt := 541) X dL_isSo_462 (by decide) (fun _ => ?_) (fun c => absurd (lp_exit hB (by omega) hk) c)
        refine J.subL (lv' := [some (.ref r), some (.ref (α 0)), some (.ref (α 1)), some (.ref (α 2)), some (.ref (α 3)), some (.ref (α 4)), some (.ref (α 5)), some (.ref (α 6)), some (.ref (α 7)), some (.int one), some (.int two), some (.int pl), some (.int (1 : Int32)), none, none, some (.int (nI k)), some (.int (nI (oN (ξ 14) (nI k) (ix (ξ 13 0))))), some (.int (M_ofVillage ξ (nI k) 2)), none, none, none, none, none, none, none, none, none, none, none, none, none]) (And.intro rfl (And.intro rfl (And.intro rfl (And.intro rfl (And.intro rfl (And.intro rfl (And.intro rfl (And.intro rfl (And.intro rfl (And.intro rfl (And.intro rfl (And.intro rfl (And.intro rfl (And.intro rfl (And.intro rfl (And.intro rfl trivial)))))))))))))))) ?_
        exact KX
      | succ m ih =>
        intro n b hk hb
        have hn10 : n < 10 := by omega
        have hp : vp_in (nI n) (ix (ξ 13 0)) := vp_in_nI (by omega) (by omega)
        refine J_iload_18 X dL_isSo_456 ?_
        refine J_aload_8 X dL_isSo_458 ?_
        refine J_iconst (v := 3) X dL_isSo_460 rfl ?_
        refine JL_ld X hL.la 7 (by decide) (vp_up (vp_in_nI (n := 3) (N := 4) (by decide) (by decide)) (by decide)) dL_isSo_461 ?_
        refine J_icmp_ge (tgt := 541) X dL_isSo_462 (by decide) (fun c => absurd c (lp_stay hB (by omega) hk)) (fun _ => ?_)
        refine J_aload_4 X dL_isSo_465 ?_
        refine J_bipush (v := (6 : Int32)) X dL_isSo_467 (by decide) ?_
        refine J_iload_18 X dL_isSo_469 ?_
        refine J_imul X dL_isSo_471 ?_
        refine JL_ld X hL.la 3 (by decide) (vp_up (vr_mul (vp_in_nI (n := 6) (N := 7) (by decide) (by decide)) (vp_in_nI (n := n) (N := 10) hn10 (by decide)) (by decide)) (by decide)) dL_isSo_472 ?_
        refine J_bipush (v := (64 : Int32)) X dL_isSo_473 (by decide) ?_
        refine J_idiv X dL_isSo_475 (by decide) ?_
        refine J_iconst (v := 2) X dL_isSo_476 rfl ?_
        refine J_irem X dL_isSo_477 (by decide) ?_
        refine J_iload_15 X dL_isSo_478 ?_
        suffices K480 : J K (un hx la) [some (.ref r), some (.ref (α 0)), some (.ref (α 1)), some (.ref (α 2)), some (.ref (α 3)), some (.ref (α 4)), some (.ref (α 5)), some (.ref (α 6)), some (.ref (α 7)), some (.int one), some (.int two), some (.int pl), some (.int (1 : Int32)), none, none, some (.int (nI k)), some (.int (nI (oN (ξ 14) (nI k) n))), some (.int b), some (.int (nI n)), none, none, none, none, none, none, none, none, none, none, none, none] [.int (soI ξ k n)] 488 (c) (s) by
          refine J_icmp_ne (tgt := 487) X dL_isSo_480 (by decide) (fun c480 => ?_) (fun c480 => ?_)
          · skip
            refine J_iconst (v := 0) X dL_isSo_487 rfl ?_
            refine J.eqi (show (0 : Int32) = (soI ξ k n) from (by unfold soI; rw [← so_own hQ hIX hp (by omega), if_neg c480])) ?_
            exact K480
          · skip
            refine J_iconst (v := 1) X dL_isSo_483 rfl ?_
            refine J_goto (tgt := 488) X dL_isSo_484 (by decide) ?_
            refine J.eqi (show (1 : Int32) = (soI ξ k n) from (by unfold soI; rw [← so_own hQ hIX hp (by omega), if_pos c480])) ?_
            exact K480
        refine J_istore_19 X dL_isSo_488 rfl (by decide) ?_
        refine J_iload_16 X dL_isSo_490 ?_
        refine J_iload_19 X dL_isSo_492 ?_
        suffices K494 : J K (un hx la) [some (.ref r), some (.ref (α 0)), some (.ref (α 1)), some (.ref (α 2)), some (.ref (α 3)), some (.ref (α 4)), some (.ref (α 5)), some (.ref (α 6)), some (.ref (α 7)), some (.int one), some (.int two), some (.int pl), some (.int (1 : Int32)), none, none, some (.int (nI k)), some (.int (nI (oN (ξ 14) (nI k) n))), some (.int b), some (.int (nI n)), some (.int (soI ξ k n)), none, none, none, none, none, none, none, none, none, none, none] [.int (soI ξ k n), .int (nI (oN (ξ 14) (nI k) n))] 502 (c) (s) by
          refine J_if_eq (tgt := 501) X dL_isSo_494 (by decide) (fun c494 => ?_) (fun c494 => ?_)
          · skip
            refine J_iconst (v := 0) X dL_isSo_501 rfl ?_
            refine J.eqi (show (0 : Int32) = (soI ξ k n) from c494.symm) ?_
            exact K494
          · skip
            refine J_iconst (v := 1) X dL_isSo_497 rfl ?_
            refine J_goto (tgt := 502) X dL_isSo_498 (by decide) ?_
            refine J.eqi (show (1 : Int32) = (soI ξ k n) from ((soI_b ..).resolve_left c494).symm) ?_
            exact K494
        refine J_iadd X dL_isSo_502 ?_
        refine J_istore_16 X dL_isSo_503 rfl (by decide) ?_
        refine J_iload_17 X dL_isSo_505 ?_
        refine J_iload_19 X dL_isSo_507 ?_
        suffices K509 : J K (un hx la) [some (.ref r), some (.ref (α 0)), some (.ref (α 1)), some (.ref (α 2)), some (.ref (α 3)), some (.ref (α 4)), some (.ref (α 5)), some (.ref (α 6)), some (.ref (α 7)), some (.int one), some (.int two), some (.int pl), some (.int (1 : Int32)), none, none, some (.int (nI k)), some (.int ((nI (oN (ξ 14) (nI k) n)) + (soI ξ k n))), some (.int b), some (.int (nI n)), some (.int (soI ξ k n)), none, none, none, none, none, none, none, none, none, none, none] [.int (soB ξ k n), .int b] 532 (c) (s) by
          refine J_if_eq (tgt := 531) X dL_isSo_509 (by decide) (fun c509 => ?_) (fun c509 => ?_)
          · skip
            refine J_iconst (v := 0) X dL_isSo_531 rfl ?_
            refine J.eqi (show (0 : Int32) = (soB ξ k n) from (soB_0 c509)) ?_
            exact K509
          · skip
            refine J_aload_1 X dL_isSo_512 ?_
            refine J_aload_2 X dL_isSo_513 ?_
            refine J_aload_3 X dL_isSo_514 ?_
            refine J_aload_4 X dL_isSo_515 ?_
            refine J_aload_8 X dL_isSo_517 ?_
            refine J_iload_18 X dL_isSo_519 ?_
            refine J_callS X (c_L_burns hL.la hI (nI n) (vp_up (vp_in_nI (n := n) (N := 10) hn10 (by decide)) (by decide))) (And.intro gw_4_86 cw_L_burns) rfl (hroom2 (show (c) ≤ 1000 by omega) (show (s) ≤ 6000 by omega)) (Nat.le_of_ble_eq_true rfl) dL_isSo_521 rfl (J.pi ?_) JE.no
            refine J_if_eq (tgt := 531) X dL_isSo_524 (by decide) (fun c524 => ?_) (fun c524 => ?_)
            · skip
              refine J_iconst (v := 0) X dL_isSo_531 rfl ?_
              refine J.eqi (show (0 : Int32) = (soB ξ k n) from (soB_1 hQ hIX hp c509 c524)) ?_
              exact K509
            · skip
              refine J_iconst (v := 1) X dL_isSo_527 rfl ?_
              refine J_goto (tgt := 532) X dL_isSo_528 (by decide) ?_
              refine J.eqi (show (1 : Int32) = (soB ξ k n) from (soB_2 hQ hIX hp c509 c524)) ?_
              exact K509
        refine J_iadd X dL_isSo_532 ?_
        refine J_istore_17 X dL_isSo_533 rfl (by decide) ?_
        refine J_iinc_18 (v := (nI (n + 1))) X dL_isSo_535 (nI_1 _) rfl (by decide) ?_
        refine J_goto (tgt := 456) X dL_isSo_538 (by decide) ?_
        refine J.subL (lv' := [some (.ref r), some (.ref (α 0)), some (.ref (α 1)), some (.ref (α 2)), some (.ref (α 3)), some (.ref (α 4)), some (.ref (α 5)), some (.ref (α 6)), some (.ref (α 7)), some (.int one), some (.int two), some (.int pl), some (.int (1 : Int32)), none, none, some (.int (nI k)), some (.int ((nI (oN (ξ 14) (nI k) n)) + (soI ξ k n))), some (.int (b + (soB ξ k n))), some (.int (nI (n + 1))), none, none, none, none, none, none, none, none, none, none, none, none]) (And.intro rfl (And.intro rfl (And.intro rfl (And.intro rfl (And.intro rfl (And.intro rfl (And.intro rfl (And.intro rfl (And.intro rfl (And.intro rfl (And.intro rfl (And.intro rfl (And.intro rfl (And.intro rfl (And.intro rfl (And.intro rfl (And.intro rfl trivial))))))))))))))))) ?_
        rw [soI_s]
        exact ih (n + 1) _ (by omega) (by rw [← ov_step hIX hkv (by omega)]; exact hb)
    exact L (ix (ξ 13 0)) 0 0 (Nat.zero_add _) (ov_2 hIX hkv).symm
  refine J_aload_0 X dL_isSo_541 ?_
  refine J_iload_15 X dL_isSo_542 ?_
  refine J_iconst (v := 0) X dL_isSo_544 rfl ?_
  obtain ⟨vs, hroot⟩ := RA.root hX
  refine J_callV X ((c_Q_ofVillage hX hIX hIO (nI k) (0 : Int32) (ov_s hIX hkv (vp_in_nI (n := 0) (N := 4) (by decide) (by decide)))).frame hap) (And.intro gw_4_2 cw_X10_ofVillage) (un_l hroot) rfl rfl (hroom2 (show (c + 2) ≤ 1000 by omega) (show (s + 12) ≤ 6000 by omega)) (Nat.le_of_ble_eq_true rfl) dL_isSo_545 rfl (fun v h11 e => ?_) (fun E h11 e => by obtain ⟨_, q, _⟩ := e; exact q.elim)
  obtain ⟨hx11, ⟨e0, hX11⟩, hap11, eh⟩ := e
  subst e0
  subst eh
  have hL11 : LH (kca K) hx11 (un hx11 la) α σ := ⟨la, rfl, hap11, hLA, hα⟩
  show J K (un hx11 la) [some (.ref r), some (.ref (α 0)), some (.ref (α 1)), some (.ref (α 2)), some (.ref (α 3)), some (.ref (α 4)), some (.ref (α 5)), some (.ref (α 6)), some (.ref (α 7)), some (.int one), some (.int two), some (.int pl), some (.int (1 : Int32)), none, none, some (.int (nI k)), some (.int (nI (oN (ξ 14) (nI k) (ix (ξ 13 0))))), some (.int (M_ofVillage ξ (nI k) 2)), none, none, none, none, none, none, none, none, none, none, none, none, none] [.int (M_ofVillage ξ (nI k) (0 : Int32))] 548 (c + 2) (s + 12)
  refine J_aload_3 X dL_isSo_548 ?_
  refine J_iconst (v := 4) X dL_isSo_549 rfl ?_
  refine J_iload_15 X dL_isSo_550 ?_
  refine J_imul X dL_isSo_552 ?_
  refine J_iconst (v := 1) X dL_isSo_553 rfl ?_
  refine J_iadd X dL_isSo_554 ?_
  refine JL_ld X hL11.la 2 (by decide) (vp_up (vr_add (vr_mul (vp_in_nI (n := 4) (N := 5) (by decide) (by decide)) (vp_in_nI (n := k) (N := 2) hk2 (by decide)) (by decide)) (vp_in_nI (n := 1) (N := 2) (by decide) (by decide)) (by decide)) (by decide)) dL_isSo_555 ?_
  refine J_icmp_ne (tgt := 605) X dL_isSo_556 (by decide) (fun c => absurd (ov_0 hQ hIX hkv) c) (fun _ => ?_)
  refine J_aload_0 X dL_isSo_559 ?_
  refine J_iload_15 X dL_isSo_560 ?_
  refine J_iconst (v := 1) X dL_isSo_562 rfl ?_
  obtain ⟨vs, hroot⟩ := RA.root hX11
  refine J_callV X ((c_Q_ofVillage hX11 hIX hIO (nI k) (1 : Int32) (ov_s hIX hkv (vp_in_nI (n := 1) (N := 4) (by decide) (by decide)))).frame hap11) (And.intro gw_4_2 cw_X10_ofVillage) (un_l hroot) rfl rfl (hroom2 (show (c + 4) ≤ 1000 by omega) (show (s + 24) ≤ 6000 by omega)) (Nat.le_of_ble_eq_true rfl) dL_isSo_563 rfl (fun v h12 e => ?_) (fun E h12 e => by obtain ⟨_, q, _⟩ := e; exact q.elim)
  obtain ⟨hx12, ⟨e0, hX12⟩, hap12, eh⟩ := e
  subst e0
  subst eh
  have hL12 : LH (kca K) hx12 (un hx12 la) α σ := ⟨la, rfl, hap12, hLA, hα⟩
  show J K (un hx12 la) [some (.ref r), some (.ref (α 0)), some (.ref (α 1)), some (.ref (α 2)), some (.ref (α 3)), some (.ref (α 4)), some (.ref (α 5)), some (.ref (α 6)), some (.ref (α 7)), some (.int one), some (.int two), some (.int pl), some (.int (1 : Int32)), none, none, some (.int (nI k)), some (.int (nI (oN (ξ 14) (nI k) (ix (ξ 13 0))))), some (.int (M_ofVillage ξ (nI k) 2)), none, none, none, none, none, none, none, none, none, none, none, none, none] [.int (M_ofVillage ξ (nI k) (1 : Int32))] 566 (c + 4) (s + 24)
  refine J_iload_16 X dL_isSo_566 ?_
  refine J_icmp_ne (tgt := 605) X dL_isSo_568 (by decide) (fun c => absurd (ov_1 hIX hkv) c) (fun _ => ?_)
  refine J_aload_0 X dL_isSo_571 ?_
  refine J_iload_15 X dL_isSo_572 ?_
  refine J_iconst (v := 2) X dL_isSo_574 rfl ?_
  obtain ⟨vs, hroot⟩ := RA.root hX12
  refine J_callV X ((c_Q_ofVillage hX12 hIX hIO (nI k) (2 : Int32) (ov_s hIX hkv (vp_in_nI (n := 2) (N := 4) (by decide) (by decide)))).frame hap12) (And.intro gw_4_2 cw_X10_ofVillage) (un_l hroot) rfl rfl (hroom2 (show (c + 6) ≤ 1000 by omega) (show (s + 36) ≤ 6000 by omega)) (Nat.le_of_ble_eq_true rfl) dL_isSo_575 rfl (fun v h13 e => ?_) (fun E h13 e => by obtain ⟨_, q, _⟩ := e; exact q.elim)
  obtain ⟨hx13, ⟨e0, hX13⟩, hap13, eh⟩ := e
  subst e0
  subst eh
  have hL13 : LH (kca K) hx13 (un hx13 la) α σ := ⟨la, rfl, hap13, hLA, hα⟩
  show J K (un hx13 la) [some (.ref r), some (.ref (α 0)), some (.ref (α 1)), some (.ref (α 2)), some (.ref (α 3)), some (.ref (α 4)), some (.ref (α 5)), some (.ref (α 6)), some (.ref (α 7)), some (.int one), some (.int two), some (.int pl), some (.int (1 : Int32)), none, none, some (.int (nI k)), some (.int (nI (oN (ξ 14) (nI k) (ix (ξ 13 0))))), some (.int (M_ofVillage ξ (nI k) 2)), none, none, none, none, none, none, none, none, none, none, none, none, none] [.int (M_ofVillage ξ (nI k) (2 : Int32))] 578 (c + 6) (s + 36)
  refine J_iload_17 X dL_isSo_578 ?_
  refine J_icmp_ne (tgt := 605) X dL_isSo_580 (by decide) (fun c => absurd rfl c) (fun _ => ?_)
  refine J_aload_0 X dL_isSo_583 ?_
  refine J_iload_15 X dL_isSo_584 ?_
  refine J_iconst (v := 3) X dL_isSo_586 rfl ?_
  obtain ⟨vs, hroot⟩ := RA.root hX13
  refine J_callV X ((c_Q_ofVillage hX13 hIX hIO (nI k) (3 : Int32) (ov_s hIX hkv (vp_in_nI (n := 3) (N := 4) (by decide) (by decide)))).frame hap13) (And.intro gw_4_2 cw_X10_ofVillage) (un_l hroot) rfl rfl (hroom2 (show (c + 8) ≤ 1000 by omega) (show (s + 48) ≤ 6000 by omega)) (Nat.le_of_ble_eq_true rfl) dL_isSo_587 rfl (fun v h14 e => ?_) (fun E h14 e => by obtain ⟨_, q, _⟩ := e; exact q.elim)
  obtain ⟨hx14, ⟨e0, hX14⟩, hap14, eh⟩ := e
  subst e0
  subst eh
  have hL14 : LH (kca K) hx14 (un hx14 la) α σ := ⟨la, rfl, hap14, hLA, hα⟩
  show J K (un hx14 la) [some (.ref r), some (.ref (α 0)), some (.ref (α 1)), some (.ref (α 2)), some (.ref (α 3)), some (.ref (α 4)), some (.ref (α 5)), some (.ref (α 6)), some (.ref (α 7)), some (.int one), some (.int two), some (.int pl), some (.int (1 : Int32)), none, none, some (.int (nI k)), some (.int (nI (oN (ξ 14) (nI k) (ix (ξ 13 0))))), some (.int (M_ofVillage ξ (nI k) 2)), none, none, none, none, none, none, none, none, none, none, none, none, none] [.int (M_ofVillage ξ (nI k) (3 : Int32))] 590 (c + 8) (s + 48)
  refine J_aload_3 X dL_isSo_590 ?_
  refine J_iconst (v := 4) X dL_isSo_591 rfl ?_
  refine J_iload_15 X dL_isSo_592 ?_
  refine J_imul X dL_isSo_594 ?_
  refine J_iconst (v := 2) X dL_isSo_595 rfl ?_
  refine J_iadd X dL_isSo_596 ?_
  refine JL_ld X hL14.la 2 (by decide) (vp_up (vr_add (vr_mul (vp_in_nI (n := 4) (N := 5) (by decide) (by decide)) (vp_in_nI (n := k) (N := 2) hk2 (by decide)) (by decide)) (vp_in_nI (n := 2) (N := 3) (by decide) (by decide)) (by decide)) (by decide)) dL_isSo_597 ?_
  refine J_icmp_ne (tgt := 605) X dL_isSo_598 (by decide) (fun c => absurd (ov_3 hQ hIX hkv) c) (fun _ => ?_)
  refine J_iconst (v := 1) X dL_isSo_601 rfl ?_
  refine J_goto (tgt := 606) X dL_isSo_602 (by decide) ?_
  refine J_istore_12 X dL_isSo_606 rfl (by decide) ?_
  refine J.subL (lv' := [some (.ref r), some (.ref (α 0)), some (.ref (α 1)), some (.ref (α 2)), some (.ref (α 3)), some (.ref (α 4)), some (.ref (α 5)), some (.ref (α 6)), some (.ref (α 7)), some (.int one), some (.int two), some (.int pl), some (.int (1 : Int32)), none, none, some (.int (nI k)), some (.int (nI (oN (ξ 14) (nI k) (ix (ξ 13 0))))), none, none, none, none, none, none, none, none, none, none, none, none, none, none]) (And.intro rfl (And.intro rfl (And.intro rfl (And.intro rfl (And.intro rfl (And.intro rfl (And.intro rfl (And.intro rfl (And.intro rfl (And.intro rfl (And.intro rfl (And.intro rfl (And.intro rfl (And.intro rfl (And.intro rfl trivial))))))))))))))) ?_
  exact kE hx14 hap14 hX14
end
