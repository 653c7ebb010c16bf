noncomputable section
section SOM
variable {ξ τ : St} {p q : Int32}
theorem J.eql {K : KT} {h : fH} {lv : LV} {st : List Value} {pc cells slots : Nat} {x y : Int64} (e : x = y) (k : J K h lv (.long y :: st) pc cells slots) : J K h lv (.long x :: st) pc cells slots := by rw [e]; exact k
theorem rd_n (hI : InvX ξ) (k : Nat) : ξ 31 k = nI (ix (ξ 31 k)) ∧ ix (ξ 31 k) ≤ 10 := cnt (N := 10) (hI.1 31 k) (by decide)
theorem rd_top (hI : InvX ξ) (k : Nat) : (ξ 31 k - 1).toInt = (ix (ξ 31 k) : Int) - 1 := by
  obtain ⟨e, hl⟩ := rd_n hI k
  generalize ix (ξ 31 k) = r at *
  rw [e]
  exact pk_sub_toInt (by omega) (by decide)
theorem rd_j (hI : InvX ξ) (h : vp_in p (ix (ξ 26 0))) {j : Nat} (hj : j < ix (ξ 31 (ix p))) (hq : vp_in q 3) : M_ofReading_j34 ξ p (nI j) q = 0 := by
  have hl := (rd_n hI (ix p)).2
  have e : ¬ M_isIn (nI j) 0 (ξ 31 (ix p) - 1) = 0 := isIn_iff.mpr ⟨by rw [Int32.toInt_zero, nI_toInt (by omega)]; omega, by rw [rd_top hI, nI_toInt (by omega)]; omega⟩
  unfold M_ofReading_j34 M_ofReading_j5
  rw [if_neg (fun z => (meter_iff hI).mp z h), if_neg e, if_neg (by decide), if_neg (fun z => (isIn_n (a := 0) (b := 2) (A := 0) (B := 2) hq (by decide) rfl rfl (by decide) (by decide)).mp z ⟨Nat.zero_le _, by have := vp_lt hq; omega⟩)]
theorem rd_s (hI : InvX ξ) (h : vp_in p (ix (ξ 26 0))) {j : Nat} (hj : j < ix (ξ 31 (ix p))) (hq : vp_in q 3) : M_ofReading_s ξ p (nI j) q 41 0 = 0 := by
  unfold M_ofReading_s
  rw [rd_j hI h hj hq, if_pos (fails_0 ξ), f41]
theorem rd_ix (hp : vp_in p 2) {j : Nat} (hj : j < 10) : ix (((10 : Int32) * p) + nI j) = 10 * ix p + j ∧ ix (((20 : Int32) + ((10 : Int32) * p)) + nI j) = 20 + (10 * ix p + j) := by
  refine ⟨ixc (f := 10) (c := j) hp (by omega) (by decide), ?_⟩
  have q := ix20r hp (vp_in_nI (n := j) (N := 10) hj (by decide))
  rw [ixn (a := j) (by omega)] at q
  exact q
theorem rd_w (hQ : LQ ξ τ) (hp : vp_in p 2) {j : Nat} (hj : j < 10) : τ 6 (ix (((10 : Int32) * p) + nI j)) = ξ 32 (ix (((10 : Int32) * p) + nI j)) := by
  have h := vp_lt hp
  rw [(rd_ix hp hj).1]
  exact (hQ.q (by omega)).1
theorem rd_v (hQ : LQ ξ τ) (hp : vp_in p 2) {j : Nat} (hj : j < 10) : τ 6 (ix (((20 : Int32) + ((10 : Int32) * p)) + nI j)) = ξ 33 (ix (((10 : Int32) * p) + nI j)) := by
  have h := vp_lt hp
  rw [(rd_ix hp hj).1, (rd_ix hp hj).2]
  exact (hQ.q (by omega)).2.1
theorem rd_r (hQ : LQ ξ τ) (hp : vp_in p 2) {j : Nat} (hj : j < 10) : (((τ 6 (ix (((20 : Int32) + ((10 : Int32) * p)) + nI j))) - (L_moon (τ 6 (ix (((10 : Int32) * p) + nI j))))) - (20 : Int32)) - (τ 5 (ix (((3 : Int32) * p) + (1 : Int32)))) = M_corrected ξ p (nI j) := by
  have h := vp_lt hp
  rw [rd_v hQ hp hj, rd_w hQ hp hj, show ix (((3 : Int32) * p) + (1 : Int32)) = 3 * ix p + 1 from ixc (f := 3) (c := 1) hp (by decide) (by decide), (hQ.m h).1, LM_moon (by rw [(rd_ix hp hj).1]; exact (hQ.q (by omega)).2.2)]
  rfl
theorem rd_0 (hQ : LQ ξ τ) (hI : InvX ξ) (h : vp_in p (ix (ξ 26 0))) {j : Nat} (hj : j < ix (ξ 31 (ix p))) : M_ofReading ξ p (nI j) 0 = τ 6 (ix (((10 : Int32) * p) + nI j)) := by
  have hl := (rd_n hI (ix p)).2
  unfold M_ofReading M_ofReading_j64
  rw [rd_j hI h hj (q := 0) (vp_in_nI (n := 0) (by decide) (by decide)), if_pos (fails_0 ξ), if_pos rfl, rd_w hQ (vp_up h hQ.lim.2.2) (by omega), sEq.f ξ 0 32 (by decide)]
theorem rd_1 (hQ : LQ ξ τ) (hI : InvX ξ) (h : vp_in p (ix (ξ 26 0))) {j : Nat} (hj : j < ix (ξ 31 (ix p))) : M_ofReading ξ p (nI j) 1 = τ 6 (ix (((20 : Int32) + ((10 : Int32) * p)) + nI j)) := by
  have hl := (rd_n hI (ix p)).2
  unfold M_ofReading M_ofReading_j64
  rw [rd_j hI h hj (q := 1) (vp_in_nI (n := 1) (by decide) (by decide)), if_pos (fails_0 ξ), if_neg (by decide), if_pos rfl, rd_v hQ (vp_up h hQ.lim.2.2) (by omega), sEq.f ξ 0 33 (by decide)]
theorem rd_2 (hQ : LQ ξ τ) (hI : InvX ξ) (h : vp_in p (ix (ξ 26 0))) {j : Nat} (hj : j < ix (ξ 31 (ix p))) : M_ofReading ξ p (nI j) 2 = (((τ 6 (ix (((20 : Int32) + ((10 : Int32) * p)) + nI j))) - (L_moon (τ 6 (ix (((10 : Int32) * p) + nI j))))) - (20 : Int32)) - (τ 5 (ix (((3 : Int32) * p) + (1 : Int32)))) := by
  have hl := (rd_n hI (ix p)).2
  unfold M_ofReading M_ofReading_j64
  rw [rd_j hI h hj (q := 2) (vp_in_nI (n := 2) (by decide) (by decide)), if_pos (fails_0 ξ), if_neg (by decide), if_neg (by decide), rd_r hQ (vp_up h hQ.lim.2.2) (by omega)]
  rfl
theorem rd_R (hQ : LQ ξ τ) {k : Nat} (hk : k < 2) : τ 5 (ix (((3 : Int32) * (nI k)) + (2 : Int32))) = ξ 31 k := by
  have e := (hQ.m hk).2
  rw [show ix (((3 : Int32) * (nI k)) + (2 : Int32)) = 3 * k + 2 by
    rw [show (3 : Int32) = nI 3 from rfl, show (2 : Int32) = nI 2 from rfl, pk_mul, nI_add, ixn (by omega)]]
  exact e
theorem rd_17 (hI : InvX ξ) {k : Nat} (hk : k < 8) : DV_17 ξ (nI k) (ξ 31 k) 0 = -3000000 := by
  have e : M_isIn (ξ 31 k) 0 (ξ 31 k - 1) = 0 := Classical.byContradiction fun z => by
    have q := (isIn_iff.mp z).2
    obtain ⟨e, hl⟩ := rd_n hI k
    rw [rd_top hI] at q
    generalize ix (ξ 31 k) = r at *
    rw [e, nI_toInt (by omega)] at q
    omega
  have hj : M_ofReading_j34 ξ (nI k) (ξ 31 k) 0 = 1 := by
    have j5 : M_ofReading_j5 ξ (nI k) (ξ 31 k) 0 = 0 := by
      unfold M_ofReading_j5
      rw [ixn (by omega), e, if_pos (show (0 : Int32) = 0 from rfl)]
      split <;> rfl
    unfold M_ofReading_j34
    rw [if_pos j5]
  unfold DV_17 M_ofReading_s
  rw [hj, if_neg (nf1 ξ), f41, if_neg i10, if_pos rfl]
theorem tr_n (hI : InvX ξ) (h : vp_in p (ix (ξ 26 0))) : M_trend_j5 ξ p = (ξ 31 (ix p)).toInt64 ∧ (M_trend_j5 ξ p).toInt.toNat = ix (ξ 31 (ix p)) := by
  have e : M_trend_j5 ξ p = (ξ 31 (ix p)).toInt64 := by
    unfold M_trend_j5
    rw [if_neg (fun z => (meter_iff hI).mp z h)]
  refine ⟨e, ?_⟩
  obtain ⟨z, hl⟩ := rd_n hI (ix p)
  rw [e, Int32.toInt_toInt64]
  generalize ix (ξ 31 (ix p)) = r at *
  rw [z, nI_toInt (by omega)]
  rfl
theorem tr_end (hI : InvX ξ) (h : vp_in p (ix (ξ 26 0))) {t w b s : Int64} (h1 : ∀ K : Int64 → Int64 → Int64 → Int64 → Int64, K t w b s = M_trend_L35 ξ p K (ix (ξ 31 (ix p))) 0 0 0 0 0) (h2 : ∀ K : Int64 → Int64 → Int64 → Int64 → St, K t w b s = M_trend_L35_s ξ p K (ix (ξ 31 (ix p))) 0 0 0 0 0) :
    ¬ M_trend_s ξ p 41 0 = 1 ∧ (if M_trend_s ξ p 41 0 = 0 then M_trend ξ p else -99) = (if lg_cmp (((ξ 31 (ix p)).toInt64 * s) - (t * t)) (0 : Int64) = 0 then -99 else ((1000 : Int64) * (((ξ 31 (ix p)).toInt64 * b) - (t * w))) / (((ξ 31 (ix p)).toInt64 * s) - (t * t))) := by
  obtain ⟨e1, e2⟩ := tr_n hI h
  have a1 : M_trend ξ p = M_trend_j150 ξ p t w b s := by
    unfold M_trend
    rw [e2]
    exact (h1 (fun a b c d => M_trend_j150 ξ p a b c d)).symm
  have a2 : M_trend_s ξ p = M_fails_s ξ (M_trend_j128 ξ p t w b s) := by
    unfold M_trend_s
    rw [e2]
    exact (h2 (fun a b c d => M_fails_s ξ (M_trend_j128 ξ p a b c d))).symm
  rw [a1, a2, f41]
  unfold M_trend_j150 M_trend_j128
  rw [if_neg (fun z => (meter_iff hI).mp z h), e1]
  by_cases c : lg_cmp (((ξ 31 (ix p)).toInt64 * s) - (t * t)) (0 : Int64) = 0
  · rw [if_pos c, if_pos c]
    exact ⟨by decide, if_neg (by decide)⟩
  · rw [if_neg c, if_neg c]
    exact ⟨by decide, by rw [if_pos rfl, if_pos (fails_0 ξ)]⟩
end SOM
set_option maxRecDepth 100000 in
set_option maxHeartbeats 4000000 in
theorem so_m {K : KT} {h0 hx la : fH} {post : Option Value → fH → Prop} {px : String → fH → Prop} {r : Nat} {α : Nat → Nat} {σ ξ : St} {one two : Int32} (X : JX K yL_isSo.name yL_isSo.cls cL_isSo 31 (some .boolean) [] (Cond.code yL_isSo cL_isSo 31 (some .boolean)) rmSo h0 post px) (hIX : InvX ξ) (hIO : InvO ξ) (hQ : LQ ξ σ) (h1 : vp_in one 60000) (h2 : vp_in two 60000) (hLA : LA (kca K) la α σ) (hα : ∀ i j, i < 8 → j < 8 → α i = α j → i = j) (hap : apart hx la) (hX : RA (kca K) hx r ξ) (pl : Int32) (hpl : vp_in pl 64) (k : Nat) (hk : k < ix (ξ 26 0)) (c : Nat) (s : Nat) (hc : c ≤ 400) (hs : s ≤ 3000) (kE : ∀ hx' : fH, apart hx' la → RA (kca K) hx' r ξ → J K (un hx' la) [some (.ref r), some (.ref (α 0)), some (.ref (α 1)), some (.ref (α 2)), some (.ref (α 3)), some (.ref (α 4)), some (.ref (α 5)), some (.ref (α 6)), some (.ref (α 7)), some (.int one), some (.int two), some (.int pl), some (.int (1 : Int32)), none, none, some (.int (nI k)), none, none, none, none, none, none, none, none, none, none, none, none, none, none, none] [] 1228 (c + 95) (s + 570)) : J K (un hx la) [some (.ref r), some (.ref (α 0)), some (.ref (α 1)), some (.ref (α 2)), some (.ref (α 3)), some (.ref (α 4)), some (.ref (α 5)), some (.ref (α 6)), some (.ref (α 7)), some (.int one), some (.int two), some (.int pl), some (.int (1 : Int32)), none, none, some (.int (nI k)), none, none, none, none, none, none, none, none, none, none, none, none, none, none, none] [] 954 (c) (s) := by
  have hI := IL_of hQ hIX
  have hL : LH (kca K) hx (un hx la) α σ := ⟨la, rfl, hap, hLA, hα⟩
  have hm2 := hQ.lim.2.2
  have hk2 : k < 2 := by omega
  have hkv : vp_in (nI k) (ix (ξ 26 0)) := vp_in_nI hk (by omega)
  have hk22 : vp_in (nI k) 2 := vp_in_nI hk2 (by decide)
  have ik : ix (nI k) = k := ixn (by omega)
  obtain ⟨eR, hR10⟩ := rd_n hIX k
  refine J_aload_6 X dL_isSo_954 ?_
  refine J_iconst (v := 3) X dL_isSo_956 rfl ?_
  refine J_iload_15 X dL_isSo_957 ?_
  refine J_imul X dL_isSo_959 ?_
  refine J_iconst (v := 2) X dL_isSo_960 rfl ?_
  refine J_iadd X dL_isSo_961 ?_
  refine JL_ld X hL.la 5 (by decide) (vp_up (vr_add (vr_mul (vp_in_nI (n := 3) (N := 4) (by decide) (by decide)) (vp_in_nI (n := k) (N := 2) hk2 (by decide)) (by decide)) (vp_in_nI (n := 2) (N := 3) (by decide) (by decide)) (by decide)) (by decide)) dL_isSo_962 ?_
  refine J.eqi (rd_R hQ hk2) ?_
  refine J_istore_16 X dL_isSo_963 rfl (by decide) ?_
  refine J_iload_16 X dL_isSo_965 ?_
  refine J_i2l X dL_isSo_967 ?_
  refine J_lstore_17 X dL_isSo_968 rfl (by decide) ?_
  refine J_lconst (v := 0) X dL_isSo_970 rfl ?_
  refine J_lstore_19 X dL_isSo_971 rfl (by decide) ?_
  refine J_lconst (v := 0) X dL_isSo_973 rfl ?_
  refine J_lstore_21 X dL_isSo_974 rfl (by decide) ?_
  refine J_lconst (v := 0) X dL_isSo_976 rfl ?_
  refine J_lstore_23 X dL_isSo_977 rfl (by decide) ?_
  refine J_lconst (v := 0) X dL_isSo_979 rfl ?_
  refine J_lstore_25 X dL_isSo_980 rfl (by decide) ?_
  refine J_iconst (v := 0) X dL_isSo_982 rfl ?_
  refine J_istore_27 X dL_isSo_983 rfl (by decide) ?_
  have KX : ∀ (t w b z : Int64) (hx : fH), (∀ K : Int64 → Int64 → Int64 → Int64 → Int64, K t w b z = M_trend_L35 ξ (nI k) K (ix (ξ 31 k)) 0 0 0 0 0) → (∀ K : Int64 → Int64 → Int64 → Int64 → St, K t w b z = M_trend_L35_s ξ (nI k) K (ix (ξ 31 k)) 0 0 0 0 0) → apart hx la → RA (kca K) hx r ξ → J K (un hx la) [some (.ref r), some (.ref (α 0)), some (.ref (α 1)), some (.ref (α 2)), some (.ref (α 3)), some (.ref (α 4)), some (.ref (α 5)), some (.ref (α 6)), some (.ref (α 7)), some (.int one), some (.int two), some (.int pl), some (.int (1 : Int32)), none, none, some (.int (nI k)), some (.int (ξ 31 k)), some (.long (ξ 31 k).toInt64), none, some (.long t), none, some (.long w), none, some (.long b), none, some (.long z), none, none, none, none, none] [] 1144 (c + 90) (s + 540) := by
    intro t w b z hx hT1 hT2 hap hX
    have hL : LH (kca K) hx (un hx la) α σ := ⟨la, rfl, hap, hLA, hα⟩
    obtain ⟨tr1, tr2⟩ := tr_end hIX hkv (by rw [ik]; exact hT1) (by rw [ik]; exact hT2)
    rw [ik] at tr2
    refine J_lload_17 X dL_isSo_1144 ?_
    refine J_lload_25 X dL_isSo_1146 ?_
    refine J_lmul X dL_isSo_1148 ?_
    refine J_lload_19 X dL_isSo_1149 ?_
    refine J_lload_19 X dL_isSo_1151 ?_
    refine J_lmul X dL_isSo_1153 ?_
    refine J_lsub X dL_isSo_1154 ?_
    refine J_lstore_27 X dL_isSo_1155 rfl (by decide) ?_
    refine J_iload_12 X dL_isSo_1157 ?_
    refine J_if_eq (tgt := 1225) X dL_isSo_1159 (by decide) (fun c => absurd c (by decide)) (fun _ => ?_)
    refine J_aload_0 X dL_isSo_1162 ?_
    refine J_bipush (v := (17 : Int32)) X dL_isSo_1163 (by decide) ?_
    refine J_iload_15 X dL_isSo_1165 ?_
    refine J_iload_16 X dL_isSo_1167 ?_
    refine J_iconst (v := 0) X dL_isSo_1169 rfl ?_
    refine J_iconst (v := 0) X dL_isSo_1170 rfl ?_
    refine J_iconst (v := 0) X dL_isSo_1171 rfl ?_
    refine J_callSW X ((c_D_17 hX hIX hIO (nI k) (ξ 31 k) (0 : Int32) (0 : Int32) (0 : Int32)).frame hap) (And.intro gw_2_177 cw_L_does) rfl (hroom2 (show (c + 93) ≤ 1000 by omega) (show (s + 558) ≤ 6000 by omega)) (Nat.le_of_ble_eq_true rfl) dL_isSo_1172 rfl (fun v h11 e => ?_) (fun E h11 e => by obtain ⟨_, q, _⟩ := e; exact q.elim)
    obtain ⟨hx11, ⟨e0, hX11⟩, hap11, eh⟩ := e
    subst e0
    subst eh
    have hL11 : LH (kca K) hx11 (un hx11 la) α σ := ⟨la, rfl, hap11, hLA, hα⟩
    show J K (un hx11 la) [some (.ref r), some (.ref (α 0)), some (.ref (α 1)), some (.ref (α 2)), some (.ref (α 3)), some (.ref (α 4)), some (.ref (α 5)), some (.ref (α 6)), some (.ref (α 7)), some (.int one), some (.int two), some (.int pl), some (.int (1 : Int32)), none, none, some (.int (nI k)), some (.int (ξ 31 k)), some (.long (ξ 31 k).toInt64), none, some (.long t), none, some (.long w), none, some (.long b), none, some (.long z), none, some (.long (((ξ 31 k).toInt64 * z) - (t * t))), none, none, none] [.int (DV_17 ξ (nI k) (ξ 31 k) (0 : Int32))] 1175 (c + 93) (s + 558)
    refine J_ldc (v := (-3000000 : Int32)) X dL_isSo_1175 gw_4_72 ?_
    refine J_icmp_ne (tgt := 1225) X dL_isSo_1177 (by decide) (fun c => absurd (rd_17 hIX (by omega)) c) (fun _ => ?_)
    refine J_aload_0 X dL_isSo_1180 ?_
    refine J_iload_15 X dL_isSo_1181 ?_
    refine J_callSW X ((c_trended hX11 hIX hIO (nI k) tr1).frame hap11) (And.intro gw_4_137 cw_L_trended) rfl (hroom2 (show (c + 95) ≤ 1000 by omega) (show (s + 570) ≤ 6000 by omega)) (Nat.le_of_ble_eq_true rfl) dL_isSo_1183 rfl (fun v h12 e => ?_) (fun E h12 e => by obtain ⟨_, q, _⟩ := e; exact q.elim)
    obtain ⟨hx12, ⟨e0, hX12⟩, hap12, eh⟩ := e
    subst e0
    subst eh
    have hL12 : LH (kca K) hx12 (un hx12 la) α σ := ⟨la, rfl, hap12, hLA, hα⟩
    show J K (un hx12 la) [some (.ref r), some (.ref (α 0)), some (.ref (α 1)), some (.ref (α 2)), some (.ref (α 3)), some (.ref (α 4)), some (.ref (α 5)), some (.ref (α 6)), some (.ref (α 7)), some (.int one), some (.int two), some (.int pl), some (.int (1 : Int32)), none, none, some (.int (nI k)), some (.int (ξ 31 k)), some (.long (ξ 31 k).toInt64), none, some (.long t), none, some (.long w), none, some (.long b), none, some (.long z), none, some (.long (((ξ 31 k).toInt64 * z) - (t * t))), none, none, none] [.long (if M_trend_s ξ (nI k) 41 0 = 0 then M_trend ξ (nI k) else -99)] 1186 (c + 95) (s + 570)
    refine J_lload_27 X dL_isSo_1186 ?_
    refine J_lconst (v := 0) X dL_isSo_1188 rfl ?_
    refine J_lcmp X dL_isSo_1189 ?_
    suffices K1190 : J K (un hx12 la) [some (.ref r), some (.ref (α 0)), some (.ref (α 1)), some (.ref (α 2)), some (.ref (α 3)), some (.ref (α 4)), some (.ref (α 5)), some (.ref (α 6)), some (.ref (α 7)), some (.int one), some (.int two), some (.int pl), some (.int (1 : Int32)), none, none, some (.int (nI k)), some (.int (ξ 31 k)), some (.long (ξ 31 k).toInt64), none, some (.long t), none, some (.long w), none, some (.long b), none, some (.long z), none, some (.long (((ξ 31 k).toInt64 * z) - (t * t))), none, none, none] [.long (if (lg_cmp (((ξ 31 k).toInt64 * z) - (t * t)) (0 : Int64)) = (0 : Int32) then (-99 : Int64) else (((1000 : Int64) * (((ξ 31 k).toInt64 * b) - (t * w))) / (((ξ 31 k).toInt64 * z) - (t * t)))), .long (if M_trend_s ξ (nI k) 41 0 = 0 then M_trend ξ (nI k) else -99)] 1217 (c + 95) (s + 570) by
      refine J_if_ne (tgt := 1199) X dL_isSo_1190 (by decide) (fun c1190 => ?_) (fun c1190 => ?_)
      · skip
        refine J_ldc2 (v := 1000) X dL_isSo_1199 gw_4_155 ?_
        refine J_lload_17 X dL_isSo_1202 ?_
        refine J_lload_23 X dL_isSo_1204 ?_
        refine J_lmul X dL_isSo_1206 ?_
        refine J_lload_19 X dL_isSo_1207 ?_
        refine J_lload_21 X dL_isSo_1209 ?_
        refine J_lmul X dL_isSo_1211 ?_
        refine J_lsub X dL_isSo_1212 ?_
        refine J_lmul X dL_isSo_1213 ?_
        refine J_lload_27 X dL_isSo_1214 ?_
        refine J_ldiv X dL_isSo_1216 (fun z => c1190 (lg_eq z)) ?_
        refine J.eql (show (((1000 : Int64) * (((ξ 31 k).toInt64 * b) - (t * w))) / (((ξ 31 k).toInt64 * z) - (t * t))) = (if (lg_cmp (((ξ 31 k).toInt64 * z) - (t * t)) (0 : Int64)) = (0 : Int32) then (-99 : Int64) else (((1000 : Int64) * (((ξ 31 k).toInt64 * b) - (t * w))) / (((ξ 31 k).toInt64 * z) - (t * t)))) from (by rw [if_neg c1190])) ?_
        exact K1190
      · skip
        refine J_ldc2 (v := -99) X dL_isSo_1193 gw_4_154 ?_
        refine J_goto (tgt := 1217) X dL_isSo_1196 (by decide) ?_
        refine J.eql (show (-99 : Int64) = (if (lg_cmp (((ξ 31 k).toInt64 * z) - (t * t)) (0 : Int64)) = (0 : Int32) then (-99 : Int64) else (((1000 : Int64) * (((ξ 31 k).toInt64 * b) - (t * w))) / (((ξ 31 k).toInt64 * z) - (t * t)))) from (by rw [if_pos c1190])) ?_
        exact K1190
    refine J_lcmp X dL_isSo_1217 ?_
    refine J_if_ne (tgt := 1225) X dL_isSo_1218 (by decide) (fun c => absurd (lg_eq tr2) c) (fun _ => ?_)
    refine J_iconst (v := 1) X dL_isSo_1221 rfl ?_
    refine J_goto (tgt := 1226) X dL_isSo_1222 (by decide) ?_
    refine J_istore_12 X dL_isSo_1226 rfl (by decide) ?_
    refine J.subL (lv' := [some (.ref r), some (.ref (α 0)), some (.ref (α 1)), some (.ref (α 2)), some (.ref (α 3)), some (.ref (α 4)), some (.ref (α 5)), some (.ref (α 6)), some (.ref (α 7)), some (.int one), some (.int two), some (.int pl), some (.int (1 : Int32)), none, none, some (.int (nI k)), none, none, none, none, none, none, none, none, none, none, none, none, none, none, none]) (And.intro rfl (And.intro rfl (And.intro rfl (And.intro rfl (And.intro rfl (And.intro rfl (And.intro rfl (And.intro rfl (And.intro rfl (And.intro rfl (And.intro rfl (And.intro rfl (And.intro rfl (And.intro rfl trivial)))))))))))))) ?_
    exact kE hx12 hap12 hX12
  have L : ∀ (m j : Nat) (t w b z : Int64) (hx : fH), j + m = ix (ξ 31 k) → (∀ K : Int64 → Int64 → Int64 → Int64 → Int64, M_trend_L35 ξ (nI k) K m j t w b z = M_trend_L35 ξ (nI k) K (ix (ξ 31 k)) 0 0 0 0 0) → (∀ K : Int64 → Int64 → Int64 → Int64 → St, M_trend_L35_s ξ (nI k) K m j t w b z = M_trend_L35_s ξ (nI k) K (ix (ξ 31 k)) 0 0 0 0 0) → apart hx la → RA (kca K) hx r ξ → J K (un hx la) [some (.ref r), some (.ref (α 0)), some (.ref (α 1)), some (.ref (α 2)), some (.ref (α 3)), some (.ref (α 4)), some (.ref (α 5)), some (.ref (α 6)), some (.ref (α 7)), some (.int one), some (.int two), some (.int pl), some (.int (1 : Int32)), none, none, some (.int (nI k)), some (.int (ξ 31 k)), some (.long (ξ 31 k).toInt64), none, some (.long t), none, some (.long w), none, some (.long b), none, some (.long z), none, some (.int (nI j)), none, none, none] [] 985 (c + j * 9) (s + j * 54) := by
    intro m
    induction m with
    | zero =>
      intro j t w b z hx hj hT1 hT2 hap hX
      have hL : LH (kca K) hx (un hx la) α σ := ⟨la, rfl, hap, hLA, hα⟩
      refine J_iload_27 X dL_isSo_985 ?_
      refine J_iload_16 X dL_isSo_987 ?_
      refine J_icmp_ge (tgt := 1144) X dL_isSo_989 (by decide) (fun _ => ?_) (fun c => absurd (lp_exit eR (by omega) hj) c)
      refine J.subL (lv' := [some (.ref r), some (.ref (α 0)), some (.ref (α 1)), some (.ref (α 2)), some (.ref (α 3)), some (.ref (α 4)), some (.ref (α 5)), some (.ref (α 6)), some (.ref (α 7)), some (.int one), some (.int two), some (.int pl), some (.int (1 : Int32)), none, none, some (.int (nI k)), some (.int (ξ 31 k)), some (.long (ξ 31 k).toInt64), none, some (.long t), none, some (.long w), none, some (.long b), none, some (.long z), none, none, none, none, none]) (And.intro rfl (And.intro rfl (And.intro rfl (And.intro rfl (And.intro rfl (And.intro rfl (And.intro rfl (And.intro rfl (And.intro rfl (And.intro rfl (And.intro rfl (And.intro rfl (And.intro rfl (And.intro rfl (And.intro rfl (And.intro rfl (And.intro rfl (And.intro rfl (And.intro rfl (And.intro rfl trivial)))))))))))))))))))) ?_
      refine J.widen (k := (c + 90)) (j := (s + 540)) (by omega) (by omega) ?_
      exact KX t w b z hx (fun K => by rw [← hT1 K, M_trend_L35]) (fun K => by rw [← hT2 K, M_trend_L35_s]) hap hX
    | succ m ih =>
      intro j t w b z hx hj hT1 hT2 hap hX
      have hL : LH (kca K) hx (un hx la) α σ := ⟨la, rfl, hap, hLA, hα⟩
      have hj10 : j < 10 := by omega
      have hjr : j < ix (ξ 31 (ix (nI k))) := by rw [ik]; omega
      refine J_iload_27 X dL_isSo_985 ?_
      refine J_iload_16 X dL_isSo_987 ?_
      refine J_icmp_ge (tgt := 1144) X dL_isSo_989 (by decide) (fun c => absurd c (lp_stay eR (by omega) hj)) (fun _ => ?_)
      refine J_iload_12 X dL_isSo_992 ?_
      refine J_if_eq (tgt := 1144) X dL_isSo_994 (by decide) (fun c => absurd c (by decide)) (fun _ => ?_)
      refine J_aload_7 X dL_isSo_997 ?_
      refine J_bipush (v := (10 : Int32)) X dL_isSo_999 (by decide) ?_
      refine J_iload_15 X dL_isSo_1001 ?_
      refine J_imul X dL_isSo_1003 ?_
      refine J_iload_27 X dL_isSo_1004 ?_
      refine J_iadd X dL_isSo_1006 ?_
      refine JL_ld X hL.la 6 (by decide) (vp_up (vr_add (vr_mul (vp_in_nI (n := 10) (N := 11) (by decide) (by decide)) (vp_in_nI (n := k) (N := 2) hk2 (by decide)) (by decide)) (vp_in_nI (n := j) (N := 10) hj10 (by decide)) (by decide)) (by decide)) dL_isSo_1007 ?_
      refine J_istore_28 X dL_isSo_1008 rfl (by decide) ?_
      refine J_aload_7 X dL_isSo_1010 ?_
      refine J_bipush (v := (20 : Int32)) X dL_isSo_1012 (by decide) ?_
      refine J_bipush (v := (10 : Int32)) X dL_isSo_1014 (by decide) ?_
      refine J_iload_15 X dL_isSo_1016 ?_
      refine J_imul X dL_isSo_1018 ?_
      refine J_iadd X dL_isSo_1019 ?_
      refine J_iload_27 X dL_isSo_1020 ?_
      refine J_iadd X dL_isSo_1022 ?_
      refine JL_ld X hL.la 6 (by decide) (vp_up (vr_add (vr_add (vp_in_nI (n := 20) (N := 21) (by decide) (by decide)) (vr_mul (vp_in_nI (n := 10) (N := 11) (by decide) (by decide)) (vp_in_nI (n := k) (N := 2) hk2 (by decide)) (by decide)) (by decide)) (vp_in_nI (n := j) (N := 10) hj10 (by decide)) (by decide)) (by decide)) dL_isSo_1023 ?_
      refine J_istore_29 X dL_isSo_1024 rfl (by decide) ?_
      refine J_iload_29 X dL_isSo_1026 ?_
      refine J_iload_28 X dL_isSo_1028 ?_
      refine J_callS X (c_L_moon (σ 6 (ix (((10 : Int32) * (nI k)) + (nI j))))) (And.intro gw_4_134 cw_L_moon) rfl (hroom2 (show (c + j * 9) ≤ 1000 by omega) (show (s + j * 54) ≤ 6000 by omega)) (Nat.le_of_ble_eq_true rfl) dL_isSo_1030 rfl (J.pi ?_) JE.no
      refine J_isub X dL_isSo_1033 ?_
      refine J_bipush (v := (20 : Int32)) X dL_isSo_1034 (by decide) ?_
      refine J_isub X dL_isSo_1036 ?_
      refine J_aload_6 X dL_isSo_1037 ?_
      refine J_iconst (v := 3) X dL_isSo_1039 rfl ?_
      refine J_iload_15 X dL_isSo_1040 ?_
      refine J_imul X dL_isSo_1042 ?_
      refine J_iconst (v := 1) X dL_isSo_1043 rfl ?_
      refine J_iadd X dL_isSo_1044 ?_
      refine JL_ld X hL.la 5 (by decide) (vp_up (vr_add (vr_mul (vp_in_nI (n := 3) (N := 4) (by decide) (by decide)) (vp_in_nI (n := k) (N := 2) hk2 (by decide)) (by decide)) (vp_in_nI (n := 1) (N := 2) (by decide) (by decide)) (by decide)) (by decide)) dL_isSo_1045 ?_
      refine J_isub X dL_isSo_1046 ?_
      refine J_istore_30 X dL_isSo_1047 rfl (by decide) ?_
      refine J_aload_0 X dL_isSo_1049 ?_
      refine J_iload_15 X dL_isSo_1050 ?_
      refine J_iload_27 X dL_isSo_1052 ?_
      refine J_iconst (v := 0) X dL_isSo_1054 rfl ?_
      obtain ⟨vs, hroot⟩ := RA.root hX
      refine J_callV X ((c_Q_ofReading hX hIX hIO (nI k) (nI j) (0 : Int32) (rd_s hIX hkv hjr (vp_in_nI (n := 0) (N := 3) (by decide) (by decide)))).frame hap) (And.intro gw_4_39 cw_X10_ofReading) (un_l hroot) rfl rfl (hroom2 (show (c + j * 9 + 3) ≤ 1000 by omega) (show (s + j * 54 + 18) ≤ 6000 by omega)) (Nat.le_of_ble_eq_true rfl) dL_isSo_1055 rfl (fun v h13 e => ?_) (fun E h13 e => by obtain ⟨_, q, _⟩ := e; exact q.elim)
      obtain ⟨hx13, ⟨e0, hX13⟩, hap13, eh⟩ := e
      subst e0
      subst eh
      have hL13 : LH (kca K) hx13 (un hx13 la) α σ := ⟨la, rfl, hap13, hLA, hα⟩
      show J K (un hx13 la) [some (.ref r), some (.ref (α 0)), some (.ref (α 1)), some (.ref (α 2)), some (.ref (α 3)), some (.ref (α 4)), some (.ref (α 5)), some (.ref (α 6)), some (.ref (α 7)), some (.int one), some (.int two), some (.int pl), some (.int (1 : Int32)), none, none, some (.int (nI k)), some (.int (ξ 31 k)), some (.long (ξ 31 k).toInt64), none, some (.long t), none, some (.long w), none, some (.long b), none, some (.long z), none, some (.int (nI j)), some (.int (σ 6 (ix (((10 : Int32) * (nI k)) + (nI j))))), some (.int (σ 6 (ix (((20 : Int32) + ((10 : Int32) * (nI k))) + (nI j))))), some (.int ((((σ 6 (ix (((20 : Int32) + ((10 : Int32) * (nI k))) + (nI j)))) - (L_moon (σ 6 (ix (((10 : Int32) * (nI k)) + (nI j)))))) - (20 : Int32)) - (σ 5 (ix (((3 : Int32) * (nI k)) + (1 : Int32))))))] [.int (M_ofReading ξ (nI k) (nI j) (0 : Int32))] 1058 (c + j * 9 + 3) (s + j * 54 + 18)
      refine J_iload_28 X dL_isSo_1058 ?_
      refine J_icmp_ne (tgt := 1095) X dL_isSo_1060 (by decide) (fun c => absurd (rd_0 hQ hIX hkv hjr) c) (fun _ => ?_)
      refine J_aload_0 X dL_isSo_1063 ?_
      refine J_iload_15 X dL_isSo_1064 ?_
      refine J_iload_27 X dL_isSo_1066 ?_
      refine J_iconst (v := 1) X dL_isSo_1068 rfl ?_
      obtain ⟨vs, hroot⟩ := RA.root hX13
      refine J_callV X ((c_Q_ofReading hX13 hIX hIO (nI k) (nI j) (1 : Int32) (rd_s hIX hkv hjr (vp_in_nI (n := 1) (N := 3) (by decide) (by decide)))).frame hap13) (And.intro gw_4_39 cw_X10_ofReading) (un_l hroot) rfl rfl (hroom2 (show (c + j * 9 + 6) ≤ 1000 by omega) (show (s + j * 54 + 36) ≤ 6000 by omega)) (Nat.le_of_ble_eq_true rfl) dL_isSo_1069 rfl (fun v h14 e => ?_) (fun E h14 e => by obtain ⟨_, q, _⟩ := e; exact q.elim)
      obtain ⟨hx14, ⟨e0, hX14⟩, hap14, eh⟩ := e
      subst e0
      subst eh
      have hL14 : LH (kca K) hx14 (un hx14 la) α σ := ⟨la, rfl, hap14, hLA, hα⟩
      show J K (un hx14 la) [some (.ref r), some (.ref (α 0)), some (.ref (α 1)), some (.ref (α 2)), some (.ref (α 3)), some (.ref (α 4)), some (.ref (α 5)), some (.ref (α 6)), some (.ref (α 7)), some (.int one), some (.int two), some (.int pl), some (.int (1 : Int32)), none, none, some (.int (nI k)), some (.int (ξ 31 k)), some (.long (ξ 31 k).toInt64), none, some (.long t), none, some (.long w), none, some (.long b), none, some (.long z), none, some (.int (nI j)), some (.int (σ 6 (ix (((10 : Int32) * (nI k)) + (nI j))))), some (.int (σ 6 (ix (((20 : Int32) + ((10 : Int32) * (nI k))) + (nI j))))), some (.int ((((σ 6 (ix (((20 : Int32) + ((10 : Int32) * (nI k))) + (nI j)))) - (L_moon (σ 6 (ix (((10 : Int32) * (nI k)) + (nI j)))))) - (20 : Int32)) - (σ 5 (ix (((3 : Int32) * (nI k)) + (1 : Int32))))))] [.int (M_ofReading ξ (nI k) (nI j) (1 : Int32))] 1072 (c + j * 9 + 6) (s + j * 54 + 36)
      refine J_iload_29 X dL_isSo_1072 ?_
      refine J_icmp_ne (tgt := 1095) X dL_isSo_1074 (by decide) (fun c => absurd (rd_1 hQ hIX hkv hjr) c) (fun _ => ?_)
      refine J_aload_0 X dL_isSo_1077 ?_
      refine J_iload_15 X dL_isSo_1078 ?_
      refine J_iload_27 X dL_isSo_1080 ?_
      refine J_iconst (v := 2) X dL_isSo_1082 rfl ?_
      obtain ⟨vs, hroot⟩ := RA.root hX14
      refine J_callV X ((c_Q_ofReading hX14 hIX hIO (nI k) (nI j) (2 : Int32) (rd_s hIX hkv hjr (vp_in_nI (n := 2) (N := 3) (by decide) (by decide)))).frame hap14) (And.intro gw_4_39 cw_X10_ofReading) (un_l hroot) rfl rfl (hroom2 (show (c + j * 9 + 9) ≤ 1000 by omega) (show (s + j * 54 + 54) ≤ 6000 by omega)) (Nat.le_of_ble_eq_true rfl) dL_isSo_1083 rfl (fun v h15 e => ?_) (fun E h15 e => by obtain ⟨_, q, _⟩ := e; exact q.elim)
      obtain ⟨hx15, ⟨e0, hX15⟩, hap15, eh⟩ := e
      subst e0
      subst eh
      have hL15 : LH (kca K) hx15 (un hx15 la) α σ := ⟨la, rfl, hap15, hLA, hα⟩
      show J K (un hx15 la) [some (.ref r), some (.ref (α 0)), some (.ref (α 1)), some (.ref (α 2)), some (.ref (α 3)), some (.ref (α 4)), some (.ref (α 5)), some (.ref (α 6)), some (.ref (α 7)), some (.int one), some (.int two), some (.int pl), some (.int (1 : Int32)), none, none, some (.int (nI k)), some (.int (ξ 31 k)), some (.long (ξ 31 k).toInt64), none, some (.long t), none, some (.long w), none, some (.long b), none, some (.long z), none, some (.int (nI j)), some (.int (σ 6 (ix (((10 : Int32) * (nI k)) + (nI j))))), some (.int (σ 6 (ix (((20 : Int32) + ((10 : Int32) * (nI k))) + (nI j))))), some (.int ((((σ 6 (ix (((20 : Int32) + ((10 : Int32) * (nI k))) + (nI j)))) - (L_moon (σ 6 (ix (((10 : Int32) * (nI k)) + (nI j)))))) - (20 : Int32)) - (σ 5 (ix (((3 : Int32) * (nI k)) + (1 : Int32))))))] [.int (M_ofReading ξ (nI k) (nI j) (2 : Int32))] 1086 (c + j * 9 + 9) (s + j * 54 + 54)
      refine J_iload_30 X dL_isSo_1086 ?_
      refine J_icmp_ne (tgt := 1095) X dL_isSo_1088 (by decide) (fun c => absurd (rd_2 hQ hIX hkv hjr) c) (fun _ => ?_)
      refine J_iconst (v := 1) X dL_isSo_1091 rfl ?_
      refine J_goto (tgt := 1096) X dL_isSo_1092 (by decide) ?_
      refine J_istore_12 X dL_isSo_1096 rfl (by decide) ?_
      refine J_lload_19 X dL_isSo_1098 ?_
      refine J_iload_28 X dL_isSo_1100 ?_
      refine J_i2l X dL_isSo_1102 ?_
      refine J_ladd X dL_isSo_1103 ?_
      refine J_lstore_19 X dL_isSo_1104 rfl (by decide) ?_
      refine J_lload_21 X dL_isSo_1106 ?_
      refine J_iload_30 X dL_isSo_1108 ?_
      refine J_i2l X dL_isSo_1110 ?_
      refine J_ladd X dL_isSo_1111 ?_
      refine J_lstore_21 X dL_isSo_1112 rfl (by decide) ?_
      refine J_lload_23 X dL_isSo_1114 ?_
      refine J_iload_28 X dL_isSo_1116 ?_
      refine J_i2l X dL_isSo_1118 ?_
      refine J_iload_30 X dL_isSo_1119 ?_
      refine J_i2l X dL_isSo_1121 ?_
      refine J_lmul X dL_isSo_1122 ?_
      refine J_ladd X dL_isSo_1123 ?_
      refine J_lstore_23 X dL_isSo_1124 rfl (by decide) ?_
      refine J_lload_25 X dL_isSo_1126 ?_
      refine J_iload_28 X dL_isSo_1128 ?_
      refine J_i2l X dL_isSo_1130 ?_
      refine J_iload_28 X dL_isSo_1131 ?_
      refine J_i2l X dL_isSo_1133 ?_
      refine J_lmul X dL_isSo_1134 ?_
      refine J_ladd X dL_isSo_1135 ?_
      refine J_lstore_25 X dL_isSo_1136 rfl (by decide) ?_
      refine J_iinc_27 (v := (nI (j + 1))) X dL_isSo_1138 (nI_1 _) rfl (by decide) ?_
      refine J_goto (tgt := 985) X dL_isSo_1141 (by decide) ?_
      refine J.subL (lv' := [some (.ref r), some (.ref (α 0)), some (.ref (α 1)), some (.ref (α 2)), some (.ref (α 3)), some (.ref (α 4)), some (.ref (α 5)), some (.ref (α 6)), some (.ref (α 7)), some (.int one), some (.int two), some (.int pl), some (.int (1 : Int32)), none, none, some (.int (nI k)), some (.int (ξ 31 k)), some (.long (ξ 31 k).toInt64), none, some (.long (t + (σ 6 (ix (((10 : Int32) * (nI k)) + (nI j)))).toInt64)), none, some (.long (w + ((((σ 6 (ix (((20 : Int32) + ((10 : Int32) * (nI k))) + (nI j)))) - (L_moon (σ 6 (ix (((10 : Int32) * (nI k)) + (nI j)))))) - (20 : Int32)) - (σ 5 (ix (((3 : Int32) * (nI k)) + (1 : Int32))))).toInt64)), none, some (.long (b + ((σ 6 (ix (((10 : Int32) * (nI k)) + (nI j)))).toInt64 * ((((σ 6 (ix (((20 : Int32) + ((10 : Int32) * (nI k))) + (nI j)))) - (L_moon (σ 6 (ix (((10 : Int32) * (nI k)) + (nI j)))))) - (20 : Int32)) - (σ 5 (ix (((3 : Int32) * (nI k)) + (1 : Int32))))).toInt64))), none, some (.long (z + ((σ 6 (ix (((10 : Int32) * (nI k)) + (nI j)))).toInt64 * (σ 6 (ix (((10 : Int32) * (nI k)) + (nI j)))).toInt64))), none, some (.int (nI (j + 1))), none, none, none]) (And.intro rfl (And.intro rfl (And.intro rfl (And.intro rfl (And.intro rfl (And.intro rfl (And.intro rfl (And.intro rfl (And.intro rfl (And.intro rfl (And.intro rfl (And.intro rfl (And.intro rfl (And.intro rfl (And.intro rfl (And.intro rfl (And.intro rfl (And.intro rfl (And.intro rfl (And.intro rfl (And.intro rfl trivial))))))))))))))))))))) ?_
      refine J.widen (k := (c + (j + 1) * 9)) (j := (s + (j + 1) * 54)) (by omega) (by omega) ?_
      exact ih (j + 1) _ _ _ _ hx15 (by omega) (fun K => by rw [rd_r hQ hk22 hj10, rd_w hQ hk22 hj10, ← hT1 K, M_trend_L35]) (fun K => by rw [rd_r hQ hk22 hj10, rd_w hQ hk22 hj10, ← hT2 K, M_trend_L35_s]) hap15 hX15
  have z := L (ix (ξ 31 k)) 0 0 0 0 0 hx (Nat.zero_add _) (fun _ => rfl) (fun _ => rfl) hap hX
  simp only [Nat.zero_mul, Nat.add_zero] at z
  exact z
end
