noncomputable section
section SOW
variable {ξ τ : St} {p q b : Int32}
theorem way_all (h1 : vp_in p 64) (h2 : vp_in q 64) (hb : vp_in b 100001) : M_way_s ξ p q b 41 0 = 0 ∧ ∃ s57 s106 : St, wI (fun q => M_groundOf ξ (nI q) ≤ b) (ix p) 64 (s106 40) ∧ M_way ξ p q b = M_way_j275 ξ p q b s57 s106 := by
  have j4 : M_way_j4 ξ p q b = 1 := by
    unfold M_way_j4
    rw [if_neg (fun z => place_iff.mp z h1), if_neg (fun z => place_iff.mp z h2)]
  have hj : M_way_j24 ξ p q b = 0 := by
    unfold M_way_j24
    rw [j4, if_neg i10, if_neg (fun z => (isIn_n (a := 0) (b := 100000) (A := 0) (B := 100000) hb (by decide) rfl rfl (by decide) (by decide)).mp z ⟨Nat.zero_le _, by have := vp_lt hb; omega⟩)]
  unfold M_way M_way_s
  rw [hj]
  repeat rw [if_pos (fails_0 ξ)]
  rw [n64_eq]
  obtain ⟨s57, a1, a2, a3, a4, a5⟩ := w57 (σ := ξ) (p1 := p) (p2 := q) (b := b) (fun s57 => M_way_L106 ξ p q b s57 (fun s106 => M_way_j275 ξ p q b s57 s106) 64 0 s57) (fun s57 => M_way_L106_s ξ p q b s57 (fun s106 => s106) 64 0 s57) 64 0 (M_fails_s ξ 0) (Nat.zero_add _) (sEq.f ξ 0) (fun p hp => absurd hp (Nat.not_lt_zero _))
  rw [a4, a5]
  obtain ⟨s106, b1, b2, b3, b4, b5⟩ := w106 (σ := ξ) (p1 := p) (p2 := q) (b := b) (s57 := s57) (fun s106 => M_way_j275 ξ p q b s57 s106) (fun s106 => s106) 64 0 s57 (Nat.zero_add _) a1 (wI_0 h1 a3)
  rw [b4, b5]
  exact ⟨by rw [b2, a2]; exact f41 ξ 0, s57, s106, b3, rfl⟩
theorem way_s (h1 : vp_in p 64) (h2 : vp_in q 64) (hb : vp_in b 100001) : M_way_s ξ p q b 41 0 = 0 := (way_all h1 h2 hb).1
theorem way_self (hQ : LQ ξ τ) (hI : InvX ξ) (h1 : vp_in p 64) (hb : vp_in b 100001) : M_way ξ p p b = if b < L_ground τ p then (-1 : Int32) else (0 : Int32) := by
  obtain ⟨-, s57, s106, w, e⟩ := way_all (ξ := ξ) h1 h1 hb
  have l1 := vp_lt h1
  have ep := vp_nI' h1 (by decide)
  have z := w (ix p) l1
  have dk : (fun q => M_groundOf ξ (nI q) ≤ b) (ix p) ↔ M_groundOf ξ p ≤ b := by
    show M_groundOf ξ (nI (ix p)) ≤ b ↔ _
    rw [← ep]
  rw [e, LM_ground hQ hI h1]
  unfold M_way_j275
  by_cases c : M_groundOf ξ p ≤ b
  · rw [if_neg (not_lt32.mpr c)]
    rcases z.2 (dk.mpr c) with ⟨_, z⟩ | ⟨t, _, et, _, hu⟩
    · exact absurd ⟨rfl, dk.mpr c⟩ (z 0 (Nat.zero_le _))
    · have t0 : t = 0 := Classical.byContradiction fun n => hu 0 (by omega) ⟨rfl, dk.mpr c⟩
      rw [et, t0]
      rfl
  · rw [if_pos (Classical.byContradiction fun n => c (not_lt32.mp n)), z.1 (fun n => c (dk.mp n))]
    rfl
theorem way_adj (hI : InvX ξ) (h1 : vp_in p 64) (h2 : vp_in q 64) (ha : adj (ix q) (ix p)) (hb : vp_in b 100001) : (M_groundOf ξ p ≤ b → M_groundOf ξ q ≤ b → M_way ξ p q b = 1) ∧ (¬ (M_groundOf ξ p ≤ b ∧ M_groundOf ξ q ≤ b) → M_way ξ p q b = -1) := by
  obtain ⟨-, s57, s106, w, e⟩ := way_all (ξ := ξ) h1 h2 hb
  have l1 := vp_lt h1
  have l2 := vp_lt h2
  have ep := vp_nI' h1 (by decide)
  have eq := vp_nI' h2 (by decide)
  have z := w (ix q) l2
  have dp : (fun q => M_groundOf ξ (nI q) ≤ b) (ix p) ↔ M_groundOf ξ p ≤ b := by
    show M_groundOf ξ (nI (ix p)) ≤ b ↔ _
    rw [← ep]
  have dq : (fun q => M_groundOf ξ (nI q) ≤ b) (ix q) ↔ M_groundOf ξ q ≤ b := by
    show M_groundOf ξ (nI (ix q)) ≤ b ↔ _
    rw [← eq]
  rw [e]
  unfold M_way_j275
  refine ⟨fun c1 c2 => ?_, fun c => ?_⟩
  · have hr : wR (fun q => M_groundOf ξ (nI q) ≤ b) (ix p) 1 (ix q) := ⟨dq.mpr c2, ix p, l1, ha, rfl, dp.mpr c1⟩
    rcases z.2 (dq.mpr c2) with ⟨_, z⟩ | ⟨t, _, et, ht, hu⟩
    · exact absurd hr (z 1 (by decide))
    · have t1 : t = 1 := by
        have a : ¬ 1 < t := fun n => hu 1 n hr
        have b : t ≠ 0 := fun n => by
          rw [n] at ht
          have := ht.1
          unfold adj at ha
          omega
        omega
      rw [et, t1]
      rfl
  · by_cases c2 : M_groundOf ξ q ≤ b
    · have c1 : ¬ M_groundOf ξ p ≤ b := fun n => c ⟨n, c2⟩
      have nr : ∀ t x, ¬ wR (fun q => M_groundOf ξ (nI q) ≤ b) (ix p) t x := by
        intro t
        induction t with
        | zero => exact fun x h => c1 (dp.mp (h.1 ▸ h.2))
        | succ t ih => exact fun x h => by obtain ⟨_, y, _, _, hy⟩ := h; exact ih y hy
      rcases z.2 (dq.mpr c2) with ⟨et, _⟩ | ⟨t, _, _, ht, _⟩
      · rw [et]
        rfl
      · exact absurd ht (nr t _)
    · rw [z.1 (fun n => c2 (dq.mp n))]
      rfl
/-- the bound that the law asks with -/
def soBd (two : Int32) : Int32 := if two - two / (3 : Int32) * (3 : Int32) = 0 then two - two / (2000 : Int32) * (2000 : Int32) else 0
theorem soBd_in {two : Int32} (h2 : vp_in two 60000) : vp_in (soBd two) 100001 := by
  unfold soBd
  split
  · exact vp_up (vr_rem (c := 2000) h2 (by decide) (by decide) (by decide)) (by decide)
  · exact vp_in_nI (n := 0) (by decide) (by decide)
/-- the place beside -/
def soBs (p : Int32) : Int32 := if p - p / (8 : Int32) * (8 : Int32) = 7 then p - 1 else p + 1
theorem soBs_in (h : vp_in p 64) : vp_in (soBs p) 64 ∧ adj (ix (soBs p)) (ix p) := by
  obtain ⟨j, hj, e⟩ := vn h (by decide)
  subst e
  unfold soBs
  rw [show (8 : Int32) = nI 8 from rfl, show (7 : Int32) = nI 7 from rfl, pk_rem (by omega) (by decide) (by decide), show (1 : Int32) = nI 1 from rfl, nI_add]
  by_cases c : j % 8 = 7
  · rw [if_pos (by rw [c]), pk_sub (by omega), ixn (by omega), ixn (by omega)]
    refine ⟨vp_in_nI (by omega) (by decide), ?_⟩
    unfold adj
    omega
  · rw [if_neg (fun z => c ((nI_eq (by omega) (by omega)).mp z)), ixn (by omega), ixn (by omega)]
    refine ⟨vp_in_nI (by omega) (by decide), ?_⟩
    unfold adj
    omega
theorem way_can (hQ : LQ ξ τ) (hI : InvX ξ) (h1 : vp_in p 64) (hb : vp_in b 100001) : (if b < L_ground τ p then (0 : Int32) else (if b < L_ground τ (soBs p) then (0 : Int32) else (1 : Int32))) = (if M_way ξ p (soBs p) b = 1 then (1 : Int32) else (0 : Int32)) := by
  obtain ⟨h2, ha⟩ := soBs_in h1
  obtain ⟨w1, w2⟩ := way_adj hI h1 h2 ha hb
  rw [LM_ground hQ hI h1, LM_ground hQ hI h2]
  by_cases c1 : M_groundOf ξ p ≤ b
  · rw [if_neg (not_lt32.mpr c1)]
    by_cases c2 : M_groundOf ξ (soBs p) ≤ b
    · rw [if_neg (not_lt32.mpr c2), w1 c1 c2, if_pos rfl]
    · rw [if_pos (Classical.byContradiction fun n => c2 (not_lt32.mp n)), w2 (fun z => c2 z.2), if_neg (by decide)]
  · rw [if_pos (Classical.byContradiction fun n => c1 (not_lt32.mp n)), w2 (fun z => c1 z.1), if_neg (by decide)]
theorem way_sym (hI : InvX ξ) (h1 : vp_in p 64) (hb : vp_in b 100001) : M_way ξ (soBs p) p b = M_way ξ p (soBs p) b := by
  obtain ⟨h2, ha⟩ := soBs_in h1
  obtain ⟨w1, w2⟩ := way_adj hI h1 h2 ha hb
  obtain ⟨v1, v2⟩ := way_adj hI h2 h1 (adj_symm ha) hb
  by_cases c : M_groundOf ξ p ≤ b ∧ M_groundOf ξ (soBs p) ≤ b
  · rw [w1 c.1 c.2, v1 c.2 c.1]
  · rw [w2 c, v2 (fun z => c ⟨z.2, z.1⟩)]
theorem dv14 (hQ : LQ ξ τ) (hI : InvX ξ) : DV_14 ξ (τ 7 (ix (3 : Int32))) 0 = -3000000 := by
  have hj : M_ofLamp_j6 ξ (τ 7 (ix (3 : Int32))) 0 = 1 := by
    unfold M_ofLamp_j6
    rw [show τ 7 (ix (3 : Int32)) = ξ 13 0 from hQ.g.2.2.2.1]
    exact if_pos ((lamp_iff hI).mpr fun z => absurd (vp_lt z) (Nat.lt_irrefl _))
  unfold DV_14 M_ofLamp_s
  rw [hj, if_neg (nf1 ξ), f41, if_neg i10, if_pos rfl]
end SOW
set_option maxRecDepth 100000 in
set_option maxHeartbeats 4000000 in
theorem so_w {K : KT} {h0 hx la : fH} {post : Option Value → fH → Prop} {px : String → fH → Prop} {r : Nat} {α : Nat → Nat} {σ ξ : St} {one two : Int32} (X : JX K yL_isSo.name yL_isSo.cls cL_isSo 31 (some .boolean) [] (Cond.code yL_isSo cL_isSo 31 (some .boolean)) rmSo h0 post px) (hIX : InvX ξ) (hIO : InvO ξ) (hQ : LQ ξ σ) (h1 : vp_in one 60000) (h2 : vp_in two 60000) (hLA : LA (kca K) la α σ) (hα : ∀ i j, i < 8 → j < 8 → α i = α j → i = j) (hap : apart hx la) (hX : RA (kca K) hx r ξ) (pl : Int32) (hpl : vp_in pl 64) (hpost : ∀ hx' : fH, apart hx' la → RA (kca K) hx' r ξ → post (some (.int 1)) (un hx' la)) : J K (un hx la) [some (.ref r), some (.ref (α 0)), some (.ref (α 1)), some (.ref (α 2)), some (.ref (α 3)), some (.ref (α 4)), some (.ref (α 5)), some (.ref (α 6)), some (.ref (α 7)), some (.int one), some (.int two), some (.int pl), some (.int (1 : Int32)), none, none, none, none, none, none, none, none, none, none, none, none, none, none, none, none, none, none] [] 1234 377 2262 := by
  have hI := IL_of hQ hIX
  have hL : LH (kca K) hx (un hx la) α σ := ⟨la, rfl, hap, hLA, hα⟩
  have hbd := soBd_in h2
  obtain ⟨hbs, _⟩ := soBs_in hpl
  refine J_iload_10 X dL_isSo_1234 ?_
  refine J_iconst (v := 3) X dL_isSo_1236 rfl ?_
  refine J_irem X dL_isSo_1237 (by decide) ?_
  suffices K1238 : J K (un hx la) [some (.ref r), some (.ref (α 0)), some (.ref (α 1)), some (.ref (α 2)), some (.ref (α 3)), some (.ref (α 4)), some (.ref (α 5)), some (.ref (α 6)), some (.ref (α 7)), some (.int one), some (.int two), some (.int pl), some (.int (1 : Int32)), none, none, none, none, none, none, none, none, none, none, none, none, none, none, none, none, none, none] [.int (soBd two)] 1251 377 2262 by
    refine J_if_ne (tgt := 1250) X dL_isSo_1238 (by decide) (fun c1238 => ?_) (fun c1238 => ?_)
    · skip
      refine J_iconst (v := 0) X dL_isSo_1250 rfl ?_
      refine J.eqi (show (0 : Int32) = (soBd two) from (by unfold soBd; rw [if_neg c1238])) ?_
      exact K1238
    · skip
      refine J_iload_10 X dL_isSo_1241 ?_
      refine J_sipush (v := (2000 : Int32)) X dL_isSo_1243 (by decide) ?_
      refine J_irem X dL_isSo_1246 (by decide) ?_
      refine J_goto (tgt := 1251) X dL_isSo_1247 (by decide) ?_
      refine J.eqi (show (two - two / (2000 : Int32) * (2000 : Int32)) = (soBd two) from (by unfold soBd; rw [if_pos c1238])) ?_
      exact K1238
  refine J_istore_15 X dL_isSo_1251 rfl (by decide) ?_
  refine J_aload_1 X dL_isSo_1253 ?_
  refine J_aload_2 X dL_isSo_1254 ?_
  refine J_aload_3 X dL_isSo_1255 ?_
  refine J_aload_4 X dL_isSo_1256 ?_
  refine J_aload_8 X dL_isSo_1258 ?_
  refine J_iload_11 X dL_isSo_1260 ?_
  refine J_callS X (c_L_ground hL.la hI pl (vp_up hpl (by decide))) (And.intro gw_4_130 cw_L_ground) rfl rfl (Nat.le_of_ble_eq_true rfl) dL_isSo_1262 rfl (J.pi ?_) JE.no
  refine J_istore_16 X dL_isSo_1265 rfl (by decide) ?_
  refine J_iload_11 X dL_isSo_1267 ?_
  refine J_bipush (v := (8 : Int32)) X dL_isSo_1269 (by decide) ?_
  refine J_irem X dL_isSo_1271 (by decide) ?_
  refine J_bipush (v := (7 : Int32)) X dL_isSo_1272 (by decide) ?_
  suffices K1274 : J K (un hx la) [some (.ref r), some (.ref (α 0)), some (.ref (α 1)), some (.ref (α 2)), some (.ref (α 3)), some (.ref (α 4)), some (.ref (α 5)), some (.ref (α 6)), some (.ref (α 7)), some (.int one), some (.int two), some (.int pl), some (.int (1 : Int32)), none, none, some (.int (soBd two)), some (.int (L_ground σ pl)), none, none, none, none, none, none, none, none, none, none, none, none, none, none] [.int (soBs pl)] 1288 377 2262 by
    refine J_icmp_ne (tgt := 1284) X dL_isSo_1274 (by decide) (fun c1274 => ?_) (fun c1274 => ?_)
    · skip
      refine J_iload_11 X dL_isSo_1284 ?_
      refine J_iconst (v := 1) X dL_isSo_1286 rfl ?_
      refine J_iadd X dL_isSo_1287 ?_
      refine J.eqi (show (pl + (1 : Int32)) = (soBs pl) from (by unfold soBs; rw [if_neg c1274])) ?_
      exact K1274
    · skip
      refine J_iload_11 X dL_isSo_1277 ?_
      refine J_iconst (v := 1) X dL_isSo_1279 rfl ?_
      refine J_isub X dL_isSo_1280 ?_
      refine J_goto (tgt := 1288) X dL_isSo_1281 (by decide) ?_
      refine J.eqi (show (pl - (1 : Int32)) = (soBs pl) from (by unfold soBs; rw [if_pos c1274])) ?_
      exact K1274
  refine J_istore_17 X dL_isSo_1288 rfl (by decide) ?_
  refine J_iload_16 X dL_isSo_1290 ?_
  refine J_iload_15 X dL_isSo_1292 ?_
  suffices K1294 : J K (un hx la) [some (.ref r), some (.ref (α 0)), some (.ref (α 1)), some (.ref (α 2)), some (.ref (α 3)), some (.ref (α 4)), some (.ref (α 5)), some (.ref (α 6)), some (.ref (α 7)), some (.int one), some (.int two), some (.int pl), some (.int (1 : Int32)), none, none, some (.int (soBd two)), some (.int (L_ground σ pl)), some (.int (soBs pl)), none, none, none, none, none, none, none, none, none, none, none, none, none] [.int (if (soBd two) < (L_ground σ pl) then (0 : Int32) else (if (soBd two) < (L_ground σ (soBs pl)) then (0 : Int32) else (1 : Int32)))] 1319 377 2262 by
    refine J_icmp_gt (tgt := 1318) X dL_isSo_1294 (by decide) (fun c1294 => ?_) (fun c1294 => ?_)
    · skip
      refine J_iconst (v := 0) X dL_isSo_1318 rfl ?_
      refine J.eqi (show (0 : Int32) = (if (soBd two) < (L_ground σ pl) then (0 : Int32) else (if (soBd two) < (L_ground σ (soBs pl)) then (0 : Int32) else (1 : Int32))) from (by rw [if_pos c1294])) ?_
      exact K1294
    · skip
      refine J_aload_1 X dL_isSo_1297 ?_
      refine J_aload_2 X dL_isSo_1298 ?_
      refine J_aload_3 X dL_isSo_1299 ?_
      refine J_aload_4 X dL_isSo_1300 ?_
      refine J_aload_8 X dL_isSo_1302 ?_
      refine J_iload_17 X dL_isSo_1304 ?_
      refine J_callS X (c_L_ground hL.la hI (soBs pl) (vp_up hbs (by decide))) (And.intro gw_4_130 cw_L_ground) rfl rfl (Nat.le_of_ble_eq_true rfl) dL_isSo_1306 rfl (J.pi ?_) JE.no
      refine J_iload_15 X dL_isSo_1309 ?_
      refine J_icmp_gt (tgt := 1318) X dL_isSo_1311 (by decide) (fun c1311 => ?_) (fun c1311 => ?_)
      · skip
        refine J_iconst (v := 0) X dL_isSo_1318 rfl ?_
        refine J.eqi (show (0 : Int32) = (if (soBd two) < (L_ground σ pl) then (0 : Int32) else (if (soBd two) < (L_ground σ (soBs pl)) then (0 : Int32) else (1 : Int32))) from (by rw [if_neg c1294, if_pos c1311])) ?_
        exact K1294
      · skip
        refine J_iconst (v := 1) X dL_isSo_1314 rfl ?_
        refine J_goto (tgt := 1319) X dL_isSo_1315 (by decide) ?_
        refine J.eqi (show (1 : Int32) = (if (soBd two) < (L_ground σ pl) then (0 : Int32) else (if (soBd two) < (L_ground σ (soBs pl)) then (0 : Int32) else (1 : Int32))) from (by rw [if_neg c1294, if_neg c1311])) ?_
        exact K1294
  refine J_istore_18 X dL_isSo_1319 rfl (by decide) ?_
  refine J_iload_12 X dL_isSo_1321 ?_
  refine J_if_eq (tgt := 1421) X dL_isSo_1323 (by decide) (fun c => absurd c (by decide)) (fun _ => ?_)
  refine J_aload_0 X dL_isSo_1326 ?_
  refine J_iload_11 X dL_isSo_1327 ?_
  refine J_iload_11 X dL_isSo_1329 ?_
  refine J_iload_15 X dL_isSo_1331 ?_
  obtain ⟨vs, hroot⟩ := RA.root hX
  refine J_callV X ((c_Q_way hX hIX hIO pl pl (soBd two) (way_s hpl hpl hbd)).frame hap) (And.intro gw_4_10 cw_X10_way) (un_l hroot) rfl rfl rfl (Nat.le_of_ble_eq_true rfl) dL_isSo_1333 rfl (fun v h11 e => ?_) (fun E h11 e => by obtain ⟨_, q, _⟩ := e; exact q.elim)
  obtain ⟨hx11, ⟨e0, hX11⟩, hap11, eh⟩ := e
  subst e0
  subst eh
  have hL11 : LH (kca K) hx11 (un hx11 la) α σ := ⟨la, rfl, hap11, hLA, hα⟩
  show J K (un hx11 la) [some (.ref r), some (.ref (α 0)), some (.ref (α 1)), some (.ref (α 2)), some (.ref (α 3)), some (.ref (α 4)), some (.ref (α 5)), some (.ref (α 6)), some (.ref (α 7)), some (.int one), some (.int two), some (.int pl), some (.int (1 : Int32)), none, none, some (.int (soBd two)), some (.int (L_ground σ pl)), some (.int (soBs pl)), some (.int (if (soBd two) < (L_ground σ pl) then (0 : Int32) else (if (soBd two) < (L_ground σ (soBs pl)) then (0 : Int32) else (1 : Int32)))), none, none, none, none, none, none, none, none, none, none, none, none] [.int (M_way ξ pl pl (soBd two))] 1336 380 2280
  refine J_iload_16 X dL_isSo_1336 ?_
  refine J_iload_15 X dL_isSo_1338 ?_
  suffices K1340 : J K (un hx11 la) [some (.ref r), some (.ref (α 0)), some (.ref (α 1)), some (.ref (α 2)), some (.ref (α 3)), some (.ref (α 4)), some (.ref (α 5)), some (.ref (α 6)), some (.ref (α 7)), some (.int one), some (.int two), some (.int pl), some (.int (1 : Int32)), none, none, some (.int (soBd two)), some (.int (L_ground σ pl)), some (.int (soBs pl)), some (.int (if (soBd two) < (L_ground σ pl) then (0 : Int32) else (if (soBd two) < (L_ground σ (soBs pl)) then (0 : Int32) else (1 : Int32)))), none, none, none, none, none, none, none, none, none, none, none, none] [.int (if (soBd two) < (L_ground σ pl) then (-1 : Int32) else (0 : Int32)), .int (M_way ξ pl pl (soBd two))] 1348 380 2280 by
    refine J_icmp_gt (tgt := 1347) X dL_isSo_1340 (by decide) (fun c1340 => ?_) (fun c1340 => ?_)
    · skip
      refine J_iconst (v := -1) X dL_isSo_1347 rfl ?_
      refine J.eqi (show (-1 : Int32) = (if (soBd two) < (L_ground σ pl) then (-1 : Int32) else (0 : Int32)) from (by rw [if_pos c1340])) ?_
      exact K1340
    · skip
      refine J_iconst (v := 0) X dL_isSo_1343 rfl ?_
      refine J_goto (tgt := 1348) X dL_isSo_1344 (by decide) ?_
      refine J.eqi (show (0 : Int32) = (if (soBd two) < (L_ground σ pl) then (-1 : Int32) else (0 : Int32)) from (by rw [if_neg c1340])) ?_
      exact K1340
  refine J_icmp_ne (tgt := 1421) X dL_isSo_1348 (by decide) (fun c => absurd (way_self hQ hIX hpl hbd) c) (fun _ => ?_)
  refine J_iload_18 X dL_isSo_1351 ?_
  refine J_aload_0 X dL_isSo_1353 ?_
  refine J_iload_11 X dL_isSo_1354 ?_
  refine J_iload_17 X dL_isSo_1356 ?_
  refine J_iload_15 X dL_isSo_1358 ?_
  obtain ⟨vs, hroot⟩ := RA.root hX11
  refine J_callV X ((c_Q_way hX11 hIX hIO pl (soBs pl) (soBd two) (way_s hpl hbs hbd)).frame hap11) (And.intro gw_4_10 cw_X10_way) (un_l hroot) rfl rfl rfl (Nat.le_of_ble_eq_true rfl) dL_isSo_1360 rfl (fun v h12 e => ?_) (fun E h12 e => by obtain ⟨_, q, _⟩ := e; exact q.elim)
  obtain ⟨hx12, ⟨e0, hX12⟩, hap12, eh⟩ := e
  subst e0
  subst eh
  have hL12 : LH (kca K) hx12 (un hx12 la) α σ := ⟨la, rfl, hap12, hLA, hα⟩
  show J K (un hx12 la) [some (.ref r), some (.ref (α 0)), some (.ref (α 1)), some (.ref (α 2)), some (.ref (α 3)), some (.ref (α 4)), some (.ref (α 5)), some (.ref (α 6)), some (.ref (α 7)), some (.int one), some (.int two), some (.int pl), some (.int (1 : Int32)), none, none, some (.int (soBd two)), some (.int (L_ground σ pl)), some (.int (soBs pl)), some (.int (if (soBd two) < (L_ground σ pl) then (0 : Int32) else (if (soBd two) < (L_ground σ (soBs pl)) then (0 : Int32) else (1 : Int32)))), none, none, none, none, none, none, none, none, none, none, none, none] [.int (M_way ξ pl (soBs pl) (soBd two)), .int (if (soBd two) < (L_ground σ pl) then (0 : Int32) else (if (soBd two) < (L_ground σ (soBs pl)) then (0 : Int32) else (1 : Int32)))] 1363 383 2298
  refine J_iconst (v := 1) X dL_isSo_1363 rfl ?_
  suffices K1364 : J K (un hx12 la) [some (.ref r), some (.ref (α 0)), some (.ref (α 1)), some (.ref (α 2)), some (.ref (α 3)), some (.ref (α 4)), some (.ref (α 5)), some (.ref (α 6)), some (.ref (α 7)), some (.int one), some (.int two), some (.int pl), some (.int (1 : Int32)), none, none, some (.int (soBd two)), some (.int (L_ground σ pl)), some (.int (soBs pl)), some (.int (if (soBd two) < (L_ground σ pl) then (0 : Int32) else (if (soBd two) < (L_ground σ (soBs pl)) then (0 : Int32) else (1 : Int32)))), none, none, none, none, none, none, none, none, none, none, none, none] [.int (if (M_way ξ pl (soBs pl) (soBd two)) = (1 : Int32) then (1 : Int32) else (0 : Int32)), .int (if (soBd two) < (L_ground σ pl) then (0 : Int32) else (if (soBd two) < (L_ground σ (soBs pl)) then (0 : Int32) else (1 : Int32)))] 1372 383 2298 by
    refine J_icmp_ne (tgt := 1371) X dL_isSo_1364 (by decide) (fun c1364 => ?_) (fun c1364 => ?_)
    · skip
      refine J_iconst (v := 0) X dL_isSo_1371 rfl ?_
      refine J.eqi (show (0 : Int32) = (if (M_way ξ pl (soBs pl) (soBd two)) = (1 : Int32) then (1 : Int32) else (0 : Int32)) from (by rw [if_neg c1364])) ?_
      exact K1364
    · skip
      refine J_iconst (v := 1) X dL_isSo_1367 rfl ?_
      refine J_goto (tgt := 1372) X dL_isSo_1368 (by decide) ?_
      refine J.eqi (show (1 : Int32) = (if (M_way ξ pl (soBs pl) (soBd two)) = (1 : Int32) then (1 : Int32) else (0 : Int32)) from (by rw [if_pos c1364])) ?_
      exact K1364
  refine J_icmp_ne (tgt := 1421) X dL_isSo_1372 (by decide) (fun c => absurd (way_can hQ hIX hpl hbd) c) (fun _ => ?_)
  refine J_aload_0 X dL_isSo_1375 ?_
  refine J_iload_17 X dL_isSo_1376 ?_
  refine J_iload_11 X dL_isSo_1378 ?_
  refine J_iload_15 X dL_isSo_1380 ?_
  obtain ⟨vs, hroot⟩ := RA.root hX12
  refine J_callV X ((c_Q_way hX12 hIX hIO (soBs pl) pl (soBd two) (way_s hbs hpl hbd)).frame hap12) (And.intro gw_4_10 cw_X10_way) (un_l hroot) rfl rfl rfl (Nat.le_of_ble_eq_true rfl) dL_isSo_1382 rfl (fun v h13 e => ?_) (fun E h13 e => by obtain ⟨_, q, _⟩ := e; exact q.elim)
  obtain ⟨hx13, ⟨e0, hX13⟩, hap13, eh⟩ := e
  subst e0
  subst eh
  have hL13 : LH (kca K) hx13 (un hx13 la) α σ := ⟨la, rfl, hap13, hLA, hα⟩
  show J K (un hx13 la) [some (.ref r), some (.ref (α 0)), some (.ref (α 1)), some (.ref (α 2)), some (.ref (α 3)), some (.ref (α 4)), some (.ref (α 5)), some (.ref (α 6)), some (.ref (α 7)), some (.int one), some (.int two), some (.int pl), some (.int (1 : Int32)), none, none, some (.int (soBd two)), some (.int (L_ground σ pl)), some (.int (soBs pl)), some (.int (if (soBd two) < (L_ground σ pl) then (0 : Int32) else (if (soBd two) < (L_ground σ (soBs pl)) then (0 : Int32) else (1 : Int32)))), none, none, none, none, none, none, none, none, none, none, none, none] [.int (M_way ξ (soBs pl) pl (soBd two))] 1385 386 2316
  refine J_aload_0 X dL_isSo_1385 ?_
  refine J_iload_11 X dL_isSo_1386 ?_
  refine J_iload_17 X dL_isSo_1388 ?_
  refine J_iload_15 X dL_isSo_1390 ?_
  obtain ⟨vs, hroot⟩ := RA.root hX13
  refine J_callV X ((c_Q_way hX13 hIX hIO pl (soBs pl) (soBd two) (way_s hpl hbs hbd)).frame hap13) (And.intro gw_4_10 cw_X10_way) (un_l hroot) rfl rfl rfl (Nat.le_of_ble_eq_true rfl) dL_isSo_1392 rfl (fun v h14 e => ?_) (fun E h14 e => by obtain ⟨_, q, _⟩ := e; exact q.elim)
  obtain ⟨hx14, ⟨e0, hX14⟩, hap14, eh⟩ := e
  subst e0
  subst eh
  have hL14 : LH (kca K) hx14 (un hx14 la) α σ := ⟨la, rfl, hap14, hLA, hα⟩
  show J K (un hx14 la) [some (.ref r), some (.ref (α 0)), some (.ref (α 1)), some (.ref (α 2)), some (.ref (α 3)), some (.ref (α 4)), some (.ref (α 5)), some (.ref (α 6)), some (.ref (α 7)), some (.int one), some (.int two), some (.int pl), some (.int (1 : Int32)), none, none, some (.int (soBd two)), some (.int (L_ground σ pl)), some (.int (soBs pl)), some (.int (if (soBd two) < (L_ground σ pl) then (0 : Int32) else (if (soBd two) < (L_ground σ (soBs pl)) then (0 : Int32) else (1 : Int32)))), none, none, none, none, none, none, none, none, none, none, none, none] [.int (M_way ξ pl (soBs pl) (soBd two)), .int (M_way ξ (soBs pl) pl (soBd two))] 1395 389 2334
  refine J_icmp_ne (tgt := 1421) X dL_isSo_1395 (by decide) (fun c => absurd (way_sym hIX hpl hbd) c) (fun _ => ?_)
  refine J_aload_0 X dL_isSo_1398 ?_
  refine J_bipush (v := (14 : Int32)) X dL_isSo_1399 (by decide) ?_
  refine J_aload_8 X dL_isSo_1401 ?_
  refine J_iconst (v := 3) X dL_isSo_1403 rfl ?_
  refine JL_ld X hL14.la 7 (by decide) (vp_up (vp_in_nI (n := 3) (N := 4) (by decide) (by decide)) (by decide)) dL_isSo_1404 ?_
  refine J_iconst (v := 0) X dL_isSo_1405 rfl ?_
  refine J_iconst (v := 0) X dL_isSo_1406 rfl ?_
  refine J_iconst (v := 0) X dL_isSo_1407 rfl ?_
  refine J_iconst (v := 0) X dL_isSo_1408 rfl ?_
  refine J_callSW X ((c_D_14 hX14 hIX hIO (σ 7 (ix (3 : Int32))) (0 : Int32) (0 : Int32) (0 : Int32) (0 : Int32)).frame hap14) (And.intro gw_2_177 cw_L_does) rfl rfl (Nat.le_of_ble_eq_true rfl) dL_isSo_1409 rfl (fun v h15 e => ?_) (fun E h15 e => by obtain ⟨_, q, _⟩ := e; exact q.elim)
  obtain ⟨hx15, ⟨e0, hX15⟩, hap15, eh⟩ := e
  subst e0
  subst eh
  have hL15 : LH (kca K) hx15 (un hx15 la) α σ := ⟨la, rfl, hap15, hLA, hα⟩
  show J K (un hx15 la) [some (.ref r), some (.ref (α 0)), some (.ref (α 1)), some (.ref (α 2)), some (.ref (α 3)), some (.ref (α 4)), some (.ref (α 5)), some (.ref (α 6)), some (.ref (α 7)), some (.int one), some (.int two), some (.int pl), some (.int (1 : Int32)), none, none, some (.int (soBd two)), some (.int (L_ground σ pl)), some (.int (soBs pl)), some (.int (if (soBd two) < (L_ground σ pl) then (0 : Int32) else (if (soBd two) < (L_ground σ (soBs pl)) then (0 : Int32) else (1 : Int32)))), none, none, none, none, none, none, none, none, none, none, none, none] [.int (DV_14 ξ (σ 7 (ix (3 : Int32))) (0 : Int32))] 1412 391 2346
  refine J_ldc (v := (-3000000 : Int32)) X dL_isSo_1412 gw_4_72 ?_
  refine J_icmp_ne (tgt := 1421) X dL_isSo_1414 (by decide) (fun c => absurd (dv14 hQ hIX) c) (fun _ => ?_)
  refine J_iconst (v := 1) X dL_isSo_1417 rfl ?_
  refine J_goto (tgt := 1422) X dL_isSo_1418 (by decide) ?_
  exact J_zret X rfl (Or.inr rfl) rfl (hpost hx15 hap15 hX15) dL_isSo_1422
end
