noncomputable section
theorem RX.upd2 {ca : Nat → Nat} {h : fH} {ρ : Nat → Nat → Nat} {μ μ' : Nat → Nat → Int32} {cap : Nat → Nat} {σ σ' : St} (hR : RX ca h ρ μ cap σ) {k1 i1 k2 i2 : Nat} {a0 a1 b0 b1 : va_E} (h10 : xC ca ρ μ cap σ k1 i1 = some a0) (h20 : xC ca ρ μ cap σ k2 i2 = some b0)
    (hne : ¬ (k1 = k2 ∧ i1 = i2)) (h11 : xC ca ρ μ' cap σ' k1 i1 = some a1) (h21 : xC ca ρ μ' cap σ' k2 i2 = some b1)
    (ho : ∀ k' i', ¬ (k' = k1 ∧ i' = i1) → ¬ (k' = k2 ∧ i' = i2) → xC ca ρ μ' cap σ' k' i' = xC ca ρ μ cap σ k' i') (hL : ∀ k, xL σ' k = xL σ k) (hM : ix (σ' 26 0) = ix (σ 26 0)) : RX ca (fU (fU h (ρ k1 i1) a1) (ρ k2 i2) b1) ρ μ' cap σ' := by
  have dom : ∀ k' i' e, xC ca ρ μ' cap σ' k' i' = some e → ∃ e2, xC ca ρ μ cap σ k' i' = some e2 := fun k' i' e hx => by
    by_cases q : k' = k1 ∧ i' = i1
    · obtain ⟨rfl, rfl⟩ := q
      exact ⟨_, h10⟩
    · by_cases q2 : k' = k2 ∧ i' = i2
      · obtain ⟨rfl, rfl⟩ := q2
        exact ⟨_, h20⟩
      · rw [ho k' i' q q2] at hx
        exact ⟨_, hx⟩
  refine ⟨fun k' i' e hx => ?_, fun k1' i1' k2' i2' a b ha hb hab => ?_, fun q hq => ?_⟩
  · by_cases q2 : k' = k2 ∧ i' = i2
    · obtain ⟨rfl, rfl⟩ := q2
      rw [h21] at hx
      cases hx
      exact fU_same _ _ _
    · obtain ⟨e2, he2⟩ := dom k' i' e hx
      rw [fU_ne (fun z => q2 (hR.2.1 k' i' k2 i2 _ _ he2 h20 z))]
      by_cases q : k' = k1 ∧ i' = i1
      · obtain ⟨rfl, rfl⟩ := q
        rw [h11] at hx
        cases hx
        exact fU_same _ _ _
      · rw [fU_ne (fun z => q (hR.2.1 k' i' k1 i1 _ _ he2 h10 z))]
        rw [ho k' i' q q2] at hx
        exact hR.1 k' i' e hx
  · obtain ⟨a2, ha2⟩ := dom _ _ _ ha
    obtain ⟨b2, hb2⟩ := dom _ _ _ hb
    exact hR.2.1 _ _ _ _ _ _ ha2 hb2 hab
  · rw [hM] at hq
    rw [hL]
    exact hR.2.2 q hq
theorem cntF_eq {f g : Nat → Int32} : ∀ {n : Nat}, (∀ d, d < n → f d = g d) → cntF f n = cntF g n
  | 0, _ => rfl
  | n + 1, h => by
    unfold cntF
    rw [cntF_eq (n := n) (fun d hd => h d (Nat.lt_succ_of_lt hd)), h n (Nat.lt_succ_self n)]
theorem cntF_up {f : Nat → Int32} {d : Nat} (h0 : f d = 0) : ∀ {n : Nat}, d < n → cntF (upd f d 1) n = cntF f n + 1
  | 0, h => absurd h (Nat.not_lt_zero _)
  | n + 1, h => by
    unfold cntF
    by_cases e : d = n
    · subst e
      rw [cntF_eq (f := upd f d 1) (g := f) (n := d) (fun q hq => if_neg (by omega)), show upd f d 1 d = 1 from if_pos rfl, h0, if_neg (by decide : ¬ (1 : Int32) = 0), if_pos rfl, Int32.add_zero]
    · rw [cntF_up h0 (n := n) (by omega), show upd f d 1 n = f n from if_neg (by omega), Int32.add_assoc, Int32.add_comm 1, ← Int32.add_assoc]
def X_celebrate_s (σ : St) (i : Nat) (p1 : Int32) : St := if p1 < 0 then σ else if p1 < 1000 then (if σ 7 (1000 * i + ix p1) = 0 then sS σ 7 (1000 * i + ix p1) 1 else σ) else σ
theorem RXp_feast {ca : Nat → Nat} {h : fH} {ρ : Nat → Nat → Nat} {μ : Nat → Nat → Int32} {cap : Nat → Nat} {σ : St} (hR : RX ca h ρ μ cap σ) {i d : Nat} (hi : i < 4) (hd : d < 1000) (h0 : σ 7 (1000 * i + d) = 0) :
    RX ca (fU (fU h (ρ 7 i) (.inl (ca 1, 1000, .inl (upd (xF σ i) d 1)))) (ρ 6 i) (.inr (10, (xZone ρ σ i).set 2 (.int (cntF (fun d => σ 7 (1000 * i + d)) n1000 + 1))))) ρ μ cap (sS σ 7 (1000 * i + d) 1) := by
  have hF : ∀ z, z < 4 → xF (sS σ 7 (1000 * i + d) 1) z = if z = i then upd (xF σ i) d 1 else xF σ z := fun z hz => by
    funext q
    show (if q < 1000 then upd (σ 7) (1000 * i + d) 1 (1000 * z + q) else 0) = _
    by_cases e : z = i
    · subst e
      rw [if_pos rfl]
      show (if q < 1000 then (if 1000 * z + q = 1000 * z + d then 1 else σ 7 (1000 * z + q)) else 0) = (if q = d then 1 else (if q < 1000 then σ 7 (1000 * z + q) else 0))
      by_cases e2 : q = d
      · subst e2
        rw [if_pos hd, if_pos rfl, if_pos rfl]
      · rw [if_neg e2, if_neg (show ¬ 1000 * z + q = 1000 * z + d by omega)]
    · rw [if_neg e]
      show (if q < 1000 then (if 1000 * z + q = 1000 * i + d then 1 else σ 7 (1000 * z + q)) else 0) = (if q < 1000 then σ 7 (1000 * z + q) else 0)
      by_cases e2 : q < 1000
      · rw [if_pos e2, if_pos e2, if_neg (by omega)]
      · rw [if_neg e2, if_neg e2]
  have hC : ∀ z, z ≠ i → cntF (fun q => sS σ 7 (1000 * i + d) 1 7 (1000 * z + q)) n1000 = cntF (fun q => σ 7 (1000 * z + q)) n1000 := fun z hz => cntF_eq (fun q hq => by
    rw [n1000_eq] at hq
    exact if_neg (by omega))
  have hCi : cntF (fun q => sS σ 7 (1000 * i + d) 1 7 (1000 * i + q)) n1000 = cntF (fun q => σ 7 (1000 * i + q)) n1000 + 1 := by
    rw [← cntF_up (f := fun q => σ 7 (1000 * i + q)) h0 (by rw [n1000_eq]; exact hd)]
    refine cntF_eq (fun q _ => ?_)
    show (if 1000 * i + q = 1000 * i + d then 1 else σ 7 (1000 * i + q)) = (if q = d then 1 else σ 7 (1000 * i + q))
    by_cases e : q = d
    · subst e; rw [if_pos rfl, if_pos rfl]
    · rw [if_neg e, if_neg (by omega)]
  refine hR.upd2 (k1 := 7) (i1 := i) (k2 := 6) (i2 := i) (if_pos hi) (if_pos hi) (fun z => absurd z.1 (by decide)) ?_ ?_ (fun k' i' q1 q2 => ?_) (fun _ => rfl) rfl
  · show (if i < 4 then some (Sum.inl (ca 1, 1000, Sum.inl (xF (sS σ 7 (1000 * i + d) 1) i))) else none) = _
    rw [if_pos hi, hF i hi, if_pos rfl]
  · show (if i < 4 then some (Sum.inr (10, xZone ρ (sS σ 7 (1000 * i + d) 1) i)) else none) = _
    rw [if_pos hi]
    unfold xZone
    rw [hCi]
    rfl
  · match k' with
    | 0 => exact rfl
    | 1 => exact rfl
    | 2 => exact rfl
    | 3 => exact rfl
    | 4 => exact rfl
    | 5 => exact rfl
    | 6 =>
      have e : i' ≠ i := fun z => q2 ⟨rfl, z⟩
      show (if i' < 4 then some (Sum.inr (10, xZone ρ (sS σ 7 (1000 * i + d) 1) i')) else none) = (if i' < 4 then some (Sum.inr (10, xZone ρ σ i')) else none)
      unfold xZone
      rw [hC i' e]
      rfl
    | 7 =>
      have e : i' ≠ i := fun z => q1 ⟨rfl, z⟩
      show (if i' < 4 then some (Sum.inl (ca 1, 1000, Sum.inl (xF (sS σ 7 (1000 * i + d) 1) i'))) else none) = (if i' < 4 then some (Sum.inl (ca 1, 1000, Sum.inl (xF σ i'))) else none)
      by_cases w : i' < 4
      · rw [hF i' w, if_neg e]
      · rw [if_neg w, if_neg w]
    | 8 => exact rfl
    | 9 => exact rfl
    | 10 => exact rfl
    | 11 => exact rfl
    | 12 => exact rfl
    | 13 => exact rfl
    | 14 => exact rfl
    | 15 => exact rfl
    | _ + 16 => exact rfl
theorem cw_X9_celebrate : Cond.instanceMethod yX9_celebrate ∈ GW ∧ Cond.selects RX9 yX9_celebrate yX9_celebrate ∈ GW ∧ Cond.initialized RX9 ∈ GW ∧ Cond.code yX9_celebrate cX9_celebrate 2 none ∈ GW ∧ yX9_celebrate.cls = RX9 ∧ (yX9_celebrate.cls ≠ "java/lang/invoke/MethodHandle" ∧ yX9_celebrate.cls ≠ "java/lang/invoke/VarHandle") ∧ (parseMethodDescriptor yX9_celebrate.desc).map (fun d => d.parameters.length) = some 1 := ⟨gw_2_221, gw_2_222, gw_1_8, gw_2_223, rfl, ⟨by decide, by decide⟩, by decide +kernel⟩
theorem c_X_celebrate {l : Launch} {D : va_G} {ca : Nat → Nat} {h : fH} {ρ : Nat → Nat → Nat} {μ : Nat → Nat → Int32} {cap : Nat → Nat} {σ : St} (hR : RX ca h ρ μ cap σ) (i : Nat) (p1 : Int32) (hi : i < 4) : FM l D ca yX9_celebrate (.code yX9_celebrate cX9_celebrate 2 none) { frames := 1, cells := 0, slots := 0, locals := 20 } [.ref (ρ 6 i), .int p1] h (pVM (fun h2 => RX ca h2 ρ μ cap (X_celebrate_s σ i p1))) noX := by
  refine FM.of [some (.ref (ρ 6 i)), some (.int p1)] (by decide) (Nat.le_of_ble_eq_true rfl) rfl ?_
  rintro K X rfl rfl rfl
  have q_s : X_celebrate_s σ i p1 = if p1 < 0 then σ else if p1 < 1000 then (if σ 7 (1000 * i + ix p1) = 0 then sS σ 7 (1000 * i + ix p1) 1 else σ) else σ := rfl
  refine J_iload_1 X dX9_celebrate_0 ?_
  refine J_if_lt (tgt := 39) X dX9_celebrate_1 (by decide) (fun c1 => ?_) (fun c1 => ?_)
  · rw [if_pos c1] at q_s
    exact J_vret X rfl rfl ⟨rfl, by rw [q_s]; exact hR⟩ dX9_celebrate_39
  rw [if_neg c1] at q_s
  refine J_iload_1 X dX9_celebrate_4 ?_
  refine J_aload_0 X dX9_celebrate_5 ?_
  refine J_get X (C := RX9) (T := TX9) (N := 6) (ref := "NightValley$Zone") (hR.zone hi) rfl 1 (by decide) rfl in_X9 gw_1_121 (fun _ z => z) dX9_celebrate_6 ?_
  refine J_alen X (v := 1000) (t := 1) (hR.feasts hi) rfl rfl dX9_celebrate_9 ?_
  refine J_icmp_ge (tgt := 39) X dX9_celebrate_10 (by decide) (fun c2 => ?_) (fun c2 => ?_)
  · rw [if_neg (not_lt32.mpr c2)] at q_s
    exact J_vret X rfl rfl ⟨rfl, by rw [q_s]; exact hR⟩ dX9_celebrate_39
  have c2' : p1 < 1000 := Classical.byContradiction (fun z => c2 (not_lt32.mp z))
  rw [if_pos c2'] at q_s
  have hv : vp_in p1 1000 := vp_c c1 c2 (by decide)
  refine J_aload_0 X dX9_celebrate_13 ?_
  refine J_get X (C := RX9) (T := TX9) (N := 6) (ref := "NightValley$Zone") (hR.zone hi) rfl 1 (by decide) rfl in_X9 gw_1_121 (fun _ z => z) dX9_celebrate_14 ?_
  refine J_iload_1 X dX9_celebrate_17 ?_
  refine JX_fld X hR hi hv dX9_celebrate_18 ?_
  refine J_if_ne (tgt := 39) X dX9_celebrate_19 (by decide) (fun c3 => ?_) (fun c3 => ?_)
  · rw [if_neg c3] at q_s
    exact J_vret X rfl rfl ⟨rfl, by rw [q_s]; exact hR⟩ dX9_celebrate_39
  · rw [if_pos c3] at q_s
    refine J_aload_0 X dX9_celebrate_22 ?_
    refine J_get X (C := RX9) (T := TX9) (N := 6) (ref := "NightValley$Zone") (hR.zone hi) rfl 1 (by decide) rfl in_X9 gw_1_121 (fun _ z => z) dX9_celebrate_23 ?_
    refine J_iload_1 X dX9_celebrate_26 ?_
    refine J_iconst (v := 1) X dX9_celebrate_27 rfl ?_
    refine J_zast X (hR.feasts hi) (Or.inr rfl) hv dX9_celebrate_28 ?_
    have hne : ρ 6 i ≠ ρ 7 i := fun z => absurd (hR.2.1 6 i 7 i _ _ (if_pos hi) (if_pos hi) z).1 (by decide)
    have hz : (fU h (ρ 7 i) (.inl (kca K 1, 1000, .inl (upd (xF σ i) p1.toNatClampNeg 1)))) (ρ 6 i) = some (.inr (10, xZone ρ σ i)) := by rw [fU_ne hne]; exact hR.zone hi
    refine J_aload_0 X dX9_celebrate_29 ?_
    refine J_dup X dX9_celebrate_30 rfl ?_
    refine J_get X (C := RX9) (T := TX9) (N := 6) (ref := "NightValley$Zone") (hz) rfl 2 (by decide) rfl in_X9 gw_1_122 (fun _ z => z) dX9_celebrate_31 ?_
    refine J_iconst (v := 1) X dX9_celebrate_34 rfl ?_
    refine J_iadd X dX9_celebrate_35 ?_
    refine J_put X (C := RX9) (T := TX9) (N := 6) (ref := "NightValley$Zone") hz rfl 2 (by decide) (show 2 < (xZone ρ σ i).length from (by decide : 2 < 6)) in_X9 tyX9 tyX9_ok nmX9 rfl rfl rfl gw_1_122 (fun _ z => z) dX9_celebrate_36 ?_
    exact J_vret X rfl rfl ⟨rfl, by rw [q_s]; exact RXp_feast hR hi (vp_lt hv) c3⟩ dX9_celebrate_39
def X_feast (σ : St) (p1 : Int32) (p2 : Int32) : Int32 := (@ite _ (vp_in p1 4) (Classical.propDecidable _) (if M_isIn p2 (0 : Int32) (999 : Int32) = 0 then (0 : Int32) else (cntF (fun d => (X_celebrate_s σ (ix p1) p2) 7 (1000 * (ix p1) + d)) n1000)) (0 : Int32))
def X_feast_s (σ : St) (p1 : Int32) (p2 : Int32) : St := (@ite _ (vp_in p1 4) (Classical.propDecidable _) (if M_isIn p2 (0 : Int32) (999 : Int32) = 0 then σ else (X_celebrate_s σ (ix p1) p2)) σ)
def X_feast_c (σ : St) (p1 : Int32) (p2 : Int32) : Int32 := (@ite _ (vp_in p1 4) (Classical.propDecidable _) (if M_isIn p2 (0 : Int32) (999 : Int32) = 0 then (2 : Int32) else (0 : Int32)) (1 : Int32))
theorem cw_X10_feast : Cond.instanceMethod yX10_feast ∈ GW ∧ Cond.selects RX10 yX10_feast yX10_feast ∈ GW ∧ Cond.initialized RX10 ∈ GW ∧ Cond.code yX10_feast cX10_feast 4 (some .int) ∈ GW ∧ yX10_feast.cls = RX10 ∧ (yX10_feast.cls ≠ "java/lang/invoke/MethodHandle" ∧ yX10_feast.cls ≠ "java/lang/invoke/VarHandle") ∧ (parseMethodDescriptor yX10_feast.desc).map (fun d => d.parameters.length) = some 2 := ⟨gw_2_217, gw_2_218, gw_1_1, gw_2_219, rfl, ⟨by decide, by decide⟩, by decide +kernel⟩
set_option maxRecDepth 100000 in
set_option maxHeartbeats 4000000 in
theorem c_X_feast {l : Launch} {D : va_G} {ca : Nat → Nat} {h : fH} {ρ : Nat → Nat → Nat} {μ : Nat → Nat → Int32} {cap : Nat → Nat} {σ : St} (hR : RX ca h ρ μ cap σ) (hI : InvX σ) (p1 : Int32) (p2 : Int32) : FM l D ca yX10_feast (.code yX10_feast cX10_feast 4 (some .int)) { frames := 8, cells := 2, slots := 12, locals := 145 } [.ref (ρ 0 0), .int p1, .int p2] h (pPub (some (.int (X_feast σ p1 p2))) (X_feast_c σ p1 p2) (fun h2 => RX ca h2 ρ μ cap (X_feast_s σ p1 p2))) (pxX (X_feast_c σ p1 p2) (fun h2 => RX ca h2 ρ μ cap (X_feast_s σ p1 p2))) := by
  refine FM.of [some (.ref (ρ 0 0)), some (.int p1), some (.int p2), none] (by decide) (Nat.le_of_ble_eq_true rfl) rfl ?_
  rintro K X rfl rfl rfl
  have q_v : (X_feast σ p1 p2) = (@ite _ (vp_in p1 4) (Classical.propDecidable _) (if M_isIn p2 (0 : Int32) (999 : Int32) = 0 then (0 : Int32) else (cntF (fun d => (X_celebrate_s σ (ix p1) p2) 7 (1000 * (ix p1) + d)) n1000)) (0 : Int32)) := rfl
  have q_s : (X_feast_s σ p1 p2) = (@ite _ (vp_in p1 4) (Classical.propDecidable _) (if M_isIn p2 (0 : Int32) (999 : Int32) = 0 then σ else (X_celebrate_s σ (ix p1) p2)) σ) := rfl
  have q_c : (X_feast_c σ p1 p2) = (@ite _ (vp_in p1 4) (Classical.propDecidable _) (if M_isIn p2 (0 : Int32) (999 : Int32) = 0 then (2 : Int32) else (0 : Int32)) (1 : Int32)) := rfl
  refine J_aload_0 X dX10_feast_0 ?_
  refine J_iload_1 X dX10_feast_1 ?_
  refine J_callV X (c_zoneOf hR hI p1) (And.intro gw_2_187 cw_X10_zoneOf) hR.root rfl rfl rfl (Nat.le_of_ble_eq_true rfl) dX10_feast_2 rfl (fun v h2 e => ?_) (fun E h2 e => ?_)
  · skip
    obtain ⟨e1, e2, c2⟩ := e
    subst e1
    rw [e2]
    clear e2
    rw [if_pos c2] at q_v
    rw [if_pos c2] at q_s
    rw [if_pos c2] at q_c
    show J K h [some (.ref (ρ 0 0)), some (.int p1), some (.int p2), none] [.ref (ρ 6 (ix p1))] 5 1 6
    refine J_astore_3 X dX10_feast_5 rfl (by decide) ?_
    refine J_iload_2 X dX10_feast_6 ?_
    refine J_iconst (v := 0) X dX10_feast_7 rfl ?_
    refine J_sipush (v := (999 : Int32)) X dX10_feast_8 (by decide) ?_
    refine J_callS X (c_needRange p2 (0 : Int32) (999 : Int32)) (And.intro gw_2_198 cw_X10_needRange) rfl rfl (Nat.le_of_ble_eq_true rfl) dX10_feast_11 rfl (fun v h2 e => ?_) (fun E h2 e => ?_)
    · skip
      obtain ⟨e1, e2, c11⟩ := e
      subst e1
      rw [e2]
      clear e2
      rw [if_neg c11] at q_v
      rw [if_neg c11] at q_s
      rw [if_neg c11] at q_c
      show J K h [some (.ref (ρ 0 0)), some (.int p1), some (.int p2), some (.ref (ρ 6 (ix p1)))] [] 14 2 12
      refine J_aload_3 X dX10_feast_14 ?_
      refine J_iload_2 X dX10_feast_15 ?_
      refine J_callV X (c_X_celebrate hR (ix p1) p2 (vp_lt c2)) (And.intro gw_2_220 cw_X9_celebrate) (hR.zone (vp_lt c2)) rfl rfl rfl (Nat.le_of_ble_eq_true rfl) dX10_feast_16 rfl (J.pvm (fun h1 hR1 => ?_)) JE.no
      refine J_aload_3 X dX10_feast_19 ?_
      refine J_get X (C := RX9) (T := TX9) (N := 6) (ref := "NightValley$Zone") (hR1.zone (vp_lt c2)) rfl 2 (by decide) rfl in_X9 gw_1_123 (fun _ z => z) dX10_feast_20 ?_
      exact J_iret X rfl rfl ⟨by rw [q_v], by rw [q_c], by rw [q_s]; exact hR1⟩ dX10_feast_23
    · skip
      obtain ⟨e1, e2, c11⟩ := e
      subst e1
      rw [e2]
      clear e2
      rw [if_pos c11] at q_v
      rw [if_pos c11] at q_s
      rw [if_pos c11] at q_c
      exact JE_out X rfl rfl ⟨by rw [q_c]; rfl, by rw [q_c]; decide, by rw [q_s]; exact hR⟩
  · skip
    obtain ⟨e1, e2, c2⟩ := e
    subst e1
    rw [e2]
    clear e2
    rw [if_neg c2] at q_v
    rw [if_neg c2] at q_s
    rw [if_neg c2] at q_c
    exact JE_out X rfl rfl ⟨by rw [q_c]; rfl, by rw [q_c]; decide, by rw [q_s]; exact hR⟩
end
