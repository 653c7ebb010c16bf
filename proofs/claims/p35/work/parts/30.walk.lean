noncomputable section
noncomputable def n10 : Nat := Classical.choose (⟨10, rfl⟩ : ∃ n, n = 10)
theorem n10_eq : n10 = 10 := Classical.choose_spec (⟨10, rfl⟩ : ∃ n, n = 10)
def sF (μ : St) (c : Nat) (v : Int32) : St := sU μ c (fun j => if j < 64 then v else μ c j)
theorem cw_J7_fill_53178 : Cond.static yJ7_fill_53178 ∈ GW ∧ Cond.initialized yJ7_fill_53178.cls ∈ GW ∧ Cond.code yJ7_fill_53178 cJ7_fill_53178 4 none ∈ GW ∧ (yJ7_fill_53178.cls ≠ "java/lang/invoke/MethodHandle" ∧ yJ7_fill_53178.cls ≠ "java/lang/invoke/VarHandle") ∧ (parseMethodDescriptor yJ7_fill_53178.desc).map (fun d => d.parameters.length) = some 2 := ⟨gw_4_20, gw_1_11, gw_4_21, ⟨by decide, by decide⟩, by decide +kernel⟩
theorem J.pvmX {K : KT} {lv : LV} {st : List Value} {pc cells slots : Nat} {R : fH → Prop} (k : ∀ h', R h' → J K h' lv st pc cells slots) : ∀ v h', pVM R v h' → J K h' lv (v.toList ++ st) pc cells slots := fun v h' e => by
  obtain ⟨rfl, e⟩ := e
  exact k h' e
theorem c_fill {l : Launch} {D : va_G} {ca : Nat → Nat} {h : fH} {a : Nat} {f : Nat → Int32} (he : h a = some (.inl (ca 0, 64, .inl f))) (v : Int32) : FM l D ca yJ7_fill_53178 (.code yJ7_fill_53178 cJ7_fill_53178 4 none) { frames := 1, cells := 0, slots := 0, locals := 20 } [.ref a, .int v] h (pVM (fun h2 => h2 = fU h a (.inl (ca 0, 64, .inl (fun j => if j < 64 then v else f j))))) noX := by
  refine FM.of [some (.ref a), some (.int v), none, none] (by decide) (Nat.le_of_ble_eq_true rfl) rfl ?_
  rintro K X rfl rfl rfl
  refine J_iconst (v := 0) X dJ7_fill_53178_0 rfl ?_
  refine J_istore_2 X dJ7_fill_53178_1 rfl (by decide) ?_
  refine J_aload_0 X dJ7_fill_53178_2 ?_
  refine J_alen X (v := 64) (t := 0) he rfl rfl dJ7_fill_53178_3 ?_
  refine J_istore_3 X dJ7_fill_53178_4 rfl (by decide) ?_
  have L : ∀ n k : Nat, k + n = 64 → ∀ g : Nat → Int32, ∀ h' : fH, h' a = some (.inl (kca K 0, 64, .inl g)) → h' = fU h a (.inl (kca K 0, 64, .inl g)) → (∀ j, g j = if j < k then v else f j) → J K h' [some (.ref a), some (.int v), some (.int (nI k)), some (.int 64)] [] 5 0 0 := by
    intro n
    induction n with
    | zero =>
      intro k hk g h' hg hh hj
      refine J_iload_2 X dJ7_fill_53178_5 ?_
      refine J_iload_3 X dJ7_fill_53178_6 ?_
      refine J_icmp_ge (tgt := 20) X dJ7_fill_53178_7 (by decide) (fun _ => ?_) (fun c => absurd (show (64 : Int32) ≤ nI k by rw [show k = 64 by omega]; decide) c)
      refine J_vret X rfl rfl ⟨rfl, ?_⟩ dJ7_fill_53178_20
      rw [hh, show g = fun j => if j < 64 then v else f j from funext fun j => by rw [hj, show k = 64 by omega]]
    | succ n ih =>
      intro k hk g h' hg hh hj
      refine J_iload_2 X dJ7_fill_53178_5 ?_
      refine J_iload_3 X dJ7_fill_53178_6 ?_
      refine J_icmp_ge (tgt := 20) X dJ7_fill_53178_7 (by decide) (fun c => absurd c (fun c => by rw [show (64 : Int32) = nI 64 from rfl] at c; exact absurd ((nI_leI (by omega) (by omega)).mp c) (by omega))) (fun _ => ?_)
      refine J_aload_0 X dJ7_fill_53178_10 ?_
      refine J_iload_2 X dJ7_fill_53178_11 ?_
      refine J_iload_1 X dJ7_fill_53178_12 ?_
      refine J_iast X hg (vp_in_nI (by omega) (by omega)) dJ7_fill_53178_13 ?_
      refine J_iinc_2 (v := nI (k + 1)) X dJ7_fill_53178_14 (nI_1 _) rfl (by decide) ?_
      refine J_goto (tgt := 5) X dJ7_fill_53178_17 (by decide) ?_
      refine ih (k + 1) (by omega) (upd g k v) _ ?_ ?_ (fun j => ?_)
      · rw [show (nI k).toNatClampNeg = k from nI_clamp (by omega)]
        exact fU_same _ _ _
      · rw [show (nI k).toNatClampNeg = k from nI_clamp (by omega), hh]
        funext q
        by_cases e : q = a
        · subst e
          rw [fU_same, fU_same]
        · rw [fU_ne e, fU_ne e, fU_ne e]
      · unfold upd
        split
        · rename_i e
          subst e
          rw [if_pos (Nat.lt_succ_self _)]
        · rename_i e
          rw [hj]
          by_cases q : j < k
          · rw [if_pos q, if_pos (by omega)]
          · rw [if_neg q, if_neg (by omega)]
  refine L 64 0 rfl f h he ?_ (fun j => by rw [if_neg (Nat.not_lt_zero _)])
  funext q
  by_cases e : q = a
  · subst e
    rw [fU_same]
    exact he
  · rw [fU_ne e]
section MUS
variable {K : KT} {mn own : String} {cc : ByteArray} {n : Nat} {ret : Option FieldType} {tb : List ExceptionTableEntry} {w0 : Cond} {rm : Room} {h0 : fH} {post : Option Value → fH → Prop} {px : String → fH → Prop}
variable {h : fH} {lv : LV} {st : List Value} {pc cells slots : Nat} {ca : Nat → Nat} {ρ : Nat → Nat → Nat} {μ : St} {cap : Nat → Nat} {σ : St}
theorem xC_mu {μ' : St} {k i : Nat} (h0 : μ' 0 = μ 0) (h1 : k = 4 → μ' 1 0 = μ 1 0) (h2 : k = 5 → μ' 2 0 = μ 2 0) (h14 : k = 14 → i < 3 → μ' (10 + i) = μ (10 + i)) (h15 : k = 15 → i < 2 → μ' (20 + i) = μ (20 + i)) : xC ca ρ μ' cap σ k i = xC ca ρ μ cap σ k i := by
  unfold xC
  split
  case h_2 => unfold xList; rw [h0]
  case h_5 => unfold xWalk; rw [h1 rfl]
  case h_6 => unfold xChoice; rw [h2 rfl]
  case h_15 =>
    by_cases q : i < 3
    · rw [h14 rfl q]
    · rw [if_neg q, if_neg q]
  case h_16 =>
    by_cases q : i < 2
    · rw [h15 rfl q]
    · rw [if_neg q, if_neg q]
  all_goals rfl
theorem RXm_arr (hR : RX ca h ρ μ cap σ) {k i N c : Nat} {f : Nat → Int32} (hk : (k = 14 ∧ i < 3 ∧ N = 64 ∧ c = 10 + i) ∨ (k = 15 ∧ i < 2 ∧ N = 10 ∧ c = 20 + i)) : RX ca (fU h (ρ k i) (.inl (ca 0, N, .inl f))) ρ (sU μ c f) cap σ := by
  have hc : ∀ q, q ≠ c → sU μ c f q = μ q := fun q z => sU_ne z
  refine hR.upd (k := k) (i := i) (e0 := .inl (ca 0, N, .inl (μ c))) ?_ ?_ (fun k' i' q => ?_) (fun _ => rfl) rfl
  · rcases hk with ⟨rfl, h1, rfl, rfl⟩ | ⟨rfl, h1, rfl, rfl⟩
    · exact if_pos h1
    · exact if_pos h1
  · rcases hk with ⟨rfl, h1, rfl, rfl⟩ | ⟨rfl, h1, rfl, rfl⟩
    · refine (if_pos h1).trans ?_
      rw [sU_same]
    · refine (if_pos h1).trans ?_
      rw [sU_same]
  · refine xC_mu ?_ ?_ ?_ ?_ ?_
    · exact hc 0 (by omega)
    · intro _; rw [hc 1 (by omega)]
    · intro _; rw [hc 2 (by omega)]
    · intro e w
      exact hc _ (by omega)
    · intro e w
      exact hc _ (by omega)
theorem RXm_walk (hR : RX ca h ρ μ cap σ) {v : Int32} : RX ca (fU h (ρ 4 0) (.inr (9, (xWalk ρ μ).set 3 (.int v)))) ρ (sS μ 1 0 v) cap σ := by
  have e1 : xWalk ρ (sS μ 1 0 v) = (xWalk ρ μ).set 3 (.int v) := by
    unfold xWalk
    rw [sS_same]
    rfl
  refine hR.upd (k := 4) (i := 0) (e0 := .inr (9, xWalk ρ μ)) rfl (by rw [← e1]; exact rfl) (fun k' i' q => ?_) (fun _ => rfl) rfl
  by_cases w : k' = 4
  · subst w
    have e2 : ¬ i' = 0 := fun z => q ⟨rfl, z⟩
    show (if i' = 0 then some (Sum.inr (9, xWalk ρ (sS μ 1 0 v))) else none) = (if i' = 0 then some (Sum.inr (9, xWalk ρ μ)) else none)
    rw [if_neg e2, if_neg e2]
  · exact xC_mu (sS_col (by decide)) (fun e => absurd e w) (fun _ => by rw [sS_col (by decide)]) (fun _ _ => sS_col (by omega)) (fun _ _ => sS_col (by omega))
theorem RXm_choice (hR : RX ca h ρ μ cap σ) {v : Int32} : RX ca (fU h (ρ 5 0) (.inr (1, (xChoice ρ μ).set 2 (.int v)))) ρ (sS μ 2 0 v) cap σ := by
  have e1 : xChoice ρ (sS μ 2 0 v) = (xChoice ρ μ).set 2 (.int v) := by
    unfold xChoice
    rw [sS_same]
    rfl
  refine hR.upd (k := 5) (i := 0) (e0 := .inr (1, xChoice ρ μ)) rfl (by rw [← e1]; exact rfl) (fun k' i' q => ?_) (fun _ => rfl) rfl
  by_cases w : k' = 5
  · subst w
    have e2 : ¬ i' = 0 := fun z => q ⟨rfl, z⟩
    show (if i' = 0 then some (Sum.inr (1, xChoice ρ (sS μ 2 0 v))) else none) = (if i' = 0 then some (Sum.inr (1, xChoice ρ μ)) else none)
    rw [if_neg e2, if_neg e2]
  · exact xC_mu (sS_col (by decide)) (fun _ => by rw [sS_col (by decide)]) (fun e => absurd e w) (fun _ _ => sS_col (by omega)) (fun _ _ => sS_col (by omega))
theorem JXm_reachedCount (X : JX K mn own cc n ret tb w0 rm h0 post px) (hR : RX (kca K) h ρ μ cap σ) {iz : Nat} {v : Int32} (hl : Cond.fieldLink own iz "NightValley$Walk" "reachedCount" "I" ∈ GW) (d : decode cc pc = .ok (.putfield iz, 3)) (kk : ∀ h', RX (kca K) h' ρ (sS μ 1 0 v) cap σ → J K h' lv st (pc + 3) cells slots) : J K h lv (.int v :: .ref (ρ 4 0) :: st) pc cells slots :=
  J_put X (C := RX8) (T := TX8) (N := 4) (ref := "NightValley$Walk") hR.walk rfl 3 (by decide) (show 3 < (xWalk ρ μ).length from (by decide : 3 < 4)) in_X8 tyX8 tyX8_ok nmX8 rfl rfl rfl hl (fun _ z => z) d (kk _ (RXm_walk hR))
theorem JXm_count (X : JX K mn own cc n ret tb w0 rm h0 post px) (hR : RX (kca K) h ρ μ cap σ) {iz : Nat} {v : Int32} (hl : Cond.fieldLink own iz "NightValley$Choice" "count" "I" ∈ GW) (d : decode cc pc = .ok (.putfield iz, 3)) (kk : ∀ h', RX (kca K) h' ρ (sS μ 2 0 v) cap σ → J K h' lv st (pc + 3) cells slots) : J K h lv (.int v :: .ref (ρ 5 0) :: st) pc cells slots :=
  J_put X (C := RX0) (T := TX0) (N := 3) (ref := "NightValley$Choice") hR.choice rfl 2 (by decide) (show 2 < (xChoice ρ μ).length from (by decide : 2 < 3)) in_X0 tyX0 tyX0_ok nmX0 rfl rfl rfl hl (fun _ z => z) d (kk _ (RXm_choice hR))
theorem JXm_14_0 (X : JX K mn own cc n ret tb w0 rm h0 post px) (hR : RX (kca K) h ρ μ cap σ) {i v : Int32} (hi : vp_in i 64) (d : decode cc pc = .ok (.iastore, 1)) (kk : ∀ h', RX (kca K) h' ρ (sS μ 10 (ix i) v) cap σ → J K h' lv st (pc + 1) cells slots) : J K h lv (.int v :: .int i :: .ref (ρ 14 0) :: st) pc cells slots :=
  J_iast X (hR.warr (by decide)) hi d (kk _ (RXm_arr hR (k := 14) (i := 0) (N := 64) (c := 10) (f := upd (μ 10) (ix i) v) (Or.inl ⟨rfl, by decide, rfl, rfl⟩)))
theorem RXm_fill0 (hR : RX ca h ρ μ cap σ) {v : Int32} : RX ca (fU h (ρ 14 0) (.inl (ca 0, 64, .inl (fun j => if j < 64 then v else μ 10 j)))) ρ (sF μ 10 v) cap σ := RXm_arr hR (Or.inl ⟨rfl, by decide, rfl, rfl⟩)
theorem JXm_14_1 (X : JX K mn own cc n ret tb w0 rm h0 post px) (hR : RX (kca K) h ρ μ cap σ) {i v : Int32} (hi : vp_in i 64) (d : decode cc pc = .ok (.iastore, 1)) (kk : ∀ h', RX (kca K) h' ρ (sS μ 11 (ix i) v) cap σ → J K h' lv st (pc + 1) cells slots) : J K h lv (.int v :: .int i :: .ref (ρ 14 1) :: st) pc cells slots :=
  J_iast X (hR.warr (by decide)) hi d (kk _ (RXm_arr hR (k := 14) (i := 1) (N := 64) (c := 11) (f := upd (μ 11) (ix i) v) (Or.inl ⟨rfl, by decide, rfl, rfl⟩)))
theorem RXm_fill1 (hR : RX ca h ρ μ cap σ) {v : Int32} : RX ca (fU h (ρ 14 1) (.inl (ca 0, 64, .inl (fun j => if j < 64 then v else μ 11 j)))) ρ (sF μ 11 v) cap σ := RXm_arr hR (Or.inl ⟨rfl, by decide, rfl, rfl⟩)
theorem JXm_14_2 (X : JX K mn own cc n ret tb w0 rm h0 post px) (hR : RX (kca K) h ρ μ cap σ) {i v : Int32} (hi : vp_in i 64) (d : decode cc pc = .ok (.iastore, 1)) (kk : ∀ h', RX (kca K) h' ρ (sS μ 12 (ix i) v) cap σ → J K h' lv st (pc + 1) cells slots) : J K h lv (.int v :: .int i :: .ref (ρ 14 2) :: st) pc cells slots :=
  J_iast X (hR.warr (by decide)) hi d (kk _ (RXm_arr hR (k := 14) (i := 2) (N := 64) (c := 12) (f := upd (μ 12) (ix i) v) (Or.inl ⟨rfl, by decide, rfl, rfl⟩)))
theorem RXm_fill2 (hR : RX ca h ρ μ cap σ) {v : Int32} : RX ca (fU h (ρ 14 2) (.inl (ca 0, 64, .inl (fun j => if j < 64 then v else μ 12 j)))) ρ (sF μ 12 v) cap σ := RXm_arr hR (Or.inl ⟨rfl, by decide, rfl, rfl⟩)
theorem JXm_15_0 (X : JX K mn own cc n ret tb w0 rm h0 post px) (hR : RX (kca K) h ρ μ cap σ) {i v : Int32} (hi : vp_in i 10) (d : decode cc pc = .ok (.iastore, 1)) (kk : ∀ h', RX (kca K) h' ρ (sS μ 20 (ix i) v) cap σ → J K h' lv st (pc + 1) cells slots) : J K h lv (.int v :: .int i :: .ref (ρ 15 0) :: st) pc cells slots :=
  J_iast X (hR.carr (by decide)) hi d (kk _ (RXm_arr hR (k := 15) (i := 0) (N := 10) (c := 20) (f := upd (μ 20) (ix i) v) (Or.inr ⟨rfl, by decide, rfl, rfl⟩)))
theorem JXm_15_1 (X : JX K mn own cc n ret tb w0 rm h0 post px) (hR : RX (kca K) h ρ μ cap σ) {i v : Int32} (hi : vp_in i 10) (d : decode cc pc = .ok (.iastore, 1)) (kk : ∀ h', RX (kca K) h' ρ (sS μ 21 (ix i) v) cap σ → J K h' lv st (pc + 1) cells slots) : J K h lv (.int v :: .int i :: .ref (ρ 15 1) :: st) pc cells slots :=
  J_iast X (hR.carr (by decide)) hi d (kk _ (RXm_arr hR (k := 15) (i := 1) (N := 10) (c := 21) (f := upd (μ 21) (ix i) v) (Or.inr ⟨rfl, by decide, rfl, rfl⟩)))
end MUS
def X_darken_s (σ : St) (μ : St) : St := (sF μ 10 (0 : Int32))
theorem cw_X8_darken : Cond.instanceMethod yX8_darken ∈ GW ∧ Cond.selects RX8 yX8_darken yX8_darken ∈ GW ∧ Cond.initialized RX8 ∈ GW ∧ Cond.code yX8_darken cX8_darken 1 none ∈ GW ∧ yX8_darken.cls = RX8 ∧ (yX8_darken.cls ≠ "java/lang/invoke/MethodHandle" ∧ yX8_darken.cls ≠ "java/lang/invoke/VarHandle") ∧ (parseMethodDescriptor yX8_darken.desc).map (fun d => d.parameters.length) = some 0 := ⟨gw_4_16, gw_4_17, gw_1_6, gw_4_18, rfl, ⟨by decide, by decide⟩, by decide +kernel⟩
set_option maxRecDepth 100000 in
set_option maxHeartbeats 4000000 in
theorem c_X_darken {l : Launch} {D : va_G} {ca : Nat → Nat} {h : fH} {ρ : Nat → Nat → Nat} {μ : St} {cap : Nat → Nat} {σ : St} (hR : RX ca h ρ μ cap σ) : FM l D ca yX8_darken (.code yX8_darken cX8_darken 1 none) { frames := 2, cells := 0, slots := 0, locals := 43 } [.ref (ρ 4 0)] h (pVM (fun h2 => RX ca h2 ρ (X_darken_s σ μ) cap σ)) noX := by
  refine FM.of [some (.ref (ρ 4 0))] (by decide) (Nat.le_of_ble_eq_true rfl) rfl ?_
  rintro K X rfl rfl rfl
  have q_s : (X_darken_s σ μ) = (sF μ 10 (0 : Int32)) := rfl
  refine J_aload_0 X dX8_darken_0 ?_
  refine J_get X (C := RX8) (T := TX8) (N := 4) (ref := "NightValley$Walk") hR.walk rfl 0 (by decide) rfl in_X8 gw_1_83 (fun _ z => z) dX8_darken_1 ?_
  refine J_iconst (v := 0) X dX8_darken_4 rfl ?_
  refine J_callS X (c_fill (hR.warr (by decide)) (0 : Int32)) (And.intro gw_4_19 cw_J7_fill_53178) rfl rfl (Nat.le_of_ble_eq_true rfl) dX8_darken_5 rfl (J.pvmX (fun h1 e => ?_)) JE.no
  have hR1 := RXm_fill0 hR (v := (0 : Int32))
  rw [← e] at hR1
  exact J_vret X rfl rfl ⟨rfl, by rw [q_s]; exact hR1⟩ dX8_darken_8
def X_reach_j37_s (σ : St) (μ : St) (p1 : Int32) (p2 : Int32) (p3 : Int32) : St := (if (μ 11 (ix p1)) = (-1 : Int32) then (if p3 < (μ 10 (ix p1)) then μ else (sS (sS (sS μ 11 (ix p1) p2) 12 (ix ((sS μ 11 (ix p1) p2) 1 0)) p1) 1 0 (((sS (sS μ 11 (ix p1) p2) 12 (ix ((sS μ 11 (ix p1) p2) 1 0)) p1) 1 0) + (1 : Int32)))) else μ)
def X_reach_s (σ : St) (μ : St) (p1 : Int32) (p2 : Int32) (p3 : Int32) : St := (if p1 < (0 : Int32) then μ else (if (64 : Int32) ≤ p1 then μ else (if (μ 1 0) < (0 : Int32) then μ else (if (μ 1 0) < (64 : Int32) then (X_reach_j37_s σ μ p1 p2 p3) else μ))))
theorem cw_X8_reach : Cond.instanceMethod yX8_reach ∈ GW ∧ Cond.selects RX8 yX8_reach yX8_reach ∈ GW ∧ Cond.initialized RX8 ∈ GW ∧ Cond.code yX8_reach cX8_reach 4 none ∈ GW ∧ yX8_reach.cls = RX8 ∧ (yX8_reach.cls ≠ "java/lang/invoke/MethodHandle" ∧ yX8_reach.cls ≠ "java/lang/invoke/VarHandle") ∧ (parseMethodDescriptor yX8_reach.desc).map (fun d => d.parameters.length) = some 3 := ⟨gw_4_33, gws_18, gw_1_6, gw_4_34, rfl, ⟨by decide, by decide⟩, by decide +kernel⟩
set_option maxRecDepth 100000 in
set_option maxHeartbeats 4000000 in
theorem c_X_reach {l : Launch} {D : va_G} {ca : Nat → Nat} {h : fH} {ρ : Nat → Nat → Nat} {μ : St} {cap : Nat → Nat} {σ : St} (hR : RX ca h ρ μ cap σ) (p1 : Int32) (p2 : Int32) (p3 : Int32) : FM l D ca yX8_reach (.code yX8_reach cX8_reach 4 none) { frames := 1, cells := 0, slots := 0, locals := 20 } [.ref (ρ 4 0), .int p1, .int p2, .int p3] h (pVM (fun h2 => RX ca h2 ρ (X_reach_s σ μ p1 p2 p3) cap σ)) noX := by
  refine FM.of [some (.ref (ρ 4 0)), some (.int p1), some (.int p2), some (.int p3)] (by decide) (Nat.le_of_ble_eq_true rfl) rfl ?_
  rintro K X rfl rfl rfl
  have q_s : (X_reach_s σ μ p1 p2 p3) = (if p1 < (0 : Int32) then μ else (if (64 : Int32) ≤ p1 then μ else (if (μ 1 0) < (0 : Int32) then μ else (if (μ 1 0) < (64 : Int32) then (X_reach_j37_s σ μ p1 p2 p3) else μ)))) := rfl
  refine J_iload_1 X dX8_reach_0 ?_
  refine J_if_lt (tgt := 29) X dX8_reach_1 (by decide) (fun c1 => ?_) (fun c1 => ?_)
  · skip
    rw [if_pos c1] at q_s
    exact J_vret X rfl rfl ⟨rfl, by rw [q_s]; exact hR⟩ dX8_reach_29
  · skip
    rw [if_neg c1] at q_s
    refine J_iload_1 X dX8_reach_4 ?_
    refine J_bipush (v := (64 : Int32)) X dX8_reach_5 (by decide) ?_
    refine J_icmp_ge (tgt := 29) X dX8_reach_7 (by decide) (fun c7 => ?_) (fun c7 => ?_)
    · skip
      rw [if_pos c7] at q_s
      exact J_vret X rfl rfl ⟨rfl, by rw [q_s]; exact hR⟩ dX8_reach_29
    · skip
      rw [if_neg c7] at q_s
      refine J_aload_0 X dX8_reach_10 ?_
      refine J_get X (C := RX8) (T := TX8) (N := 4) (ref := "NightValley$Walk") hR.walk rfl 3 (by decide) rfl in_X8 gw_1_86 (fun _ z => z) dX8_reach_11 ?_
      refine J_if_lt (tgt := 29) X dX8_reach_14 (by decide) (fun c14 => ?_) (fun c14 => ?_)
      · skip
        rw [if_pos c14] at q_s
        exact J_vret X rfl rfl ⟨rfl, by rw [q_s]; exact hR⟩ dX8_reach_29
      · skip
        rw [if_neg c14] at q_s
        refine J_aload_0 X dX8_reach_17 ?_
        refine J_get X (C := RX8) (T := TX8) (N := 4) (ref := "NightValley$Walk") hR.walk rfl 3 (by decide) rfl in_X8 gw_1_86 (fun _ z => z) dX8_reach_18 ?_
        refine J_aload_0 X dX8_reach_21 ?_
        refine J_get X (C := RX8) (T := TX8) (N := 4) (ref := "NightValley$Walk") hR.walk rfl 2 (by decide) rfl in_X8 gw_1_85 (fun _ z => z) dX8_reach_22 ?_
        refine J_alen X (v := 64) (t := 0) (hR.warr (by decide)) rfl rfl dX8_reach_25 ?_
        refine J_icmp_lt (tgt := 30) X dX8_reach_26 (by decide) (fun c26 => ?_) (fun c26 => ?_)
        · skip
          rw [if_pos c26] at q_s
          refine J_aload_0 X dX8_reach_30 ?_
          refine J_get X (C := RX8) (T := TX8) (N := 4) (ref := "NightValley$Walk") hR.walk rfl 1 (by decide) rfl in_X8 gw_1_84 (fun _ z => z) dX8_reach_31 ?_
          refine J_iload_1 X dX8_reach_34 ?_
          refine J_iald X (hR.warr (by decide)) (vp_c c1 c7 (by decide)) dX8_reach_35 ?_
          refine J_iconst (v := -1) X dX8_reach_36 rfl ?_
          have K37_77 : ∀ hj1 : fH, RX (kca K) hj1 ρ (X_reach_j37_s σ μ p1 p2 p3) cap σ → J K hj1 [some (.ref (ρ 4 0)), some (.int p1), some (.int p2), some (.int p3)] [] 77 0 0 := by
            intro hj1 hRj1
            exact J_vret X rfl rfl ⟨rfl, by rw [q_s]; exact hRj1⟩ dX8_reach_77
          have j37_0 : X_reach_j37_s σ μ p1 p2 p3 = (if (μ 11 (ix p1)) = (-1 : Int32) then (if p3 < (μ 10 (ix p1)) then μ else (sS (sS (sS μ 11 (ix p1) p2) 12 (ix ((sS μ 11 (ix p1) p2) 1 0)) p1) 1 0 (((sS (sS μ 11 (ix p1) p2) 12 (ix ((sS μ 11 (ix p1) p2) 1 0)) p1) 1 0) + (1 : Int32)))) else μ) := rfl
          refine J_icmp_ne (tgt := 77) X dX8_reach_37 (by decide) (fun c37 => ?_) (fun c37 => ?_)
          · skip
            rw [if_neg c37] at j37_0
            exact K37_77 _ (by rw [j37_0]; exact hR)
          · skip
            rw [if_pos c37] at j37_0
            refine J_aload_0 X dX8_reach_40 ?_
            refine J_get X (C := RX8) (T := TX8) (N := 4) (ref := "NightValley$Walk") hR.walk rfl 0 (by decide) rfl in_X8 gw_1_83 (fun _ z => z) dX8_reach_41 ?_
            refine J_iload_1 X dX8_reach_44 ?_
            refine J_iald X (hR.warr (by decide)) (vp_c c1 c7 (by decide)) dX8_reach_45 ?_
            refine J_iload_3 X dX8_reach_46 ?_
            refine J_icmp_gt (tgt := 77) X dX8_reach_47 (by decide) (fun c47 => ?_) (fun c47 => ?_)
            · skip
              rw [if_pos c47] at j37_0
              exact K37_77 _ (by rw [j37_0]; exact hR)
            · skip
              rw [if_neg c47] at j37_0
              refine J_aload_0 X dX8_reach_50 ?_
              refine J_get X (C := RX8) (T := TX8) (N := 4) (ref := "NightValley$Walk") hR.walk rfl 1 (by decide) rfl in_X8 gw_1_84 (fun _ z => z) dX8_reach_51 ?_
              refine J_iload_1 X dX8_reach_54 ?_
              refine J_iload_2 X dX8_reach_55 ?_
              refine JXm_14_1 X hR (v := p2) (vp_c c1 c7 (by decide)) dX8_reach_56 (fun h2 hR2 => ?_)
              refine J_aload_0 X dX8_reach_57 ?_
              refine J_get X (C := RX8) (T := TX8) (N := 4) (ref := "NightValley$Walk") hR2.walk rfl 2 (by decide) rfl in_X8 gw_1_85 (fun _ z => z) dX8_reach_58 ?_
              refine J_aload_0 X dX8_reach_61 ?_
              refine J_get X (C := RX8) (T := TX8) (N := 4) (ref := "NightValley$Walk") hR2.walk rfl 3 (by decide) rfl in_X8 gw_1_86 (fun _ z => z) dX8_reach_62 ?_
              refine J_iload_1 X dX8_reach_65 ?_
              refine JXm_14_2 X hR2 (v := p1) (vp_c c14 (fun q => not_lt32.mpr q c26) (by decide)) dX8_reach_66 (fun h3 hR3 => ?_)
              refine J_aload_0 X dX8_reach_67 ?_
              refine J_dup X dX8_reach_68 rfl ?_
              refine J_get X (C := RX8) (T := TX8) (N := 4) (ref := "NightValley$Walk") hR3.walk rfl 3 (by decide) rfl in_X8 gw_1_86 (fun _ z => z) dX8_reach_69 ?_
              refine J_iconst (v := 1) X dX8_reach_72 rfl ?_
              refine J_iadd X dX8_reach_73 ?_
              refine JXm_reachedCount X hR3 (v := (((sS (sS μ 11 (ix p1) p2) 12 (ix ((sS μ 11 (ix p1) p2) 1 0)) p1) 1 0) + (1 : Int32))) gw_1_86 dX8_reach_74 (fun h4 hR4 => ?_)
              exact K37_77 _ (by rw [j37_0]; exact hR4)
        · skip
          rw [if_neg c26] at q_s
          exact J_vret X rfl rfl ⟨rfl, by rw [q_s]; exact hR⟩ dX8_reach_29
def X_goOn_j31_s (σ : St) (μ : St) (p1 : Int32) (p2 : Int32) : St := (if (p1 - p1 / (8 : Int32) * (8 : Int32)) ≤ (0 : Int32) then μ else (X_reach_s σ μ (p1 - (1 : Int32)) ((μ 11 (ix p1)) + (1 : Int32)) p2))
def X_goOn_j47_s (σ : St) (μ : St) (p1 : Int32) (p2 : Int32) : St := (if (7 : Int32) ≤ (p1 - p1 / (8 : Int32) * (8 : Int32)) then (X_goOn_j31_s σ μ p1 p2) else (X_reach_s σ (X_goOn_j31_s σ μ p1 p2) (p1 + (1 : Int32)) ((μ 11 (ix p1)) + (1 : Int32)) p2))
def X_goOn_s (σ : St) (μ : St) (p1 : Int32) (p2 : Int32) : St := (if p1 < (0 : Int32) then μ else (if p1 < (64 : Int32) then (X_reach_s σ (X_reach_s σ (X_goOn_j47_s σ μ p1 p2) (p1 - (8 : Int32)) ((μ 11 (ix p1)) + (1 : Int32)) p2) (p1 + (8 : Int32)) ((μ 11 (ix p1)) + (1 : Int32)) p2) else μ))
theorem cw_X8_goOn : Cond.instanceMethod yX8_goOn ∈ GW ∧ Cond.selects RX8 yX8_goOn yX8_goOn ∈ GW ∧ Cond.initialized RX8 ∈ GW ∧ Cond.code yX8_goOn cX8_goOn 5 none ∈ GW ∧ yX8_goOn.cls = RX8 ∧ (yX8_goOn.cls ≠ "java/lang/invoke/MethodHandle" ∧ yX8_goOn.cls ≠ "java/lang/invoke/VarHandle") ∧ (parseMethodDescriptor yX8_goOn.desc).map (fun d => d.parameters.length) = some 2 := ⟨gw_4_37, gws_19, gw_1_6, gw_4_38, rfl, ⟨by decide, by decide⟩, by decide +kernel⟩
set_option maxRecDepth 100000 in
set_option maxHeartbeats 4000000 in
theorem c_X_goOn {l : Launch} {D : va_G} {ca : Nat → Nat} {h : fH} {ρ : Nat → Nat → Nat} {μ : St} {cap : Nat → Nat} {σ : St} (hR : RX ca h ρ μ cap σ) (p1 : Int32) (p2 : Int32) : FM l D ca yX8_goOn (.code yX8_goOn cX8_goOn 5 none) { frames := 2, cells := 0, slots := 0, locals := 43 } [.ref (ρ 4 0), .int p1, .int p2] h (pVM (fun h2 => RX ca h2 ρ (X_goOn_s σ μ p1 p2) cap σ)) noX := by
  refine FM.of [some (.ref (ρ 4 0)), some (.int p1), some (.int p2), none, none] (by decide) (Nat.le_of_ble_eq_true rfl) rfl ?_
  rintro K X rfl rfl rfl
  have q_s : (X_goOn_s σ μ p1 p2) = (if p1 < (0 : Int32) then μ else (if p1 < (64 : Int32) then (X_reach_s σ (X_reach_s σ (X_goOn_j47_s σ μ p1 p2) (p1 - (8 : Int32)) ((μ 11 (ix p1)) + (1 : Int32)) p2) (p1 + (8 : Int32)) ((μ 11 (ix p1)) + (1 : Int32)) p2) else μ)) := rfl
  refine J_iload_1 X dX8_goOn_0 ?_
  refine J_if_lt (tgt := 13) X dX8_goOn_1 (by decide) (fun c1 => ?_) (fun c1 => ?_)
  · skip
    rw [if_pos c1] at q_s
    exact J_vret X rfl rfl ⟨rfl, by rw [q_s]; exact hR⟩ dX8_goOn_13
  · skip
    rw [if_neg c1] at q_s
    refine J_iload_1 X dX8_goOn_4 ?_
    refine J_aload_0 X dX8_goOn_5 ?_
    refine J_get X (C := RX8) (T := TX8) (N := 4) (ref := "NightValley$Walk") hR.walk rfl 1 (by decide) rfl in_X8 gw_1_84 (fun _ z => z) dX8_goOn_6 ?_
    refine J_alen X (v := 64) (t := 0) (hR.warr (by decide)) rfl rfl dX8_goOn_9 ?_
    refine J_icmp_lt (tgt := 14) X dX8_goOn_10 (by decide) (fun c10 => ?_) (fun c10 => ?_)
    · skip
      rw [if_pos c10] at q_s
      refine J_aload_0 X dX8_goOn_14 ?_
      refine J_get X (C := RX8) (T := TX8) (N := 4) (ref := "NightValley$Walk") hR.walk rfl 1 (by decide) rfl in_X8 gw_1_84 (fun _ z => z) dX8_goOn_15 ?_
      refine J_iload_1 X dX8_goOn_18 ?_
      refine J_iald X (hR.warr (by decide)) (vp_c c1 (fun q => not_lt32.mpr q c10) (by decide)) dX8_goOn_19 ?_
      refine J_iconst (v := 1) X dX8_goOn_20 rfl ?_
      refine J_iadd X dX8_goOn_21 ?_
      refine J_istore_3 X dX8_goOn_22 rfl (by decide) ?_
      refine J_iload_1 X dX8_goOn_23 ?_
      refine J_bipush (v := (8 : Int32)) X dX8_goOn_24 (by decide) ?_
      refine J_irem X dX8_goOn_26 (by decide) ?_
      refine J_istore_4 X dX8_goOn_27 rfl (by decide) ?_
      refine J_iload_4 X dX8_goOn_29 ?_
      have K31_43 : ∀ hj1 : fH, RX (kca K) hj1 ρ (X_goOn_j31_s σ μ p1 p2) cap σ → J K hj1 [some (.ref (ρ 4 0)), some (.int p1), some (.int p2), some (.int ((μ 11 (ix p1)) + (1 : Int32))), some (.int (p1 - p1 / (8 : Int32) * (8 : Int32)))] [] 43 0 0 := by
        intro hj1 hRj1
        refine J_iload_4 X dX8_goOn_43 ?_
        refine J_bipush (v := (7 : Int32)) X dX8_goOn_45 (by decide) ?_
        have K47_59 : ∀ hj2 : fH, RX (kca K) hj2 ρ (X_goOn_j47_s σ μ p1 p2) cap σ → J K hj2 [some (.ref (ρ 4 0)), some (.int p1), some (.int p2), some (.int ((μ 11 (ix p1)) + (1 : Int32))), some (.int (p1 - p1 / (8 : Int32) * (8 : Int32)))] [] 59 0 0 := by
          intro hj2 hRj2
          refine J_aload_0 X dX8_goOn_59 ?_
          refine J_iload_1 X dX8_goOn_60 ?_
          refine J_bipush (v := (8 : Int32)) X dX8_goOn_61 (by decide) ?_
          refine J_isub X dX8_goOn_63 ?_
          refine J_iload_3 X dX8_goOn_64 ?_
          refine J_iload_2 X dX8_goOn_65 ?_
          refine J_callV X (c_X_reach hRj2 (p1 - (8 : Int32)) ((μ 11 (ix p1)) + (1 : Int32)) p2) (And.intro gw_4_31 cw_X8_reach) hRj2.walk rfl rfl rfl (Nat.le_of_ble_eq_true rfl) dX8_goOn_66 rfl (J.pvm (fun h3 hR3 => ?_)) JE.no
          refine J_aload_0 X dX8_goOn_69 ?_
          refine J_iload_1 X dX8_goOn_70 ?_
          refine J_bipush (v := (8 : Int32)) X dX8_goOn_71 (by decide) ?_
          refine J_iadd X dX8_goOn_73 ?_
          refine J_iload_3 X dX8_goOn_74 ?_
          refine J_iload_2 X dX8_goOn_75 ?_
          refine J_callV X (c_X_reach hR3 (p1 + (8 : Int32)) ((μ 11 (ix p1)) + (1 : Int32)) p2) (And.intro gw_4_31 cw_X8_reach) hR3.walk rfl rfl rfl (Nat.le_of_ble_eq_true rfl) dX8_goOn_76 rfl (J.pvm (fun h4 hR4 => ?_)) JE.no
          exact J_vret X rfl rfl ⟨rfl, by rw [q_s]; exact hR4⟩ dX8_goOn_79
        have j47_0 : X_goOn_j47_s σ μ p1 p2 = (if (7 : Int32) ≤ (p1 - p1 / (8 : Int32) * (8 : Int32)) then (X_goOn_j31_s σ μ p1 p2) else (X_reach_s σ (X_goOn_j31_s σ μ p1 p2) (p1 + (1 : Int32)) ((μ 11 (ix p1)) + (1 : Int32)) p2)) := rfl
        refine J_icmp_ge (tgt := 59) X dX8_goOn_47 (by decide) (fun c47 => ?_) (fun c47 => ?_)
        · skip
          rw [if_pos c47] at j47_0
          exact K47_59 _ (by rw [j47_0]; exact hRj1)
        · skip
          rw [if_neg c47] at j47_0
          refine J_aload_0 X dX8_goOn_50 ?_
          refine J_iload_1 X dX8_goOn_51 ?_
          refine J_iconst (v := 1) X dX8_goOn_52 rfl ?_
          refine J_iadd X dX8_goOn_53 ?_
          refine J_iload_3 X dX8_goOn_54 ?_
          refine J_iload_2 X dX8_goOn_55 ?_
          refine J_callV X (c_X_reach hRj1 (p1 + (1 : Int32)) ((μ 11 (ix p1)) + (1 : Int32)) p2) (And.intro gw_4_31 cw_X8_reach) hRj1.walk rfl rfl rfl (Nat.le_of_ble_eq_true rfl) dX8_goOn_56 rfl (J.pvm (fun h5 hR5 => ?_)) JE.no
          exact K47_59 _ (by rw [j47_0]; exact hR5)
      have j31_0 : X_goOn_j31_s σ μ p1 p2 = (if (p1 - p1 / (8 : Int32) * (8 : Int32)) ≤ (0 : Int32) then μ else (X_reach_s σ μ (p1 - (1 : Int32)) ((μ 11 (ix p1)) + (1 : Int32)) p2)) := rfl
      refine J_if_le (tgt := 43) X dX8_goOn_31 (by decide) (fun c31 => ?_) (fun c31 => ?_)
      · skip
        rw [if_pos c31] at j31_0
        exact K31_43 _ (by rw [j31_0]; exact hR)
      · skip
        rw [if_neg c31] at j31_0
        refine J_aload_0 X dX8_goOn_34 ?_
        refine J_iload_1 X dX8_goOn_35 ?_
        refine J_iconst (v := 1) X dX8_goOn_36 rfl ?_
        refine J_isub X dX8_goOn_37 ?_
        refine J_iload_3 X dX8_goOn_38 ?_
        refine J_iload_2 X dX8_goOn_39 ?_
        refine J_callV X (c_X_reach hR (p1 - (1 : Int32)) ((μ 11 (ix p1)) + (1 : Int32)) p2) (And.intro gw_4_31 cw_X8_reach) hR.walk rfl rfl rfl (Nat.le_of_ble_eq_true rfl) dX8_goOn_40 rfl (J.pvm (fun h6 hR6 => ?_)) JE.no
        exact K31_43 _ (by rw [j31_0]; exact hR6)
    · skip
      rw [if_neg c10] at q_s
      exact J_vret X rfl rfl ⟨rfl, by rw [q_s]; exact hR⟩ dX8_goOn_13
def X_shine_L2_s (σ : St) (μ : St) (p1 : Int32) (j : Nat) (K2s : St → St) : Nat → Nat → St → St
  | 0, _, s2 => K2s s2
  | n2 + 1, k2, s2 => (X_shine_L2_s σ μ p1 j K2s n2 (k2 + 1) (sS s2 10 (ix (nI k2)) ((s2 10 (ix (nI k2))) + (X_weakened p1 (((nI k2) - (nI k2) / (8 : Int32) * (8 : Int32)) - (nI (j % 8))) (((nI k2) / (8 : Int32)) - (nI (j / 8)))))))
def X_shine_s (σ : St) (μ : St) (p1 : Int32) (j : Nat) : St := (X_shine_L2_s σ μ p1 j (fun s2 => s2) n64 0 μ)
theorem cw_X8_shine : Cond.instanceMethod yX8_shine ∈ GW ∧ Cond.selects RX8 yX8_shine yX8_shine ∈ GW ∧ Cond.initialized RX8 ∈ GW ∧ Cond.code yX8_shine cX8_shine 4 none ∈ GW ∧ yX8_shine.cls = RX8 ∧ (yX8_shine.cls ≠ "java/lang/invoke/MethodHandle" ∧ yX8_shine.cls ≠ "java/lang/invoke/VarHandle") ∧ (parseMethodDescriptor yX8_shine.desc).map (fun d => d.parameters.length) = some 2 := ⟨gw_4_23, gw_4_24, gw_1_6, gw_4_25, rfl, ⟨by decide, by decide⟩, by decide +kernel⟩
set_option maxRecDepth 100000 in
set_option maxHeartbeats 4000000 in
theorem c_X_shine {l : Launch} {D : va_G} {ca : Nat → Nat} {h : fH} {ρ : Nat → Nat → Nat} {μ : St} {cap : Nat → Nat} {σ : St} (hR : RX ca h ρ μ cap σ) (p1 : Int32) (j : Nat) (hj : j < 64) : FM l D ca yX8_shine (.code yX8_shine cX8_shine 4 none) { frames := 2, cells := 0, slots := 0, locals := 43 } [.ref (ρ 4 0), .int p1, .ref (ρ 8 j)] h (pVM (fun h2 => RX ca h2 ρ (X_shine_s σ μ p1 j) cap σ)) noX := by
  refine FM.of [some (.ref (ρ 4 0)), some (.int p1), some (.ref (ρ 8 j)), none] (by decide) (Nat.le_of_ble_eq_true rfl) rfl ?_
  rintro K X rfl rfl rfl
  have q_s : (X_shine_s σ μ p1 j) = (X_shine_L2_s σ μ p1 j (fun s2 => s2) n64 0 μ) := rfl
  refine J_iconst (v := 0) X dX8_shine_0 rfl ?_
  refine J_istore_3 X dX8_shine_1 rfl (by decide) ?_
  have h64 := n64_eq
  obtain ⟨K2s, hK2s⟩ : ∃ f : St → St, f = (fun s2 => s2) := ⟨_, rfl⟩
  have X2 : ∀ (s2 : St) (h2_ : fH) (_ : True), RX (kca K) h2_ ρ s2 cap σ → (X_shine_s σ μ p1 j) = s2 → J K h2_ [some (.ref (ρ 4 0)), some (.int p1), some (.ref (ρ 8 j)), none] [] 48 0 0 := by
    intro s2 h2_ _ hR2_ q_s
    exact J_vret X rfl rfl ⟨rfl, by rw [q_s]; exact hR2_⟩ dX8_shine_48
  have L2 : ∀ (n2 k2 : Nat) (s2 : St) (h2_ : fH), k2 + n2 = n64 → RX (kca K) h2_ ρ s2 cap σ → (X_shine_s σ μ p1 j) = (X_shine_L2_s σ μ p1 j K2s n2 k2 s2) → J K h2_ [some (.ref (ρ 4 0)), some (.int p1), some (.ref (ρ 8 j)), some (.int (nI k2))] [] 2 0 0 := by
    intro n2
    induction n2 with
    | zero =>
      intro k2 s2 h2_ hk2 hR2_ q_s
      rw [X_shine_L2_s] at q_s
      refine J_iload_3 X dX8_shine_2 ?_
      refine J_aload_0 X dX8_shine_3 ?_
      refine J_get X (C := RX8) (T := TX8) (N := 4) (ref := "NightValley$Walk") hR2_.walk rfl 0 (by decide) rfl in_X8 gw_1_83 (fun _ z => z) dX8_shine_4 ?_
      refine J_alen X (v := 64) (t := 0) (hR2_.warr (by decide)) rfl rfl dX8_shine_7 ?_
      refine J_icmp_ge (tgt := 48) X dX8_shine_8 (by decide) (fun _ => ?_) (fun c => absurd (lp_exit (by rw [n64_eq]; rfl) (by omega) hk2) c)
      rw [hK2s] at q_s
      refine J.subL (lv' := [some (.ref (ρ 4 0)), some (.int p1), some (.ref (ρ 8 j)), none]) (And.intro rfl (And.intro rfl (And.intro rfl trivial))) ?_
      exact X2 s2 h2_ trivial hR2_ q_s
    | succ n2 ih2 =>
      intro k2 s2 h2_ hk2 hR2_ q_s
      rw [X_shine_L2_s] at q_s
      have hlt2 : k2 < n64 := by omega
      refine J_iload_3 X dX8_shine_2 ?_
      refine J_aload_0 X dX8_shine_3 ?_
      refine J_get X (C := RX8) (T := TX8) (N := 4) (ref := "NightValley$Walk") hR2_.walk rfl 0 (by decide) rfl in_X8 gw_1_83 (fun _ z => z) dX8_shine_4 ?_
      refine J_alen X (v := 64) (t := 0) (hR2_.warr (by decide)) rfl rfl dX8_shine_7 ?_
      refine J_icmp_ge (tgt := 48) X dX8_shine_8 (by decide) (fun c => absurd c (lp_stay (by rw [n64_eq]; rfl) (by omega) hk2)) (fun _ => ?_)
      refine J_aload_0 X dX8_shine_11 ?_
      refine J_get X (C := RX8) (T := TX8) (N := 4) (ref := "NightValley$Walk") hR2_.walk rfl 0 (by decide) rfl in_X8 gw_1_83 (fun _ z => z) dX8_shine_12 ?_
      refine J_iload_3 X dX8_shine_15 ?_
      refine J_dup2 X dX8_shine_16 rfl rfl ?_
      refine J_iald X (hR2_.warr (by decide)) (vp_in_nI (N := 64) (by omega) (by omega)) dX8_shine_17 ?_
      refine J_iload_1 X dX8_shine_18 ?_
      refine J_iload_3 X dX8_shine_19 ?_
      refine J_bipush (v := (8 : Int32)) X dX8_shine_20 (by decide) ?_
      refine J_irem X dX8_shine_22 (by decide) ?_
      refine J_aload_2 X dX8_shine_23 ?_
      refine J_get X (C := RX4) (T := TX4) (N := 4) (ref := "NightValley$Place") (hR2_.place hj) rfl 0 (by decide) rfl in_X4 gw_1_213 (fun _ z => z) dX8_shine_24 ?_
      refine J_isub X dX8_shine_27 ?_
      refine J_iload_3 X dX8_shine_28 ?_
      refine J_bipush (v := (8 : Int32)) X dX8_shine_29 (by decide) ?_
      refine J_idiv X dX8_shine_31 (by decide) ?_
      refine J_aload_2 X dX8_shine_32 ?_
      refine J_get X (C := RX4) (T := TX4) (N := 4) (ref := "NightValley$Place") (hR2_.place hj) rfl 1 (by decide) rfl in_X4 gw_1_216 (fun _ z => z) dX8_shine_33 ?_
      refine J_isub X dX8_shine_36 ?_
      refine J_callSN (host := "NightValley") X (c_X_weakened p1 (((nI k2) - (nI k2) / (8 : Int32) * (8 : Int32)) - (nI (j % 8))) (((nI k2) / (8 : Int32)) - (nI (j / 8)))) (And.intro (List.mem_of_getElem? (i := 12) rfl) cw_X10_weakened) rfl rfl (Nat.le_of_ble_eq_true rfl) dX8_shine_37 rfl (J.pi ?_) JE.no
      refine J_iadd X dX8_shine_40 ?_
      refine JXm_14_0 X hR2_ (v := ((s2 10 (ix (nI k2))) + (X_weakened p1 (((nI k2) - (nI k2) / (8 : Int32) * (8 : Int32)) - (nI (j % 8))) (((nI k2) / (8 : Int32)) - (nI (j / 8)))))) (vp_in_nI (N := 64) (by omega) (by omega)) dX8_shine_41 (fun h1 hR1 => ?_)
      refine J_iinc_3 (v := (nI (k2 + 1))) X dX8_shine_42 (nI_1 _) rfl (by decide) ?_
      refine J_goto (tgt := 2) X dX8_shine_45 (by decide) ?_
      exact ih2 (k2 + 1) (sS s2 10 (ix (nI k2)) ((s2 10 (ix (nI k2))) + (X_weakened p1 (((nI k2) - (nI k2) / (8 : Int32) * (8 : Int32)) - (nI (j % 8))) (((nI k2) / (8 : Int32)) - (nI (j / 8)))))) h1 (by omega) hR1 q_s
  have q_s : (X_shine_s σ μ p1 j) = (X_shine_L2_s σ μ p1 j K2s n64 0 μ) := by rw [hK2s]; exact q_s
  exact L2 n64 0 μ h (Nat.zero_add _) hR q_s
def X_clear_s (σ : St) (μ : St) : St := (sS μ 2 0 (0 : Int32))
theorem cw_X0_clear : Cond.instanceMethod yX0_clear ∈ GW ∧ Cond.selects RX0 yX0_clear yX0_clear ∈ GW ∧ Cond.initialized RX0 ∈ GW ∧ Cond.code yX0_clear cX0_clear 1 none ∈ GW ∧ yX0_clear.cls = RX0 ∧ (yX0_clear.cls ≠ "java/lang/invoke/MethodHandle" ∧ yX0_clear.cls ≠ "java/lang/invoke/VarHandle") ∧ (parseMethodDescriptor yX0_clear.desc).map (fun d => d.parameters.length) = some 0 := ⟨gw_4_53, gw_4_54, gw_1_7, gw_4_55, rfl, ⟨by decide, by decide⟩, by decide +kernel⟩
set_option maxRecDepth 100000 in
set_option maxHeartbeats 4000000 in
theorem c_X_clear {l : Launch} {D : va_G} {ca : Nat → Nat} {h : fH} {ρ : Nat → Nat → Nat} {μ : St} {cap : Nat → Nat} {σ : St} (hR : RX ca h ρ μ cap σ) : FM l D ca yX0_clear (.code yX0_clear cX0_clear 1 none) { frames := 1, cells := 0, slots := 0, locals := 20 } [.ref (ρ 5 0)] h (pVM (fun h2 => RX ca h2 ρ (X_clear_s σ μ) cap σ)) noX := by
  refine FM.of [some (.ref (ρ 5 0))] (by decide) (Nat.le_of_ble_eq_true rfl) rfl ?_
  rintro K X rfl rfl rfl
  have q_s : (X_clear_s σ μ) = (sS μ 2 0 (0 : Int32)) := rfl
  refine J_aload_0 X dX0_clear_0 ?_
  refine J_iconst (v := 0) X dX0_clear_1 rfl ?_
  refine JXm_count X hR (v := (0 : Int32)) gw_1_105 dX0_clear_2 (fun h1 hR1 => ?_)
  exact J_vret X rfl rfl ⟨rfl, by rw [q_s]; exact hR1⟩ dX0_clear_5
def X_offer_j4_s (σ : St) (μ : St) (p1 : Int32) (p2 : Int32) : St := (if (μ 2 0) < (0 : Int32) then μ else (if (10 : Int32) ≤ (μ 2 0) then μ else (sS (sS (sS μ 20 (ix (μ 2 0)) p1) 21 (ix ((sS μ 20 (ix (μ 2 0)) p1) 2 0)) p2) 2 0 (((sS (sS μ 20 (ix (μ 2 0)) p1) 21 (ix ((sS μ 20 (ix (μ 2 0)) p1) 2 0)) p2) 2 0) + (1 : Int32)))))
def X_offer_s (σ : St) (μ : St) (p1 : Int32) (p2 : Int32) : St := (X_offer_j4_s σ μ p1 p2)
theorem cw_X0_offer : Cond.instanceMethod yX0_offer ∈ GW ∧ Cond.selects RX0 yX0_offer yX0_offer ∈ GW ∧ Cond.initialized RX0 ∈ GW ∧ Cond.code yX0_offer cX0_offer 3 none ∈ GW ∧ yX0_offer.cls = RX0 ∧ (yX0_offer.cls ≠ "java/lang/invoke/MethodHandle" ∧ yX0_offer.cls ≠ "java/lang/invoke/VarHandle") ∧ (parseMethodDescriptor yX0_offer.desc).map (fun d => d.parameters.length) = some 2 := ⟨gw_4_61, gw_4_62, gw_1_7, gw_4_63, rfl, ⟨by decide, by decide⟩, by decide +kernel⟩
set_option maxRecDepth 100000 in
set_option maxHeartbeats 4000000 in
theorem c_X_offer {l : Launch} {D : va_G} {ca : Nat → Nat} {h : fH} {ρ : Nat → Nat → Nat} {μ : St} {cap : Nat → Nat} {σ : St} (hR : RX ca h ρ μ cap σ) (p1 : Int32) (p2 : Int32) : FM l D ca yX0_offer (.code yX0_offer cX0_offer 3 none) { frames := 1, cells := 0, slots := 0, locals := 20 } [.ref (ρ 5 0), .int p1, .int p2] h (pVM (fun h2 => RX ca h2 ρ (X_offer_s σ μ p1 p2) cap σ)) noX := by
  refine FM.of [some (.ref (ρ 5 0)), some (.int p1), some (.int p2)] (by decide) (Nat.le_of_ble_eq_true rfl) rfl ?_
  rintro K X rfl rfl rfl
  have q_s : (X_offer_s σ μ p1 p2) = (X_offer_j4_s σ μ p1 p2) := rfl
  refine J_aload_0 X dX0_offer_0 ?_
  refine J_get X (C := RX0) (T := TX0) (N := 3) (ref := "NightValley$Choice") hR.choice rfl 2 (by decide) rfl in_X0 gw_1_105 (fun _ z => z) dX0_offer_1 ?_
  have K4_46 : ∀ hj1 : fH, RX (kca K) hj1 ρ (X_offer_j4_s σ μ p1 p2) cap σ → J K hj1 [some (.ref (ρ 5 0)), some (.int p1), some (.int p2)] [] 46 0 0 := by
    intro hj1 hRj1
    exact J_vret X rfl rfl ⟨rfl, by rw [q_s]; exact hRj1⟩ dX0_offer_46
  have j4_0 : X_offer_j4_s σ μ p1 p2 = (if (μ 2 0) < (0 : Int32) then μ else (if (10 : Int32) ≤ (μ 2 0) then μ else (sS (sS (sS μ 20 (ix (μ 2 0)) p1) 21 (ix ((sS μ 20 (ix (μ 2 0)) p1) 2 0)) p2) 2 0 (((sS (sS μ 20 (ix (μ 2 0)) p1) 21 (ix ((sS μ 20 (ix (μ 2 0)) p1) 2 0)) p2) 2 0) + (1 : Int32))))) := rfl
  refine J_if_lt (tgt := 46) X dX0_offer_4 (by decide) (fun c4 => ?_) (fun c4 => ?_)
  · skip
    rw [if_pos c4] at j4_0
    exact K4_46 _ (by rw [j4_0]; exact hR)
  · skip
    rw [if_neg c4] at j4_0
    refine J_aload_0 X dX0_offer_7 ?_
    refine J_get X (C := RX0) (T := TX0) (N := 3) (ref := "NightValley$Choice") hR.choice rfl 2 (by decide) rfl in_X0 gw_1_105 (fun _ z => z) dX0_offer_8 ?_
    refine J_bipush (v := (10 : Int32)) X dX0_offer_11 (by decide) ?_
    refine J_icmp_ge (tgt := 46) X dX0_offer_13 (by decide) (fun c13 => ?_) (fun c13 => ?_)
    · skip
      rw [if_pos c13] at j4_0
      exact K4_46 _ (by rw [j4_0]; exact hR)
    · skip
      rw [if_neg c13] at j4_0
      refine J_aload_0 X dX0_offer_16 ?_
      refine J_get X (C := RX0) (T := TX0) (N := 3) (ref := "NightValley$Choice") hR.choice rfl 0 (by decide) rfl in_X0 gw_1_103 (fun _ z => z) dX0_offer_17 ?_
      refine J_aload_0 X dX0_offer_20 ?_
      refine J_get X (C := RX0) (T := TX0) (N := 3) (ref := "NightValley$Choice") hR.choice rfl 2 (by decide) rfl in_X0 gw_1_105 (fun _ z => z) dX0_offer_21 ?_
      refine J_iload_1 X dX0_offer_24 ?_
      refine JXm_15_0 X hR (v := p1) (vp_c c4 c13 (by decide)) dX0_offer_25 (fun h2 hR2 => ?_)
      refine J_aload_0 X dX0_offer_26 ?_
      refine J_get X (C := RX0) (T := TX0) (N := 3) (ref := "NightValley$Choice") hR2.choice rfl 1 (by decide) rfl in_X0 gw_1_104 (fun _ z => z) dX0_offer_27 ?_
      refine J_aload_0 X dX0_offer_30 ?_
      refine J_get X (C := RX0) (T := TX0) (N := 3) (ref := "NightValley$Choice") hR2.choice rfl 2 (by decide) rfl in_X0 gw_1_105 (fun _ z => z) dX0_offer_31 ?_
      refine J_iload_2 X dX0_offer_34 ?_
      refine JXm_15_1 X hR2 (v := p2) (vp_c c4 c13 (by decide)) dX0_offer_35 (fun h3 hR3 => ?_)
      refine J_aload_0 X dX0_offer_36 ?_
      refine J_dup X dX0_offer_37 rfl ?_
      refine J_get X (C := RX0) (T := TX0) (N := 3) (ref := "NightValley$Choice") hR3.choice rfl 2 (by decide) rfl in_X0 gw_1_105 (fun _ z => z) dX0_offer_38 ?_
      refine J_iconst (v := 1) X dX0_offer_41 rfl ?_
      refine J_iadd X dX0_offer_42 ?_
      refine JXm_count X hR3 (v := (((sS (sS μ 20 (ix (μ 2 0)) p1) 21 (ix ((sS μ 20 (ix (μ 2 0)) p1) 2 0)) p2) 2 0) + (1 : Int32))) gw_1_105 dX0_offer_43 (fun h4 hR4 => ?_)
      exact K4_46 _ (by rw [j4_0]; exact hR4)
end
