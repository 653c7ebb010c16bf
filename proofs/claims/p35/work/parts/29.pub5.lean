noncomputable section
section PUTS2
variable {K : KT} {mn own : String} {cc : ByteArray} {n : Nat} {ret : Option FieldType} {tb : List ExceptionTableEntry} {w0 : Cond} {rm : Room} {h0 : fH} {post : Option Value → fH → Prop} {px : String → fH → Prop}
variable {h : fH} {lv : LV} {st : List Value} {pc cells slots : Nat} {ca : Nat → Nat} {ρ : Nat → Nat → Nat} {μ : Nat → Nat → Int32} {cap : Nat → Nat} {σ : St}
theorem RXp_3_0 (hR : RX ca h ρ μ cap σ) {v : Int32} : RX ca (fU h (ρ 3 0) (.inr (2, (xLabel σ).set 0 (.int (if v = 0 then 1 else 0))))) ρ μ cap (sC σ 34 v) := by
  have e1 : xLabel (sC σ 34 v) = (xLabel σ).set 0 (.int (if v = 0 then 1 else 0)) := by
    unfold xLabel
    rw [sC_same]
    rfl
  have x0 : xC ca ρ μ cap σ 3 0 = some (.inr (2, xLabel σ)) := rfl
  have x1 : xC ca ρ μ cap (sC σ 34 v) 3 0 = some (.inr (2, (xLabel σ).set 0 (.int (if v = 0 then 1 else 0)))) := by
    rw [← e1]
    exact rfl
  refine hR.upd x0 x1 (fun k' i' q => ?_) (fun _ => rfl) rfl
  match k' with
  | 0 => exact rfl
  | 1 => exact rfl
  | 2 => exact rfl
  | 3 =>
    have e2 : ¬ i' = 0 := fun z => q ⟨rfl, z⟩
    show (if i' = 0 then some (Sum.inr (2, xLabel (sC σ 34 v))) else none) = (if i' = 0 then some (Sum.inr (2, xLabel σ)) else none)
    rw [if_neg e2, if_neg e2]
  | 4 => exact rfl
  | 5 => exact rfl
  | 6 => exact rfl
  | 7 => exact rfl
  | 8 => exact rfl
  | 9 => exact rfl
  | 10 => exact rfl
  | 11 => exact rfl
  | 12 => exact rfl
  | 13 => exact rfl
  | 14 => exact rfl
  | 15 => exact rfl
  | _ + 16 => exact rfl
theorem JX_p3_0 (X : JX K mn own cc n ret tb w0 rm h0 post px) (hR : RX (kca K) h ρ μ cap σ) {iz : Nat} {v : Int32} {w : Int32} (hw : (if v = 0 then (1 : Int32) else 0) = w) (hl : Cond.fieldLink own iz "NightValley$Label" "held" "Z" ∈ GW) (d : decode cc pc = .ok (.putfield iz, 3)) (kk : ∀ h', RX (kca K) h' ρ μ cap (sC σ 34 v) → J K h' lv st (pc + 3) cells slots) : J K h lv (.int w :: .ref (ρ 3 0) :: st) pc cells slots := by
  subst hw
  have hz : (if v = 0 then (1 : Int32) else 0) = 0 ∨ (if v = 0 then (1 : Int32) else 0) = 1 := by split <;> first | exact Or.inl rfl | exact Or.inr rfl
  exact J_put X (C := RX1) (T := TX1) (N := 3) (ref := "NightValley$Label") hR.label rfl 0 (by decide) (show 0 < (xLabel σ).length from (by decide : 0 < 3)) in_X1 tyX1 tyX1_ok nmX1 rfl (nar01 hz) (fit01 hz) hl (fun _ z => z) d (kk _ (RXp_3_0 hR))
theorem RXp_3_1 (hR : RX ca h ρ μ cap σ) {v : Int32} : RX ca (fU h (ρ 3 0) (.inr (2, (xLabel σ).set 1 (.int v)))) ρ μ cap (sC σ 36 v) := by
  have e1 : xLabel (sC σ 36 v) = (xLabel σ).set 1 (.int v) := by
    unfold xLabel
    rw [sC_same]
    rfl
  have x0 : xC ca ρ μ cap σ 3 0 = some (.inr (2, xLabel σ)) := rfl
  have x1 : xC ca ρ μ cap (sC σ 36 v) 3 0 = some (.inr (2, (xLabel σ).set 1 (.int v))) := by
    rw [← e1]
    exact rfl
  refine hR.upd x0 x1 (fun k' i' q => ?_) (fun _ => rfl) rfl
  match k' with
  | 0 => exact rfl
  | 1 => exact rfl
  | 2 => exact rfl
  | 3 =>
    have e2 : ¬ i' = 0 := fun z => q ⟨rfl, z⟩
    show (if i' = 0 then some (Sum.inr (2, xLabel (sC σ 36 v))) else none) = (if i' = 0 then some (Sum.inr (2, xLabel σ)) else none)
    rw [if_neg e2, if_neg e2]
  | 4 => exact rfl
  | 5 => exact rfl
  | 6 => exact rfl
  | 7 => exact rfl
  | 8 => exact rfl
  | 9 => exact rfl
  | 10 => exact rfl
  | 11 => exact rfl
  | 12 => exact rfl
  | 13 => exact rfl
  | 14 => exact rfl
  | 15 => exact rfl
  | _ + 16 => exact rfl
theorem JX_p3_1 (X : JX K mn own cc n ret tb w0 rm h0 post px) (hR : RX (kca K) h ρ μ cap σ) {iz : Nat} {v : Int32} (hl : Cond.fieldLink own iz "NightValley$Label" "successes" "I" ∈ GW) (d : decode cc pc = .ok (.putfield iz, 3)) (kk : ∀ h', RX (kca K) h' ρ μ cap (sC σ 36 v) → J K h' lv st (pc + 3) cells slots) : J K h lv (.int v :: .ref (ρ 3 0) :: st) pc cells slots := by
  exact J_put X (C := RX1) (T := TX1) (N := 3) (ref := "NightValley$Label") hR.label rfl 1 (by decide) (show 1 < (xLabel σ).length from (by decide : 1 < 3)) in_X1 tyX1 tyX1_ok nmX1 rfl rfl rfl hl (fun _ z => z) d (kk _ (RXp_3_1 hR))
theorem RXp_3_2 (hR : RX ca h ρ μ cap σ) {v : Int32} : RX ca (fU h (ρ 3 0) (.inr (2, (xLabel σ).set 2 (.int v)))) ρ μ cap (sC σ 35 v) := by
  have e1 : xLabel (sC σ 35 v) = (xLabel σ).set 2 (.int v) := by
    unfold xLabel
    rw [sC_same]
    rfl
  have x0 : xC ca ρ μ cap σ 3 0 = some (.inr (2, xLabel σ)) := rfl
  have x1 : xC ca ρ μ cap (sC σ 35 v) 3 0 = some (.inr (2, (xLabel σ).set 2 (.int v))) := by
    rw [← e1]
    exact rfl
  refine hR.upd x0 x1 (fun k' i' q => ?_) (fun _ => rfl) rfl
  match k' with
  | 0 => exact rfl
  | 1 => exact rfl
  | 2 => exact rfl
  | 3 =>
    have e2 : ¬ i' = 0 := fun z => q ⟨rfl, z⟩
    show (if i' = 0 then some (Sum.inr (2, xLabel (sC σ 35 v))) else none) = (if i' = 0 then some (Sum.inr (2, xLabel σ)) else none)
    rw [if_neg e2, if_neg e2]
  | 4 => exact rfl
  | 5 => exact rfl
  | 6 => exact rfl
  | 7 => exact rfl
  | 8 => exact rfl
  | 9 => exact rfl
  | 10 => exact rfl
  | 11 => exact rfl
  | 12 => exact rfl
  | 13 => exact rfl
  | 14 => exact rfl
  | 15 => exact rfl
  | _ + 16 => exact rfl
theorem JX_p3_2 (X : JX K mn own cc n ret tb w0 rm h0 post px) (hR : RX (kca K) h ρ μ cap σ) {iz : Nat} {v : Int32} (hl : Cond.fieldLink own iz "NightValley$Label" "failures" "I" ∈ GW) (d : decode cc pc = .ok (.putfield iz, 3)) (kk : ∀ h', RX (kca K) h' ρ μ cap (sC σ 35 v) → J K h' lv st (pc + 3) cells slots) : J K h lv (.int v :: .ref (ρ 3 0) :: st) pc cells slots := by
  exact J_put X (C := RX1) (T := TX1) (N := 3) (ref := "NightValley$Label") hR.label rfl 2 (by decide) (show 2 < (xLabel σ).length from (by decide : 2 < 3)) in_X1 tyX1 tyX1_ok nmX1 rfl rfl rfl hl (fun _ z => z) d (kk _ (RXp_3_2 hR))
end PUTS2
def X_follow_j2 (σ : St) (p1 : Int32) : Int32 := (if p1 = (0 : Int32) then (0 : Int32) else ((σ 36 0) + (1 : Int32)))
def X_follow_j20 (σ : St) (p1 : Int32) : Int32 := (if p1 = (0 : Int32) then (((sC σ 36 (X_follow_j2 σ p1)) 35 0) + (1 : Int32)) else (0 : Int32))
def X_follow_j41_s (σ : St) (p1 : Int32) : St := (if ((sC (sC σ 36 (X_follow_j2 σ p1)) 35 (X_follow_j20 σ p1)) 35 0) < (2 : Int32) then (sC (sC σ 36 (X_follow_j2 σ p1)) 35 (X_follow_j20 σ p1)) else (sC (sC (sC σ 36 (X_follow_j2 σ p1)) 35 (X_follow_j20 σ p1)) 34 (1 : Int32)))
def X_follow_j54_s (σ : St) (p1 : Int32) : St := (if ((X_follow_j41_s σ p1) 36 0) < (3 : Int32) then (X_follow_j41_s σ p1) else (sC (X_follow_j41_s σ p1) 34 (0 : Int32)))
def X_follow_s (σ : St) (p1 : Int32) : St := (X_follow_j54_s σ p1)
theorem cw_X1_follow : Cond.instanceMethod yX1_follow ∈ GW ∧ Cond.selects RX1 yX1_follow yX1_follow ∈ GW ∧ Cond.initialized RX1 ∈ GW ∧ Cond.code yX1_follow cX1_follow 2 none ∈ GW ∧ yX1_follow.cls = RX1 ∧ (yX1_follow.cls ≠ "java/lang/invoke/MethodHandle" ∧ yX1_follow.cls ≠ "java/lang/invoke/VarHandle") ∧ (parseMethodDescriptor yX1_follow.desc).map (fun d => d.parameters.length) = some 1 := ⟨gw_4_182, gw_4_183, gw_1_5, gw_4_184, rfl, ⟨by decide, by decide⟩, by decide +kernel⟩
set_option maxRecDepth 100000 in
set_option maxHeartbeats 4000000 in
theorem c_X_follow {l : Launch} {D : va_G} {ca : Nat → Nat} {h : fH} {ρ : Nat → Nat → Nat} {μ : Nat → Nat → Int32} {cap : Nat → Nat} {σ : St} (hR : RX ca h ρ μ cap σ) (p1 : Int32) : FM l D ca yX1_follow (.code yX1_follow cX1_follow 2 none) { frames := 1, cells := 0, slots := 0, locals := 20 } [.ref (ρ 3 0), .int p1] h (pVM (fun h2 => RX ca h2 ρ μ cap (X_follow_s σ p1))) noX := by
  refine FM.of [some (.ref (ρ 3 0)), some (.int p1)] (by decide) (Nat.le_of_ble_eq_true rfl) rfl ?_
  rintro K X rfl rfl rfl
  have q_s : (X_follow_s σ p1) = (X_follow_j54_s σ p1) := rfl
  refine J_aload_0 X dX1_follow_0 ?_
  refine J_iload_1 X dX1_follow_1 ?_
  have K2_15 : ∀ (v2_0 : Int32), v2_0 = (X_follow_j2 σ p1) → J K h [some (.ref (ρ 3 0)), some (.int p1)] [.int v2_0, .ref (ρ 3 0)] 15 0 0 := by
    intro v2_0 ev2_0
    try rw [ev2_0]
    clear ev2_0
    refine JX_p3_1 X hR (v := (X_follow_j2 σ p1)) gw_1_68 dX1_follow_15 (fun h1 hR1 => ?_)
    refine J_aload_0 X dX1_follow_18 ?_
    refine J_iload_1 X dX1_follow_19 ?_
    have K20_33 : ∀ (v20_0 : Int32), v20_0 = (X_follow_j20 σ p1) → J K h1 [some (.ref (ρ 3 0)), some (.int p1)] [.int v20_0, .ref (ρ 3 0)] 33 0 0 := by
      intro v20_0 ev20_0
      try rw [ev20_0]
      clear ev20_0
      refine JX_p3_2 X hR1 (v := (X_follow_j20 σ p1)) gw_1_69 dX1_follow_33 (fun h2 hR2 => ?_)
      refine J_aload_0 X dX1_follow_36 ?_
      refine J_get X (C := RX1) (T := TX1) (N := 3) (ref := "NightValley$Label") hR2.label rfl 2 (by decide) rfl in_X1 gw_1_69 (fun _ z => z) dX1_follow_37 ?_
      refine J_iconst (v := 2) X dX1_follow_40 rfl ?_
      have K41_49 : ∀ hj3 : fH, RX (kca K) hj3 ρ μ cap (X_follow_j41_s σ p1) → J K hj3 [some (.ref (ρ 3 0)), some (.int p1)] [] 49 0 0 := by
        intro hj3 hRj3
        refine J_aload_0 X dX1_follow_49 ?_
        refine J_get X (C := RX1) (T := TX1) (N := 3) (ref := "NightValley$Label") hRj3.label rfl 1 (by decide) rfl in_X1 gw_1_68 (fun _ z => z) dX1_follow_50 ?_
        refine J_iconst (v := 3) X dX1_follow_53 rfl ?_
        have K54_62 : ∀ hj4 : fH, RX (kca K) hj4 ρ μ cap (X_follow_j54_s σ p1) → J K hj4 [some (.ref (ρ 3 0)), some (.int p1)] [] 62 0 0 := by
          intro hj4 hRj4
          exact J_vret X rfl rfl ⟨rfl, by rw [q_s]; exact hRj4⟩ dX1_follow_62
        have j54_0 : X_follow_j54_s σ p1 = (if ((X_follow_j41_s σ p1) 36 0) < (3 : Int32) then (X_follow_j41_s σ p1) else (sC (X_follow_j41_s σ p1) 34 (0 : Int32))) := rfl
        refine J_icmp_lt (tgt := 62) X dX1_follow_54 (by decide) (fun c54 => ?_) (fun c54 => ?_)
        · skip
          rw [if_pos c54] at j54_0
          exact K54_62 _ (by rw [j54_0]; exact hRj3)
        · skip
          rw [if_neg c54] at j54_0
          refine J_aload_0 X dX1_follow_57 ?_
          refine J_iconst (v := 1) X dX1_follow_58 rfl ?_
          refine JX_p3_0 X hRj3 (v := (0 : Int32)) rfl gw_1_66 dX1_follow_59 (fun h5 hR5 => ?_)
          exact K54_62 _ (by rw [j54_0]; exact hR5)
      have j41_0 : X_follow_j41_s σ p1 = (if ((sC (sC σ 36 (X_follow_j2 σ p1)) 35 (X_follow_j20 σ p1)) 35 0) < (2 : Int32) then (sC (sC σ 36 (X_follow_j2 σ p1)) 35 (X_follow_j20 σ p1)) else (sC (sC (sC σ 36 (X_follow_j2 σ p1)) 35 (X_follow_j20 σ p1)) 34 (1 : Int32))) := rfl
      refine J_icmp_lt (tgt := 49) X dX1_follow_41 (by decide) (fun c41 => ?_) (fun c41 => ?_)
      · skip
        rw [if_pos c41] at j41_0
        exact K41_49 _ (by rw [j41_0]; exact hR2)
      · skip
        rw [if_neg c41] at j41_0
        refine J_aload_0 X dX1_follow_44 ?_
        refine J_iconst (v := 0) X dX1_follow_45 rfl ?_
        refine JX_p3_0 X hR2 (v := (1 : Int32)) rfl gw_1_66 dX1_follow_46 (fun h6 hR6 => ?_)
        exact K41_49 _ (by rw [j41_0]; exact hR6)
    have j20_0 : X_follow_j20 σ p1 = (if p1 = (0 : Int32) then (((sC σ 36 (X_follow_j2 σ p1)) 35 0) + (1 : Int32)) else (0 : Int32)) := rfl
    refine J_if_eq (tgt := 27) X dX1_follow_20 (by decide) (fun c20 => ?_) (fun c20 => ?_)
    · skip
      rw [if_pos c20] at j20_0
      refine J_aload_0 X dX1_follow_27 ?_
      refine J_get X (C := RX1) (T := TX1) (N := 3) (ref := "NightValley$Label") hR1.label rfl 2 (by decide) rfl in_X1 gw_1_69 (fun _ z => z) dX1_follow_28 ?_
      refine J_iconst (v := 1) X dX1_follow_31 rfl ?_
      refine J_iadd X dX1_follow_32 ?_
      exact K20_33 _ j20_0.symm
    · skip
      rw [if_neg c20] at j20_0
      refine J_iconst (v := 0) X dX1_follow_23 rfl ?_
      refine J_goto (tgt := 33) X dX1_follow_24 (by decide) ?_
      exact K20_33 _ j20_0.symm
  have j2_0 : X_follow_j2 σ p1 = (if p1 = (0 : Int32) then (0 : Int32) else ((σ 36 0) + (1 : Int32))) := rfl
  refine J_if_eq (tgt := 14) X dX1_follow_2 (by decide) (fun c2 => ?_) (fun c2 => ?_)
  · skip
    rw [if_pos c2] at j2_0
    refine J_iconst (v := 0) X dX1_follow_14 rfl ?_
    exact K2_15 _ j2_0.symm
  · skip
    rw [if_neg c2] at j2_0
    refine J_aload_0 X dX1_follow_5 ?_
    refine J_get X (C := RX1) (T := TX1) (N := 3) (ref := "NightValley$Label") hR.label rfl 1 (by decide) rfl in_X1 gw_1_68 (fun _ z => z) dX1_follow_6 ?_
    refine J_iconst (v := 1) X dX1_follow_9 rfl ?_
    refine J_iadd X dX1_follow_10 ?_
    refine J_goto (tgt := 15) X dX1_follow_11 (by decide) ?_
    exact K2_15 _ j2_0.symm
def X_audit_j37l2 (σ : St) (p1 : Int32) (k11 : Nat) (a11_2 : Int32) : Int32 := (if (X_keepsTo σ (ix (nI k11)) p1) = (0 : Int32) then (0 : Int32) else a11_2)
def X_audit_L11 (σ : St) (p1 : Int32) (K11 : Int32 → Int32) : Nat → Nat → Int32 → Int32
  | 0, _, a11_2 => K11 a11_2
  | n11 + 1, k11, a11_2 => (X_audit_L11 σ p1 K11 n11 (k11 + 1) (X_audit_j37l2 σ p1 k11 a11_2))
def X_audit_L11_s (σ : St) (p1 : Int32) (K11s : Int32 → St) : Nat → Nat → Int32 → St
  | 0, _, a11_2 => K11s a11_2
  | n11 + 1, k11, a11_2 => (X_audit_L11_s σ p1 K11s n11 (k11 + 1) (X_audit_j37l2 σ p1 k11 a11_2))
def X_audit_L11_c (σ : St) (p1 : Int32) (K11c : Int32 → Int32) : Nat → Nat → Int32 → Int32
  | 0, _, a11_2 => K11c a11_2
  | n11 + 1, k11, a11_2 => (X_audit_L11_c σ p1 K11c n11 (k11 + 1) (X_audit_j37l2 σ p1 k11 a11_2))
def X_audit (σ : St) (p1 : Int32) : Int32 := (if M_isIn p1 (0 : Int32) (100000 : Int32) = 0 then (0 : Int32) else (X_audit_L11 σ p1 (fun a11_2 => a11_2) (xL σ 4) 0 (1 : Int32)))
def X_audit_s (σ : St) (p1 : Int32) : St := (if M_isIn p1 (0 : Int32) (100000 : Int32) = 0 then σ else (X_audit_L11_s σ p1 (fun a11_2 => (X_follow_s σ a11_2)) (xL σ 4) 0 (1 : Int32)))
def X_audit_c (σ : St) (p1 : Int32) : Int32 := (if M_isIn p1 (0 : Int32) (100000 : Int32) = 0 then (2 : Int32) else (X_audit_L11_c σ p1 (fun a11_2 => (0 : Int32)) (xL σ 4) 0 (1 : Int32)))
theorem cw_X10_audit : Cond.instanceMethod yX10_audit ∈ GW ∧ Cond.selects RX10 yX10_audit yX10_audit ∈ GW ∧ Cond.initialized RX10 ∈ GW ∧ Cond.code yX10_audit cX10_audit 4 (some .boolean) ∈ GW ∧ yX10_audit.cls = RX10 ∧ (yX10_audit.cls ≠ "java/lang/invoke/MethodHandle" ∧ yX10_audit.cls ≠ "java/lang/invoke/VarHandle") ∧ (parseMethodDescriptor yX10_audit.desc).map (fun d => d.parameters.length) = some 1 := ⟨gw_4_174, gw_4_175, gw_1_1, gw_4_176, rfl, ⟨by decide, by decide⟩, by decide +kernel⟩
set_option maxRecDepth 100000 in
set_option maxHeartbeats 4000000 in
theorem c_X_audit {l : Launch} {D : va_G} {ca : Nat → Nat} {h : fH} {ρ : Nat → Nat → Nat} {μ : Nat → Nat → Int32} {cap : Nat → Nat} {σ : St} (hR : RX ca h ρ μ cap σ) (hI : InvX σ) (p1 : Int32) : FM l D ca yX10_audit (.code yX10_audit cX10_audit 4 (some .boolean)) { frames := 7, cells := 1, slots := 6, locals := 124 } [.ref (ρ 0 0), .int p1] h (pPub (some (.int (X_audit σ p1))) (X_audit_c σ p1) (fun h2 => RX ca h2 ρ μ cap (X_audit_s σ p1))) (pxX (X_audit_c σ p1) (fun h2 => RX ca h2 ρ μ cap (X_audit_s σ p1))) := by
  refine FM.of [some (.ref (ρ 0 0)), some (.int p1), none, none] (by decide) (Nat.le_of_ble_eq_true rfl) rfl ?_
  rintro K X rfl rfl rfl
  have q_v : (X_audit σ p1) = (if M_isIn p1 (0 : Int32) (100000 : Int32) = 0 then (0 : Int32) else (X_audit_L11 σ p1 (fun a11_2 => a11_2) (xL σ 4) 0 (1 : Int32))) := rfl
  have q_s : (X_audit_s σ p1) = (if M_isIn p1 (0 : Int32) (100000 : Int32) = 0 then σ else (X_audit_L11_s σ p1 (fun a11_2 => (X_follow_s σ a11_2)) (xL σ 4) 0 (1 : Int32))) := rfl
  have q_c : (X_audit_c σ p1) = (if M_isIn p1 (0 : Int32) (100000 : Int32) = 0 then (2 : Int32) else (X_audit_L11_c σ p1 (fun a11_2 => (0 : Int32)) (xL σ 4) 0 (1 : Int32))) := rfl
  refine J_iload_1 X dX10_audit_0 ?_
  refine J_iconst (v := 0) X dX10_audit_1 rfl ?_
  refine J_ldc (v := (100000 : Int32)) X dX10_audit_2 gw_4_14 ?_
  refine J_callS X (c_needRange p1 (0 : Int32) (100000 : Int32)) (And.intro gw_2_198 cw_X10_needRange) rfl rfl (Nat.le_of_ble_eq_true rfl) dX10_audit_4 rfl (fun v h2 e => ?_) (fun E h2 e => ?_)
  · skip
    obtain ⟨e1, e2, c4⟩ := e
    subst e1
    rw [e2]
    clear e2
    rw [if_neg c4] at q_v
    rw [if_neg c4] at q_s
    rw [if_neg c4] at q_c
    show J K h [some (.ref (ρ 0 0)), some (.int p1), none, none] [] 7 1 6
    refine J_iconst (v := 1) X dX10_audit_7 rfl ?_
    refine J_istore_2 X dX10_audit_8 rfl (by decide) ?_
    refine J_iconst (v := 0) X dX10_audit_9 rfl ?_
    refine J_istore_3 X dX10_audit_10 rfl (by decide) ?_
    have hle := IX_L hI 4
    obtain ⟨K11, hK11⟩ : ∃ f : Int32 → Int32, f = (fun a11_2 => a11_2) := ⟨_, rfl⟩
    obtain ⟨K11s, hK11s⟩ : ∃ f : Int32 → St, f = (fun a11_2 => (X_follow_s σ a11_2)) := ⟨_, rfl⟩
    obtain ⟨K11c, hK11c⟩ : ∃ f : Int32 → Int32, f = (fun a11_2 => (0 : Int32)) := ⟨_, rfl⟩
    have X11 : ∀ (a11_2 : Int32) (_ : True), a11_2 = 0 ∨ a11_2 = 1 → (X_audit σ p1) = a11_2 → (X_audit_s σ p1) = (X_follow_s σ a11_2) → (X_audit_c σ p1) = (0 : Int32) → J K h [some (.ref (ρ 0 0)), some (.int p1), some (.int a11_2), none] [] 48 1 6 := by
      intro a11_2  _ hb11 q_v q_s q_c
      refine J_aload_0 X dX10_audit_48 ?_
      refine J_get X (C := RX10) (T := TX10) (N := 11) (ref := "NightValley") hR.root rfl 6 (by decide) rfl in_X10 gw_1_238 (fun _ z => z) dX10_audit_49 ?_
      refine J_iload_2 X dX10_audit_52 ?_
      refine J_callV X (c_X_follow hR a11_2) (And.intro gw_4_181 cw_X1_follow) hR.label rfl rfl rfl (Nat.le_of_ble_eq_true rfl) dX10_audit_53 rfl (J.pvm (fun h1 hR1 => ?_)) JE.no
      refine J_iload_2 X dX10_audit_56 ?_
      exact J_zret X rfl hb11 rfl ⟨by rw [q_v], by rw [q_c], by rw [q_s]; exact hR1⟩ dX10_audit_57
    have L11 : ∀ (n11 k11 : Nat) (a11_2 : Int32), k11 + n11 = (xL σ 4) → a11_2 = 0 ∨ a11_2 = 1 → (X_audit σ p1) = (X_audit_L11 σ p1 K11 n11 k11 a11_2) → (X_audit_s σ p1) = (X_audit_L11_s σ p1 K11s n11 k11 a11_2) → (X_audit_c σ p1) = (X_audit_L11_c σ p1 K11c n11 k11 a11_2) → J K h [some (.ref (ρ 0 0)), some (.int p1), some (.int a11_2), some (.int (nI k11))] [] 11 1 6 := by
      intro n11
      induction n11 with
      | zero =>
        intro k11 a11_2  hk11 hb11 q_v q_s q_c
        rw [X_audit_L11] at q_v
        rw [X_audit_L11_s] at q_s
        rw [X_audit_L11_c] at q_c
        refine J_iload_3 X dX10_audit_11 ?_
        refine J_aload_0 X dX10_audit_12 ?_
        refine J_get X (C := RX10) (T := TX10) (N := 11) (ref := "NightValley") hR.root rfl 4 (by decide) rfl in_X10 gw_1_236 (fun _ z => z) dX10_audit_13 ?_
        refine J_callV X (c_Xsize hR (k := 4) (by omega)) (And.intro gw_2_34 cw_Jx4a65c_size_8abf5) (hR.list (by omega)) rfl rfl rfl (Nat.le_of_ble_eq_true rfl) dX10_audit_16 rfl (J.pi ?_) JE.no
        refine J_icmp_ge (tgt := 48) X dX10_audit_19 (by decide) (fun _ => ?_) (fun c => absurd (lp_exit rfl (by omega) hk11) c)
        rw [hK11] at q_v
        rw [hK11s] at q_s
        rw [hK11c] at q_c
        refine J.subL (lv' := [some (.ref (ρ 0 0)), some (.int p1), some (.int a11_2), none]) (And.intro rfl (And.intro rfl (And.intro rfl trivial))) ?_
        exact X11 a11_2  trivial hb11 q_v q_s q_c
      | succ n11 ih11 =>
        intro k11 a11_2  hk11 hb11 q_v q_s q_c
        rw [X_audit_L11] at q_v
        rw [X_audit_L11_s] at q_s
        rw [X_audit_L11_c] at q_c
        have hlt11 : k11 < (xL σ 4) := by omega
        refine J_iload_3 X dX10_audit_11 ?_
        refine J_aload_0 X dX10_audit_12 ?_
        refine J_get X (C := RX10) (T := TX10) (N := 11) (ref := "NightValley") hR.root rfl 4 (by decide) rfl in_X10 gw_1_236 (fun _ z => z) dX10_audit_13 ?_
        refine J_callV X (c_Xsize hR (k := 4) (by omega)) (And.intro gw_2_34 cw_Jx4a65c_size_8abf5) (hR.list (by omega)) rfl rfl rfl (Nat.le_of_ble_eq_true rfl) dX10_audit_16 rfl (J.pi ?_) JE.no
        refine J_icmp_ge (tgt := 48) X dX10_audit_19 (by decide) (fun c => absurd c (lp_stay rfl (by omega) hk11)) (fun _ => ?_)
        refine J_aload_0 X dX10_audit_22 ?_
        refine J_get X (C := RX10) (T := TX10) (N := 11) (ref := "NightValley") hR.root rfl 4 (by decide) rfl in_X10 gw_1_236 (fun _ z => z) dX10_audit_23 ?_
        refine J_iload_3 X dX10_audit_26 ?_
        refine J_callV X (c_Xget hR (k := 4) (by omega) (vp_in_nI (N := (xL σ 4)) (by omega) (by omega))) (And.intro gw_2_104 cw_Jx4a65c_get_915e3) (hR.list (by omega)) rfl rfl rfl (Nat.le_of_ble_eq_true rfl) dX10_audit_27 rfl (J.pa ?_) JE.no
        refine J_cast X (C := RX3) (T := TX3) (N := 5) (hR.meter (vp_lt (vp_in_nI (N := (xL σ 4)) (by omega) (by omega)))) rfl gw_3_153 dX10_audit_30 ?_
        refine J_iload_1 X dX10_audit_33 ?_
        refine J_callV X (c_X_keepsTo hR hI (ix (nI k11)) p1 (vp_lt (vp_in_nI (N := (xL σ 4)) (by omega) (by omega)))) (And.intro gw_4_177 cw_X3_keepsTo) (hR.meter (vp_lt (vp_in_nI (N := (xL σ 4)) (by omega) (by omega)))) rfl rfl rfl (Nat.le_of_ble_eq_true rfl) dX10_audit_34 rfl (J.pi ?_) JE.no
        have K37_42 : ∀ (v37_0 : Int32), v37_0 = (X_audit_j37l2 σ p1 k11 a11_2) → J K h [some (.ref (ρ 0 0)), some (.int p1), some (.int v37_0), some (.int (nI k11))] [] 42 1 6 := by
          intro v37_0 ev37_0
          try rw [ev37_0]
          clear ev37_0
          refine J_iinc_3 (v := (nI (k11 + 1))) X dX10_audit_42 (nI_1 _) rfl (by decide) ?_
          refine J_goto (tgt := 11) X dX10_audit_45 (by decide) ?_
          exact ih11 (k11 + 1) (X_audit_j37l2 σ p1 k11 a11_2)  (by omega) (by unfold X_audit_j37l2; split <;> first | exact hb11 | exact Or.inl rfl) q_v q_s q_c
        have j37_0 : X_audit_j37l2 σ p1 k11 a11_2 = (if (X_keepsTo σ (ix (nI k11)) p1) = (0 : Int32) then (0 : Int32) else a11_2) := rfl
        refine J_if_ne (tgt := 42) X dX10_audit_37 (by decide) (fun c37 => ?_) (fun c37 => ?_)
        · skip
          rw [if_neg c37] at j37_0
          exact K37_42 _ j37_0.symm
        · skip
          rw [if_pos c37] at j37_0
          refine J_iconst (v := 0) X dX10_audit_40 rfl ?_
          refine J_istore_2 X dX10_audit_41 rfl (by decide) ?_
          exact K37_42 _ j37_0.symm
    have q_v : (X_audit σ p1) = (X_audit_L11 σ p1 K11 (xL σ 4) 0 (1 : Int32)) := by rw [hK11]; exact q_v
    have q_s : (X_audit_s σ p1) = (X_audit_L11_s σ p1 K11s (xL σ 4) 0 (1 : Int32)) := by rw [hK11s]; exact q_s
    have q_c : (X_audit_c σ p1) = (X_audit_L11_c σ p1 K11c (xL σ 4) 0 (1 : Int32)) := by rw [hK11c]; exact q_c
    exact L11 (xL σ 4) 0 (1 : Int32)  (Nat.zero_add _) (Or.inr rfl) q_v q_s q_c
  · skip
    obtain ⟨e1, e2, c4⟩ := e
    subst e1
    rw [e2]
    clear e2
    rw [if_pos c4] at q_v
    rw [if_pos c4] at q_s
    rw [if_pos c4] at q_c
    exact JE_out X rfl rfl ⟨by rw [q_c]; rfl, by rw [q_c]; decide, by rw [q_s]; exact hR⟩
end
