noncomputable section
theorem cw_Jx4a65c_grow_92f84 : Cond.instanceMethod yJx4a65c_grow_92f84 ∈ GW ∧ Cond.selects RJx4a65c yJx4a65c_grow_92f84 yJx4a65c_grow_92f84 ∈ GW ∧ Cond.initialized RJx4a65c ∈ GW ∧ Cond.code yJx4a65c_grow_92f84 cJx4a65c_grow_92f84 4 (some (.array (.object "java/lang/Object"))) ∈ GW ∧ yJx4a65c_grow_92f84.cls = RJx4a65c ∧ (yJx4a65c_grow_92f84.cls ≠ "java/lang/invoke/MethodHandle" ∧ yJx4a65c_grow_92f84.cls ≠ "java/lang/invoke/VarHandle") ∧ (parseMethodDescriptor yJx4a65c_grow_92f84.desc).map (fun d => d.parameters.length) = some 1 := ⟨gw_1_159, gws_2, gw_1_4, gw_1_160, rfl, ⟨by decide, by decide⟩, by decide +kernel⟩
theorem cw_Jx4a65c_grow_d5877 : Cond.instanceMethod yJx4a65c_grow_d5877 ∈ GW ∧ Cond.selects RJx4a65c yJx4a65c_grow_d5877 yJx4a65c_grow_d5877 ∈ GW ∧ Cond.initialized RJx4a65c ∈ GW ∧ Cond.code yJx4a65c_grow_d5877 cJx4a65c_grow_d5877 1 (some (.array (.object "java/lang/Object"))) ∈ GW ∧ yJx4a65c_grow_d5877.cls = RJx4a65c ∧ (yJx4a65c_grow_d5877.cls ≠ "java/lang/invoke/MethodHandle" ∧ yJx4a65c_grow_d5877.cls ≠ "java/lang/invoke/VarHandle") ∧ (parseMethodDescriptor yJx4a65c_grow_d5877.desc).map (fun d => d.parameters.length) = some 0 := ⟨gw_1_155, gws_1, gw_1_4, gw_1_156, rfl, ⟨by decide, by decide⟩, by decide +kernel⟩
theorem cw_Jx4a65c_add_72be8 : Cond.instanceMethod yJx4a65c_add_72be8 ∈ GW ∧ Cond.selects RJx4a65c yJx4a65c_add_72be8 yJx4a65c_add_72be8 ∈ GW ∧ Cond.initialized RJx4a65c ∈ GW ∧ Cond.code yJx4a65c_add_72be8 cJx4a65c_add_72be8 4 none ∈ GW ∧ yJx4a65c_add_72be8.cls = RJx4a65c ∧ (yJx4a65c_add_72be8.cls ≠ "java/lang/invoke/MethodHandle" ∧ yJx4a65c_add_72be8.cls ≠ "java/lang/invoke/VarHandle") ∧ (parseMethodDescriptor yJx4a65c_add_72be8.desc).map (fun d => d.parameters.length) = some 3 := ⟨gw_1_151, gws_0, gw_1_4, gw_1_152, rfl, ⟨by decide, by decide⟩, by decide +kernel⟩
theorem cw_Jx4a65c_add_9ea2d : Cond.instanceMethod yJx4a65c_add_9ea2d ∈ GW ∧ Cond.selects RJx4a65c yJx4a65c_add_9ea2d yJx4a65c_add_9ea2d ∈ GW ∧ Cond.initialized RJx4a65c ∈ GW ∧ Cond.code yJx4a65c_add_9ea2d cJx4a65c_add_9ea2d 2 (some .boolean) ∈ GW ∧ yJx4a65c_add_9ea2d.cls = RJx4a65c ∧ (yJx4a65c_add_9ea2d.cls ≠ "java/lang/invoke/MethodHandle" ∧ yJx4a65c_add_9ea2d.cls ≠ "java/lang/invoke/VarHandle") ∧ (parseMethodDescriptor yJx4a65c_add_9ea2d.desc).map (fun d => d.parameters.length) = some 1 := ⟨gw_1_146, gw_1_147, gw_1_4, gw_1_148, rfl, ⟨by decide, by decide⟩, by decide +kernel⟩
/-- the list's array: none yet (the class's static one), or one of c cells -/
def dK (ca : Nat → Nat) (h : fH) (d c : Nat) (f : Nat → Option Nat) : Prop := (c = 0 ∧ d = ca 4) ∨ (0 < c ∧ h d = some (.inl (ca 2, c, fRefs f)))
section ALEN
variable {K : KT} {mn own : String} {cc : ByteArray} {n : Nat} {ret : Option FieldType} {tb : List ExceptionTableEntry} {w0 : Cond} {rm : Room} {h0 : fH} {post : Option Value → fH → Prop} {px : String → fH → Prop}
variable {h : fH} {lv : LV} {st : List Value} {pc cells slots : Nat}
theorem J_alenD (X : JX K mn own cc n ret tb w0 rm h0 post px) {a c : Nat} {f : Nat → Option Nat} (he : dK (kca K) h a c f) (d : decode cc pc = .ok (.arraylength, 1)) (k : J K h lv (.int (nI c) :: st) (pc + 1) cells slots) : J K h lv (.ref a :: st) pc cells slots := by
  rcases he with ⟨rfl, rfl⟩ | ⟨_, he⟩
  · intro H locs ls hP hD hS hl
    exact va_tlen X.1 X.2.1 X.2.2.2.2.2.2.2.1.2.2.2 hS (v := nI 0) rfl d (k H locs ls hP hD hS hl)
  · exact J_alen X (v := nI c) (t := 2) he rfl rfl d k
end ALEN
theorem shr1 {c : Nat} (h : c ≤ 64) : nI c >>> ((1 : Int32) &&& 31) = nI (c / 2) := by
  have q : ∀ j : Fin 65, nI j >>> ((1 : Int32) &&& 31) = nI (j / 2) := by decide +kernel
  exact q ⟨c, by omega⟩
theorem nI_sub1 (c : Nat) : nI (c + 1) - nI c = nI 1 := by
  rw [← nI_add, Int32.add_comm]
  exact Int32.add_sub_cancel _ _
abbrev pGrow (ca : Nat → Nat) (h : fH) (L c : Nat) (mc : Int32) (f : Nat → Option Nat) : Option Value → fH → Prop := fun v h' => ∃ b M, h b = none ∧ c < M ∧ M ≤ 100 ∧ v = some (.ref b) ∧ h' = fU (fU h b (.inl (ca 2, M, fRefs (fun k => if k < c then f k else none)))) L (.inr (0, [.int mc, .ref b, .int (nI c)]))
theorem c_grow1 {l : Launch} {D : va_G} {ca : Nat → Nat} {h : fH} {L d c : Nat} {mc : Int32} {f : Nat → Option Nat} (hL : h L = some (.inr (0, [.int mc, .ref d, .int (nI c)]))) (hd : dK ca h d c f) (h1 : c ≤ 64) (hel : ∀ i, i < c → ∀ y, f i = some y → oK h y) : FM l D ca yJx4a65c_grow_92f84 (.code yJx4a65c_grow_92f84 cJx4a65c_grow_92f84 4 (some (.array (.object "java/lang/Object")))) { frames := 3, cells := 1, slots := 100, locals := 130 } [.ref L, .int (nI (c + 1))] h (pGrow ca h L c mc f) noX := by
  refine FM.of [some (.ref L), some (.int (nI (c + 1))), none, none] (by decide) (Nat.le_of_ble_eq_true rfl) rfl ?_
  rintro K X rfl rfl rfl
  refine J_aload_0 X dJx4a65c_grow_92f84_0 ?_
  refine J_get X (C := RJx4a65c) (T := TJx4a65c) (N := 3) (ref := "java/util/ArrayList") hL rfl 1 (by decide) rfl in_Jx4a65c gw_1_48 (fun _ z => z) dJx4a65c_grow_92f84_1 ?_
  refine J_alenD X hd dJx4a65c_grow_92f84_4 ?_
  refine J_istore_2 X dJx4a65c_grow_92f84_5 rfl (by decide) ?_
  refine J_iload_2 X dJx4a65c_grow_92f84_6 ?_
  have big : 0 < c → J K h [some (.ref L), some (.int (nI (c + 1))), some (.int (nI c)), none] [] 20 0 0 := fun h0 => by
    have he : h d = some (.inl (kca K 2, c, fRefs f)) := by
      rcases hd with ⟨z, _⟩ | ⟨_, z⟩
      · omega
      · exact z
    refine J_iload_2 X dJx4a65c_grow_92f84_20 ?_
    refine J_iload_1 X dJx4a65c_grow_92f84_21 ?_
    refine J_iload_2 X dJx4a65c_grow_92f84_22 ?_
    refine J_isub X dJx4a65c_grow_92f84_23 ?_
    rw [nI_sub1]
    refine J_iload_2 X dJx4a65c_grow_92f84_24 ?_
    refine J_iconst (v := 1) X dJx4a65c_grow_92f84_25 rfl ?_
    refine J_ishr X dJx4a65c_grow_92f84_26 ?_
    rw [shr1 h1]
    refine J_callS X (c_newLen (c := c) (a := 1) (b := c / 2) (by omega) (by omega)) (And.intro gw_1_161 cw_J8_newLength_cabcc) rfl rfl (Nat.le_of_ble_eq_true rfl) dJx4a65c_grow_92f84_27 rfl (J.pi ?_) JE.no
    refine J_istore_3 X dJx4a65c_grow_92f84_30 rfl (by decide) ?_
    refine J_aload_0 X dJx4a65c_grow_92f84_31 ?_
    refine J_aload_0 X dJx4a65c_grow_92f84_32 ?_
    refine J_get X (C := RJx4a65c) (T := TJx4a65c) (N := 3) (ref := "java/util/ArrayList") hL rfl 1 (by decide) rfl in_Jx4a65c gw_1_48 (fun _ z => z) dJx4a65c_grow_92f84_33 ?_
    refine J_iload_3 X dJx4a65c_grow_92f84_36 ?_
    refine J_callS X (c_copy2 he (M := c + max 1 (c / 2)) (by omega) (by omega) hel) (And.intro gw_1_171 cw_J7_copyOf_1904c) rfl rfl (Nat.le_of_ble_eq_true rfl) dJx4a65c_grow_92f84_37 rfl (fun v h2 e => ?_) JE.no
    obtain ⟨b, hb, e1, e2⟩ := e
    subst e1
    subst e2
    have hne : L ≠ b := fun z => by rw [z, hb] at hL; cases hL
    refine J_dup_x1 X dJx4a65c_grow_92f84_40 rfl rfl ?_
    refine J_put X (C := RJx4a65c) (T := TJx4a65c) (N := 3) (ref := "java/util/ArrayList") (show fU h b _ L = _ by rw [fU_ne hne]; exact hL) rfl 1 (by decide) (Nat.le_of_ble_eq_true rfl) in_Jx4a65c tyJx4a65c tyJx4a65c_ok nmJx4a65c rfl rfl rfl gw_1_48 (fun _ z => z) dJx4a65c_grow_92f84_41 ?_
    exact J_aret X rfl (Or.inr ⟨_, rfl⟩) rfl ⟨b, _, hb, by omega, by omega, rfl, rfl⟩ dJx4a65c_grow_92f84_44
  refine J_if_gt (tgt := 20) X dJx4a65c_grow_92f84_7 (by decide) (fun q => big ?_) (fun q => ?_)
  · rcases Nat.eq_zero_or_pos c with z | z
    · rw [z] at q; exact absurd q (by decide)
    · exact z
  have hc0 : c = 0 := by
    rcases Nat.eq_zero_or_pos c with z | z
    · exact z
    · exact absurd (nI_lt (a := 0) (b := c) z (by omega)) q
  have hd4 : d = kca K 4 := by
    rcases hd with ⟨_, z⟩ | ⟨z, _⟩
    · exact z
    · omega
  refine J_aload_0 X dJx4a65c_grow_92f84_10 ?_
  refine J_get X (C := RJx4a65c) (T := TJx4a65c) (N := 3) (ref := "java/util/ArrayList") hL rfl 1 (by decide) rfl in_Jx4a65c gw_1_48 (fun _ z => z) dJx4a65c_grow_92f84_11 ?_
  refine J_gempty X gw_1_46 dJx4a65c_grow_92f84_14 ?_
  refine J_acmp_eq (tgt := 45) X dJx4a65c_grow_92f84_17 (by decide) (fun _ => ?_) (fun z => absurd hd4 z)
  refine J_aload_0 X dJx4a65c_grow_92f84_45 ?_
  refine J_bipush (v := 10) X dJx4a65c_grow_92f84_46 (by decide) ?_
  refine J_iload_1 X dJx4a65c_grow_92f84_48 ?_
  refine J_mmax X gw_1_204 gw_1_165 gw_1_10 gw_1_166 rfl rfl dJx4a65c_grow_92f84_49 ?_
  rw [show iMax (10 : Int32) (nI (c + 1)) = 10 by rw [hc0]; decide]
  refine J_newQ X (N := 10) gw_1_205 (by decide) rfl (by decide) rfl dJx4a65c_grow_92f84_52 (fun b hb => ?_)
  have hne : L ≠ b := fun z => by rw [z, hb] at hL; cases hL
  refine J_dup_x1 X dJx4a65c_grow_92f84_55 rfl rfl ?_
  refine J_put X (C := RJx4a65c) (T := TJx4a65c) (N := 3) (ref := "java/util/ArrayList") (show fU h b _ L = _ by rw [fU_ne hne]; exact hL) rfl 1 (by decide) (Nat.le_of_ble_eq_true rfl) in_Jx4a65c tyJx4a65c tyJx4a65c_ok nmJx4a65c rfl rfl rfl gw_1_48 (fun _ z => z) dJx4a65c_grow_92f84_56 ?_
  refine J_aret X rfl (Or.inr ⟨_, rfl⟩) rfl ⟨b, 10, hb, by omega, by omega, rfl, ?_⟩ dJx4a65c_grow_92f84_59
  rw [show (fun k => if k < c then f k else none) = (fun _ => none : Nat → Option Nat) from funext fun k => if_neg (by omega)]
  rfl
end
