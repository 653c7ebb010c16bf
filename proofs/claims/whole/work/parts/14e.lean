noncomputable section
def M_distance (σ : St) (p1 : Int32) (p2 : Int32) : Int32 := (((1 : Int32) + (((p2 - p2 / (8 : Int32) * (8 : Int32)) - ((σ 15 (ix p1)) - (σ 15 (ix p1)) / (8 : Int32) * (8 : Int32))) * ((p2 - p2 / (8 : Int32) * (8 : Int32)) - ((σ 15 (ix p1)) - (σ 15 (ix p1)) / (8 : Int32) * (8 : Int32))))) + (((p2 / (8 : Int32)) - ((σ 15 (ix p1)) / (8 : Int32))) * ((p2 / (8 : Int32)) - ((σ 15 (ix p1)) / (8 : Int32)))))
theorem cw_X11_distance : Cond.instanceMethod yX11_distance ∈ GW ∧ Cond.selects RX11 yX11_distance yX11_distance ∈ GW ∧ Cond.initialized RX11 ∈ GW ∧ Cond.code yX11_distance cX11_distance 5 (some .int) ∈ GW ∧ yX11_distance.cls = RX11 ∧ (yX11_distance.cls ≠ "java/lang/invoke/MethodHandle" ∧ yX11_distance.cls ≠ "java/lang/invoke/VarHandle") ∧ (parseMethodDescriptor yX11_distance.desc).map (fun d => d.parameters.length) = some 2 := ⟨gw_6_17, gws_34, gw_1_14, gw_6_18, rfl, ⟨by decide, by decide⟩, by decide +kernel⟩
set_option maxRecDepth 100000 in
set_option maxHeartbeats 4000000 in
theorem c_M_distance {l : Launch} {D : va_G} {ca : Nat → Nat} {h : fH} {m : Nat} {ρ : Nat → Nat} {σ : St} (hR : RM ca h m ρ σ) (p1 : Int32) (p2 : Int32) (hp1 : vp_in p1 40) : FM l D ca yX11_distance (.code yX11_distance cX11_distance 5 (some .int)) { frames := 1, cells := 0, slots := 0, locals := 20 } [.ref m, .int p1, .int p2] h (pI (M_distance σ p1 p2) h) noX := by
  refine FM.of [some (.ref m), some (.int p1), some (.int p2), none, none] (by decide) (Nat.le_of_ble_eq_true rfl) rfl ?_
  rintro K X rfl rfl rfl
  have q_v : (M_distance σ p1 p2) = (((1 : Int32) + (((p2 - p2 / (8 : Int32) * (8 : Int32)) - ((σ 15 (ix p1)) - (σ 15 (ix p1)) / (8 : Int32) * (8 : Int32))) * ((p2 - p2 / (8 : Int32) * (8 : Int32)) - ((σ 15 (ix p1)) - (σ 15 (ix p1)) / (8 : Int32) * (8 : Int32))))) + (((p2 / (8 : Int32)) - ((σ 15 (ix p1)) / (8 : Int32))) * ((p2 / (8 : Int32)) - ((σ 15 (ix p1)) / (8 : Int32))))) := rfl
  refine J_iload_2 X dX11_distance_0 ?_
  refine J_bipush (v := (8 : Int32)) X dX11_distance_1 (by decide) ?_
  refine J_irem X dX11_distance_3 (by decide) ?_
  refine J_aload_0 X dX11_distance_4 ?_
  refine JM_get X hR 15 (by decide) rfl rfl gw_5_25 dX11_distance_5 ?_
  refine J_iload_1 X dX11_distance_8 ?_
  refine JM_ald X hR 15 rfl rfl hp1 dX11_distance_9 ?_
  refine J_bipush (v := (8 : Int32)) X dX11_distance_10 (by decide) ?_
  refine J_irem X dX11_distance_12 (by decide) ?_
  refine J_isub X dX11_distance_13 ?_
  refine J_istore_3 X dX11_distance_14 rfl (by decide) ?_
  refine J_iload_2 X dX11_distance_15 ?_
  refine J_bipush (v := (8 : Int32)) X dX11_distance_16 (by decide) ?_
  refine J_idiv X dX11_distance_18 (by decide) ?_
  refine J_aload_0 X dX11_distance_19 ?_
  refine JM_get X hR 15 (by decide) rfl rfl gw_5_25 dX11_distance_20 ?_
  refine J_iload_1 X dX11_distance_23 ?_
  refine JM_ald X hR 15 rfl rfl hp1 dX11_distance_24 ?_
  refine J_bipush (v := (8 : Int32)) X dX11_distance_25 (by decide) ?_
  refine J_idiv X dX11_distance_27 (by decide) ?_
  refine J_isub X dX11_distance_28 ?_
  refine J_istore_4 X dX11_distance_29 rfl (by decide) ?_
  refine J_iconst (v := 1) X dX11_distance_31 rfl ?_
  refine J_iload_3 X dX11_distance_32 ?_
  refine J_iload_3 X dX11_distance_33 ?_
  refine J_imul X dX11_distance_34 ?_
  refine J_iadd X dX11_distance_35 ?_
  refine J_iload_4 X dX11_distance_36 ?_
  refine J_iload_4 X dX11_distance_38 ?_
  refine J_imul X dX11_distance_40 ?_
  refine J_iadd X dX11_distance_41 ?_
  exact J_iret X rfl rfl ⟨by rw [q_v], rfl⟩ dX11_distance_42
theorem dist_tab : ∀ a, a < 64 → ∀ b, b < 64 → ¬ (1 + (nI a - nI a / 8 * 8 - (nI b - nI b / 8 * 8)) * (nI a - nI a / 8 * 8 - (nI b - nI b / 8 * 8)) + (nI a / 8 - nI b / 8) * (nI a / 8 - nI b / 8)) = 0 := by decide +kernel
theorem distance_nz {σ : St} (hI : Inv σ) {l p : Int32} (hl : vp_in l 40) (hp : vp_in p 64) : ¬ M_distance σ l p = 0 := by
  have h1 := Inv_place hI (vp_lt hl)
  unfold M_distance
  rw [vp_nI' h1 (by decide), vp_nI' hp (by decide)]
  exact dist_tab _ (vp_lt hp) _ (vp_lt h1)
end
