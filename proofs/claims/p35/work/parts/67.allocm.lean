noncomputable section
theorem RX.elem {ca : Nat → Nat} {h : fH} {ρ : Nat → Nat → Nat} {μ : Nat → Nat → Int32} {cap : Nat → Nat} {σ : St} (hR : RX ca h ρ μ cap σ) (hI : InvX σ) {q i y : Nat} (hq : q < 6 + ix (σ 26 0)) (hi : i < xL σ q) (hy : xD ρ σ q i = some y) : ∃ ci vs, h y = some (.inr (ci, vs)) ∧ ci ≠ 0 := by
  unfold xD at hy
  rw [if_pos hi] at hy
  cases hy
  match q with
  | 0 => exact ⟨10, _, hR.zone hi, by decide⟩
  | 1 => exact ⟨5, _, hR.place hi, by decide⟩
  | 2 => exact ⟨8, _, hR.village hi, by decide⟩
  | 3 => exact ⟨3, _, hR.lamp hi, by decide⟩
  | 4 => exact ⟨4, _, hR.meter hi, by decide⟩
  | 5 => exact ⟨7, _, hR.sat hi, by decide⟩
  | m + 6 =>
    have h1 : i < ix (σ 31 m) := hi
    exact ⟨6, _, hR.1 12 (10 * m + i) _ (if_pos (by have h2 := IX_reads hI m; rw [show (10 * m + i) / 10 = m by omega, show (10 * m + i) % 10 = i by omega]; exact ⟨by omega, h1⟩)), by decide⟩
theorem add_list {ca : Nat → Nat} {h : fH} {ρ : Nat → Nat → Nat} {μ : Nat → Nat → Int32} {cap : Nat → Nat} {σ : St} {x : va_E} (hR : RX ca h ρ μ cap σ) {q a : Nat} (hq : q < 6 + ix (σ 26 0)) (ha : h a = none) : fU h a x (ρ 1 q) = some (.inr (0, xList ρ μ σ q)) := by
  rw [fU_ne (fun z => by
    have := hR.list hq
    rw [z, ha] at this
    cases this)]
  exact hR.list hq
theorem c_addX {l : Launch} {D : va_G} {ca : Nat → Nat} {h : fH} {ρ : Nat → Nat → Nat} {μ : Nat → Nat → Int32} {cap : Nat → Nat} {σ : St} (hR : RX ca h ρ μ cap σ) (hI : InvX σ) (hcap : ∀ k, cap k ≤ 100) {q a ci : Nat} {vs : List Value} {r : vw_C} (hq : q < 6 + ix (σ 26 0)) (ha : h a = none) (hc : vwCl[ci]? = some r) (hca : Cond.castable r.1 "java/lang/Object" ∈ NWL) : FM l D ca yJx4a65c_add_9ea2d (.code yJx4a65c_add_9ea2d cJx4a65c_add_9ea2d 2 (some .boolean)) { frames := 6, cells := 1, slots := 100, locals := 250 } [.ref (ρ 1 q), .ref a] (fU h a (.inr (ci, vs))) (fun v h' => v = some (.int 1) ∧ rAdd ca (fU h a (.inr (ci, vs))) (ρ 1 q) (ρ 2 q) (cap q) (xL σ q) a (μ 0 q + 1) (xD ρ σ q) h') noX := by
  have hL := hR.list hq
  refine c_add1 (add_list hR hq ha) ?_ (hR.2.2 q hq).1 (hcap q) (IX_L hI q) ?_ ?_ ⟨ci, vs, r, fU_same _ _ _, hc, hca⟩ (fun z => by rw [z, hL] at ha; cases ha) ?_
  · by_cases w : 0 < cap q
    · have hd := hR.1 2 q _ (if_pos ⟨hq, w⟩)
      refine Or.inr ⟨w, ?_⟩
      rw [fU_ne (fun z => by rw [z, ha] at hd; cases hd)]
      exact hd
    · exact Or.inl ⟨by omega, (hR.2.2 q hq).2.2 (by omega)⟩
  · intro i hi y hy
    obtain ⟨cj, ws, r', o1, o2, o3⟩ := hR.ok hI hq hi hy
    exact ⟨cj, ws, r', by rw [fU_ne (fun z => by rw [z, ha] at o1; cases o1)]; exact o1, o2, o3⟩
  · intro i hi
    unfold xD
    exact if_neg (by omega)
  · intro i hi z
    obtain ⟨cj, ws, o1, o2⟩ := hR.elem hI hq hi z
    rw [hL] at o1
    cases o1
    exact o2 rfl
theorem RX.rootAt {ca : Nat → Nat} {h : fH} {ρ : Nat → Nat → Nat} {μ : Nat → Nat → Int32} {cap : Nat → Nat} {σ : St} {r : Nat} (hR : RX ca h ρ μ cap σ) (hr : ρ 0 0 = r) : h r = some (.inr (11, xRoot ρ σ)) := by
  rw [← hr]
  exact hR.root
theorem RX.fresh {ca : Nat → Nat} {h : fH} {ρ : Nat → Nat → Nat} {μ : Nat → Nat → Int32} {cap : Nat → Nat} {σ : St} {a : Nat} {x : va_E} (hR : RX ca h ρ μ cap σ) (ha : h a = none) : RX ca (fU h a x) ρ μ cap σ := by
  refine ⟨fun k i e he => ?_, hR.2.1, hR.2.2⟩
  have hh := hR.1 k i e he
  rw [fU_ne (fun z => by rw [z, ha] at hh; cases hh)]
  exact hh
theorem cntb {σ : St} {k N : Nat} (h : vp_in (σ k 0) (N + 1)) (hN : N < 1000) : nI (ix (σ k 0 + 1)) - 1 = σ k 0 := by
  obtain ⟨e, hle⟩ := cnt h (by omega)
  rw [cnt1 h hN, show (1 : Int32) = nI 1 from rfl, pk_sub (by omega), Nat.add_sub_cancel, ← e]
theorem cw_X3_init : Cond.instanceMethod yX3_init ∈ GW ∧ Cond.initialized yX3_init.cls ∈ GW ∧ Cond.code yX3_init cX3_init 4 none ∈ GW ∧ yX3_init.name = "<init>" ∧ (yX3_init.cls ≠ "java/lang/invoke/MethodHandle" ∧ yX3_init.cls ≠ "java/lang/invoke/VarHandle") ∧ (parseMethodDescriptor yX3_init.desc).map (fun d => d.parameters.length) = some 3 := ⟨gw_3_156, gw_1_24, gw_3_157, rfl, ⟨by decide, by decide⟩, by decide +kernel⟩
theorem c_newMeter {l : Launch} {D : va_G} {ca : Nat → Nat} {h : fH} {a p : Nat} {p2 p3 : Int32} (he : h a = some (.inr (4, [.null, .int 0, .int 0, .null, .int 0]))) : FM l D ca yX3_init (.code yX3_init cX3_init 4 none) { frames := 5, cells := 1, slots := 3, locals := 120 } [.ref a, .ref p, .int p2, .int p3] h (pVM (fun h2 => ∃ b, h b = none ∧ h2 = fU (fU h b (.inr (0, [.int 0, .ref (ca 4), .int 0]))) a (.inr (4, [.ref p, .int p2, .int p3, .ref b, .int 0])))) noX := by
  refine FM.of [some (.ref a), some (.ref p), some (.int p2), some (.int p3)] (by decide) (Nat.le_of_ble_eq_true rfl) rfl ?_
  rintro K X rfl rfl rfl
  refine J_aload_0 X dX3_init_0 ?_
  refine J_objInit X gw_3_158 rfl dX3_init_1 ?_
  refine J_aload_0 X dX3_init_4 ?_
  refine J_new X (C := RJx4a65c) (T := TJx4a65c) (N := 3) (ci := 0) (fs := [.int 0, .null, .int 0]) rfl in_Jx4a65c tyJx4a65c tyJx4a65c_ok gw_3_159 gw_1_35 gw_1_4 (by
    intro j hj
    match j with
    | 0 => rfl
    | 1 => rfl
    | 2 => rfl
    | k + 3 => exact absurd hj (by omega)) rfl dX3_init_5 (fun b hb => ?_)
  have hab : a ≠ b := fun z => by rw [← z, he] at hb; cases hb
  refine J_dup X dX3_init_8 rfl ?_
  refine J_callI X (c_alInit (fU_same _ _ _)) (And.intro gw_3_160 cw_Jx4a65c_init_da8c8) rfl rfl (Nat.le_of_ble_eq_true rfl) dX3_init_9 rfl (J.pvmX (fun h2 e2 => ?_)) JE.no
  rw [e2, fU_fU]
  have he2 : fU h b (.inr (0, [.int 0, .ref (kca K 4), .int 0])) a = some (.inr (4, [.null, .int 0, .int 0, .null, .int 0])) := by rw [fU_ne hab]; exact he
  refine J_putF X (C := RX3) (T := TX3) (N := 5) (ref := "NightValley$Meter") he2 rfl 3 (by decide) (Nat.le_of_ble_eq_true rfl) in_X3 tyX3 tyX3_ok nmX3 rfl rfl rfl rfl rfl gw_3_167 (fun _ z => z) dX3_init_12 ?_
  refine J_aload_0 X dX3_init_15 ?_
  refine J_aload_1 X dX3_init_16 ?_
  refine J_putF X (C := RX3) (T := TX3) (N := 5) (ref := "NightValley$Meter") (fU_same _ _ _) rfl 0 (by decide) (Nat.le_of_ble_eq_true rfl) in_X3 tyX3 tyX3_ok nmX3 rfl rfl rfl rfl rfl gw_3_161 (fun _ z => z) dX3_init_17 ?_
  refine J_aload_0 X dX3_init_20 ?_
  refine J_iload_2 X dX3_init_21 ?_
  refine J_putF X (C := RX3) (T := TX3) (N := 5) (ref := "NightValley$Meter") (fU_same _ _ _) rfl 1 (by decide) (Nat.le_of_ble_eq_true rfl) in_X3 tyX3 tyX3_ok nmX3 rfl rfl rfl rfl rfl gw_3_163 (fun _ z => z) dX3_init_22 ?_
  refine J_aload_0 X dX3_init_25 ?_
  refine J_iload_3 X dX3_init_26 ?_
  refine J_putF X (C := RX3) (T := TX3) (N := 5) (ref := "NightValley$Meter") (fU_same _ _ _) rfl 2 (by decide) (Nat.le_of_ble_eq_true rfl) in_X3 tyX3 tyX3_ok nmX3 rfl rfl rfl rfl rfl gw_3_165 (fun _ z => z) dX3_init_27 ?_
  refine J_vret X rfl rfl ⟨rfl, b, hb, ?_⟩ dX3_init_30
  repeat rw [fU_fU]
  rfl
end
