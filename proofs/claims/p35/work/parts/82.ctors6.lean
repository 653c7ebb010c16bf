noncomputable section
theorem cw_X10_init : Cond.instanceMethod yX10_init ∈ GW ∧ Cond.initialized yX10_init.cls ∈ GW ∧ Cond.code yX10_init cX10_init 3 none ∈ GW ∧ yX10_init.name = "<init>" ∧ (yX10_init.cls ≠ "java/lang/invoke/MethodHandle" ∧ yX10_init.cls ≠ "java/lang/invoke/VarHandle") ∧ (parseMethodDescriptor yX10_init.desc).map (fun d => d.parameters.length) = some 0 := ⟨gw_1_29, gw_1_1, gw_1_30, rfl, ⟨by decide, by decide⟩, by decide +kernel⟩
def RGr (h : fH) (ρ : Nat → Nat → Nat) (C : Nat → Nat → Option va_E) (r : Nat) : Prop := RG h ρ C ∧ ρ 0 0 = r ∧ ∃ y, C 0 0 = some y
theorem RGr.new {h : fH} {ρ : Nat → Nat → Nat} {C : Nat → Nat → Option va_E} {r : Nat} (hG : RGr h ρ C r) {k i a : Nat} (x : va_E) (ha : h a = none) (hk : k ≠ 0) : RGr (fU h a x) (r2 ρ k i a) (u2 C k i x) r :=
  ⟨hG.1.new x ha, (r2_n (fun z => hk z.1.symm)).trans hG.2.1, by rw [u2_n (fun z => hk z.1.symm)]; exact hG.2.2⟩
theorem RGr.root {h : fH} {ρ : Nat → Nat → Nat} {C : Nat → Nat → Option va_E} {r : Nat} (hG : RGr h ρ C r) (x : va_E) : RGr (fU h r x) ρ (u2 C 0 0 x) r := by
  obtain ⟨h1, h2, y, hy⟩ := hG
  have := h1.set x hy
  rw [h2] at this
  exact ⟨this, h2, _, u2_s⟩
theorem RGr.set {h : fH} {ρ : Nat → Nat → Nat} {C : Nat → Nat → Option va_E} {r : Nat} (hG : RGr h ρ C r) {k i a : Nat} (x : va_E) {y : va_E} (ea : ρ k i = a) (hy : C k i = some y) (hk : k ≠ 0) : RGr (fU h a x) ρ (u2 C k i x) r := by
  rw [← ea]
  exact ⟨hG.1.set x hy, hG.2.1, by rw [u2_n (fun z => hk z.1.symm)]; exact hG.2.2⟩
theorem cC0 {ca : Nat → Nat} {ρ : Nat → Nat → Nat} {μ : Nat → Nat → Int32} {k i : Nat} (h : (k = 0 ∨ k = 3 ∨ k = 4 ∨ k = 5) ∧ 0 < i ∨ k = 1 ∧ 6 ≤ i ∨ k = 14 ∧ 3 ≤ i ∨ k = 15 ∧ 2 ≤ i ∨ k = 6 ∨ k = 7 ∨ k = 8 ∨ k = 2) : cC ca ρ μ (fun _ => 0) 0 0 k i = none := by
  rcases h with ⟨h, hi⟩ | ⟨rfl, hi⟩ | ⟨rfl, hi⟩ | ⟨rfl, hi⟩ | rfl | rfl | rfl | rfl
  · rcases h with rfl | rfl | rfl | rfl
    · exact if_neg (show ¬ i = 0 by omega)
    · exact if_neg (show ¬ i = 0 by omega)
    · exact if_neg (show ¬ i = 0 by omega)
    · exact if_neg (show ¬ i = 0 by omega)
  · exact if_neg (show ¬ i < 6 by omega)
  · exact if_neg (show ¬ i < 3 by omega)
  · exact if_neg (show ¬ i < 2 by omega)
  · show (if i < 0 then some (zZ (nI i) (ρ 7 i)) else none) = none
    exact if_neg (Nat.not_lt_zero i)
  · show (if i < 0 then some (zF ca) else none) = none
    exact if_neg (Nat.not_lt_zero i)
  · show (if i < 0 then some (Sum.inr (5, [Value.int (nI (i % 8)), Value.int (nI (i / 8)), Value.ref (ρ 6 0), Value.int 0])) else none) = none
    exact if_neg (Nat.not_lt_zero i)
  · exact if_neg (show ¬ (i < 6 ∧ 0 < 0) from fun z => Nat.lt_irrefl 0 z.2)
theorem hroom2 {a b c d : Nat} (h1 : a ≤ b) (h2 : c ≤ d) : (Nat.ble a b && Nat.ble c d) = true := by
  rw [Nat.ble_eq_true_of_le h1, Nat.ble_eq_true_of_le h2]
  rfl
theorem c_newNV {l : Launch} {D : va_G} {ca : Nat → Nat} {h : fH} {r : Nat} (he : h r = some (.inr (11, [.null, .null, .null, .null, .null, .null, .null, .null, .null, .int 0, .int 0]))) : FM l D ca yX10_init (.code yX10_init cX10_init 3 none) { frames := 7, cells := 154, slots := 11320, locals := 300 } [.ref r] h (pVM (fun h2 => ∃ ρ μ cap, CX ca h2 ρ μ cap 4 64 r)) noX := by
  refine FM.of [some (.ref r), none, none] (by decide) (Nat.le_of_ble_eq_true rfl) rfl ?_
  rintro K X rfl rfl rfl
  have hG : RGr h (r2 (fun _ _ => kca K 4) 0 0 r) (u2 (fun _ _ => none) 0 0 (.inr (11, [.null, .null, .null, .null, .null, .null, .null, .null, .null, .int 0, .int 0]))) r := by
    refine ⟨⟨fun k i x hx => ?_, fun k i k' i' x x' h1 h2 _ => ?_⟩, r2_s, _, u2_s⟩
    · by_cases w : k = 0 ∧ i = 0
      · obtain ⟨rfl, rfl⟩ := w
        rw [u2_s] at hx
        rw [r2_s, ← hx]
        exact he
      · rw [u2_n w] at hx
        cases hx
    · by_cases w : k = 0 ∧ i = 0
      · by_cases v : k' = 0 ∧ i' = 0
        · exact ⟨w.1.trans v.1.symm, w.2.trans v.2.symm⟩
        · rw [u2_n v] at h2
          cases h2
      · rw [u2_n w] at h1
        cases h1
  refine J_aload_0 X dX10_init_0 ?_
  refine J_objInit X gw_1_31 rfl dX10_init_1 ?_
  refine J_aload_0 X dX10_init_4 ?_
  refine J_new X (C := RJx4a65c) (T := TJx4a65c) (N := 3) (ci := 0) (fs := [.int 0, .null, .int 0]) rfl in_Jx4a65c tyJx4a65c tyJx4a65c_ok gw_1_34 gw_1_35 gw_1_4 (by
      intro j hj
      match j with
      | 0 => rfl
      | 1 => rfl
      | 2 => rfl
      | k + 3 => exact absurd hj (by omega)) rfl dX10_init_5 (fun a0 ha0 => ?_)
  refine J_dup X dX10_init_8 rfl ?_
  refine J_callI X (c_alInit (fU_same _ _ _)) (And.intro gw_1_36 cw_Jx4a65c_init_da8c8) rfl rfl (Nat.le_of_ble_eq_true rfl) dX10_init_9 rfl (J.pvmX (fun h2 e2 => ?_)) JE.no
  rw [e2, fU_fU]
  clear e2
  have hr1 := (fU_ne (h := h) (a := a0) (b := r) (e := .inr (0, [.int 0, .ref (kca K 4), .int 0])) (fun z => by rw [z] at he; rw [ha0] at he; cases he)).trans he
  have hG := hG.new (k := 1) (i := 0) (.inr (0, [.int 0, .ref (kca K 4), .int 0])) ha0 (by decide)
  refine J_putF X (C := RX10) (T := TX10) (N := 11) (ref := "NightValley") hr1 rfl 0 (by decide) (Nat.le_of_ble_eq_true rfl) in_X10 tyX10 tyX10_ok nmX10 rfl rfl rfl rfl rfl gw_1_232 (fun _ z => z) dX10_init_12 ?_
  have hG := hG.root (.inr (11, [.ref a0, .null, .null, .null, .null, .null, .null, .null, .null, .int 0, .int 0]))
  have he := fU_same (fU h a0 (.inr (0, [.int 0, .ref (kca K 4), .int 0]))) r (.inr (11, [.ref a0, .null, .null, .null, .null, .null, .null, .null, .null, .int 0, .int 0]))
  show J K (fU (fU h a0 (.inr (0, [.int 0, .ref (kca K 4), .int 0]))) r (.inr (11, [.ref a0, .null, .null, .null, .null, .null, .null, .null, .null, .int 0, .int 0]))) _ _ _ _ _
  generalize fU (fU h a0 (.inr (0, [.int 0, .ref (kca K 4), .int 0]))) r (.inr (11, [.ref a0, .null, .null, .null, .null, .null, .null, .null, .null, .int 0, .int 0])) = h at *
  refine J_aload_0 X dX10_init_15 ?_
  refine J_new X (C := RJx4a65c) (T := TJx4a65c) (N := 3) (ci := 0) (fs := [.int 0, .null, .int 0]) rfl in_Jx4a65c tyJx4a65c tyJx4a65c_ok gw_1_34 gw_1_35 gw_1_4 (by
      intro j hj
      match j with
      | 0 => rfl
      | 1 => rfl
      | 2 => rfl
      | k + 3 => exact absurd hj (by omega)) rfl dX10_init_16 (fun a1 ha1 => ?_)
  refine J_dup X dX10_init_19 rfl ?_
  refine J_callI X (c_alInit (fU_same _ _ _)) (And.intro gw_1_36 cw_Jx4a65c_init_da8c8) rfl rfl (Nat.le_of_ble_eq_true rfl) dX10_init_20 rfl (J.pvmX (fun h2 e2 => ?_)) JE.no
  rw [e2, fU_fU]
  clear e2
  have hr1 := (fU_ne (h := h) (a := a1) (b := r) (e := .inr (0, [.int 0, .ref (kca K 4), .int 0])) (fun z => by rw [z] at he; rw [ha1] at he; cases he)).trans he
  have hG := hG.new (k := 1) (i := 1) (.inr (0, [.int 0, .ref (kca K 4), .int 0])) ha1 (by decide)
  refine J_putF X (C := RX10) (T := TX10) (N := 11) (ref := "NightValley") hr1 rfl 1 (by decide) (Nat.le_of_ble_eq_true rfl) in_X10 tyX10 tyX10_ok nmX10 rfl rfl rfl rfl rfl gw_1_233 (fun _ z => z) dX10_init_23 ?_
  have hG := hG.root (.inr (11, [.ref a0, .ref a1, .null, .null, .null, .null, .null, .null, .null, .int 0, .int 0]))
  have he := fU_same (fU h a1 (.inr (0, [.int 0, .ref (kca K 4), .int 0]))) r (.inr (11, [.ref a0, .ref a1, .null, .null, .null, .null, .null, .null, .null, .int 0, .int 0]))
  show J K (fU (fU h a1 (.inr (0, [.int 0, .ref (kca K 4), .int 0]))) r (.inr (11, [.ref a0, .ref a1, .null, .null, .null, .null, .null, .null, .null, .int 0, .int 0]))) _ _ _ _ _
  generalize fU (fU h a1 (.inr (0, [.int 0, .ref (kca K 4), .int 0]))) r (.inr (11, [.ref a0, .ref a1, .null, .null, .null, .null, .null, .null, .null, .int 0, .int 0])) = h at *
  refine J_aload_0 X dX10_init_26 ?_
  refine J_new X (C := RJx4a65c) (T := TJx4a65c) (N := 3) (ci := 0) (fs := [.int 0, .null, .int 0]) rfl in_Jx4a65c tyJx4a65c tyJx4a65c_ok gw_1_34 gw_1_35 gw_1_4 (by
      intro j hj
      match j with
      | 0 => rfl
      | 1 => rfl
      | 2 => rfl
      | k + 3 => exact absurd hj (by omega)) rfl dX10_init_27 (fun a2 ha2 => ?_)
  refine J_dup X dX10_init_30 rfl ?_
  refine J_callI X (c_alInit (fU_same _ _ _)) (And.intro gw_1_36 cw_Jx4a65c_init_da8c8) rfl rfl (Nat.le_of_ble_eq_true rfl) dX10_init_31 rfl (J.pvmX (fun h2 e2 => ?_)) JE.no
  rw [e2, fU_fU]
  clear e2
  have hr1 := (fU_ne (h := h) (a := a2) (b := r) (e := .inr (0, [.int 0, .ref (kca K 4), .int 0])) (fun z => by rw [z] at he; rw [ha2] at he; cases he)).trans he
  have hG := hG.new (k := 1) (i := 2) (.inr (0, [.int 0, .ref (kca K 4), .int 0])) ha2 (by decide)
  refine J_putF X (C := RX10) (T := TX10) (N := 11) (ref := "NightValley") hr1 rfl 2 (by decide) (Nat.le_of_ble_eq_true rfl) in_X10 tyX10 tyX10_ok nmX10 rfl rfl rfl rfl rfl gw_1_234 (fun _ z => z) dX10_init_34 ?_
  have hG := hG.root (.inr (11, [.ref a0, .ref a1, .ref a2, .null, .null, .null, .null, .null, .null, .int 0, .int 0]))
  have he := fU_same (fU h a2 (.inr (0, [.int 0, .ref (kca K 4), .int 0]))) r (.inr (11, [.ref a0, .ref a1, .ref a2, .null, .null, .null, .null, .null, .null, .int 0, .int 0]))
  show J K (fU (fU h a2 (.inr (0, [.int 0, .ref (kca K 4), .int 0]))) r (.inr (11, [.ref a0, .ref a1, .ref a2, .null, .null, .null, .null, .null, .null, .int 0, .int 0]))) _ _ _ _ _
  generalize fU (fU h a2 (.inr (0, [.int 0, .ref (kca K 4), .int 0]))) r (.inr (11, [.ref a0, .ref a1, .ref a2, .null, .null, .null, .null, .null, .null, .int 0, .int 0])) = h at *
  refine J_aload_0 X dX10_init_37 ?_
  refine J_new X (C := RJx4a65c) (T := TJx4a65c) (N := 3) (ci := 0) (fs := [.int 0, .null, .int 0]) rfl in_Jx4a65c tyJx4a65c tyJx4a65c_ok gw_1_34 gw_1_35 gw_1_4 (by
      intro j hj
      match j with
      | 0 => rfl
      | 1 => rfl
      | 2 => rfl
      | k + 3 => exact absurd hj (by omega)) rfl dX10_init_38 (fun a3 ha3 => ?_)
  refine J_dup X dX10_init_41 rfl ?_
  refine J_callI X (c_alInit (fU_same _ _ _)) (And.intro gw_1_36 cw_Jx4a65c_init_da8c8) rfl rfl (Nat.le_of_ble_eq_true rfl) dX10_init_42 rfl (J.pvmX (fun h2 e2 => ?_)) JE.no
  rw [e2, fU_fU]
  clear e2
  have hr1 := (fU_ne (h := h) (a := a3) (b := r) (e := .inr (0, [.int 0, .ref (kca K 4), .int 0])) (fun z => by rw [z] at he; rw [ha3] at he; cases he)).trans he
  have hG := hG.new (k := 1) (i := 3) (.inr (0, [.int 0, .ref (kca K 4), .int 0])) ha3 (by decide)
  refine J_putF X (C := RX10) (T := TX10) (N := 11) (ref := "NightValley") hr1 rfl 3 (by decide) (Nat.le_of_ble_eq_true rfl) in_X10 tyX10 tyX10_ok nmX10 rfl rfl rfl rfl rfl gw_1_235 (fun _ z => z) dX10_init_45 ?_
  have hG := hG.root (.inr (11, [.ref a0, .ref a1, .ref a2, .ref a3, .null, .null, .null, .null, .null, .int 0, .int 0]))
  have he := fU_same (fU h a3 (.inr (0, [.int 0, .ref (kca K 4), .int 0]))) r (.inr (11, [.ref a0, .ref a1, .ref a2, .ref a3, .null, .null, .null, .null, .null, .int 0, .int 0]))
  show J K (fU (fU h a3 (.inr (0, [.int 0, .ref (kca K 4), .int 0]))) r (.inr (11, [.ref a0, .ref a1, .ref a2, .ref a3, .null, .null, .null, .null, .null, .int 0, .int 0]))) _ _ _ _ _
  generalize fU (fU h a3 (.inr (0, [.int 0, .ref (kca K 4), .int 0]))) r (.inr (11, [.ref a0, .ref a1, .ref a2, .ref a3, .null, .null, .null, .null, .null, .int 0, .int 0])) = h at *
  refine J_aload_0 X dX10_init_48 ?_
  refine J_new X (C := RJx4a65c) (T := TJx4a65c) (N := 3) (ci := 0) (fs := [.int 0, .null, .int 0]) rfl in_Jx4a65c tyJx4a65c tyJx4a65c_ok gw_1_34 gw_1_35 gw_1_4 (by
      intro j hj
      match j with
      | 0 => rfl
      | 1 => rfl
      | 2 => rfl
      | k + 3 => exact absurd hj (by omega)) rfl dX10_init_49 (fun a4 ha4 => ?_)
  refine J_dup X dX10_init_52 rfl ?_
  refine J_callI X (c_alInit (fU_same _ _ _)) (And.intro gw_1_36 cw_Jx4a65c_init_da8c8) rfl rfl (Nat.le_of_ble_eq_true rfl) dX10_init_53 rfl (J.pvmX (fun h2 e2 => ?_)) JE.no
  rw [e2, fU_fU]
  clear e2
  have hr1 := (fU_ne (h := h) (a := a4) (b := r) (e := .inr (0, [.int 0, .ref (kca K 4), .int 0])) (fun z => by rw [z] at he; rw [ha4] at he; cases he)).trans he
  have hG := hG.new (k := 1) (i := 4) (.inr (0, [.int 0, .ref (kca K 4), .int 0])) ha4 (by decide)
  refine J_putF X (C := RX10) (T := TX10) (N := 11) (ref := "NightValley") hr1 rfl 4 (by decide) (Nat.le_of_ble_eq_true rfl) in_X10 tyX10 tyX10_ok nmX10 rfl rfl rfl rfl rfl gw_1_236 (fun _ z => z) dX10_init_56 ?_
  have hG := hG.root (.inr (11, [.ref a0, .ref a1, .ref a2, .ref a3, .ref a4, .null, .null, .null, .null, .int 0, .int 0]))
  have he := fU_same (fU h a4 (.inr (0, [.int 0, .ref (kca K 4), .int 0]))) r (.inr (11, [.ref a0, .ref a1, .ref a2, .ref a3, .ref a4, .null, .null, .null, .null, .int 0, .int 0]))
  show J K (fU (fU h a4 (.inr (0, [.int 0, .ref (kca K 4), .int 0]))) r (.inr (11, [.ref a0, .ref a1, .ref a2, .ref a3, .ref a4, .null, .null, .null, .null, .int 0, .int 0]))) _ _ _ _ _
  generalize fU (fU h a4 (.inr (0, [.int 0, .ref (kca K 4), .int 0]))) r (.inr (11, [.ref a0, .ref a1, .ref a2, .ref a3, .ref a4, .null, .null, .null, .null, .int 0, .int 0])) = h at *
  refine J_aload_0 X dX10_init_59 ?_
  refine J_new X (C := RJx4a65c) (T := TJx4a65c) (N := 3) (ci := 0) (fs := [.int 0, .null, .int 0]) rfl in_Jx4a65c tyJx4a65c tyJx4a65c_ok gw_1_34 gw_1_35 gw_1_4 (by
      intro j hj
      match j with
      | 0 => rfl
      | 1 => rfl
      | 2 => rfl
      | k + 3 => exact absurd hj (by omega)) rfl dX10_init_60 (fun a5 ha5 => ?_)
  refine J_dup X dX10_init_63 rfl ?_
  refine J_callI X (c_alInit (fU_same _ _ _)) (And.intro gw_1_36 cw_Jx4a65c_init_da8c8) rfl rfl (Nat.le_of_ble_eq_true rfl) dX10_init_64 rfl (J.pvmX (fun h2 e2 => ?_)) JE.no
  rw [e2, fU_fU]
  clear e2
  have hr1 := (fU_ne (h := h) (a := a5) (b := r) (e := .inr (0, [.int 0, .ref (kca K 4), .int 0])) (fun z => by rw [z] at he; rw [ha5] at he; cases he)).trans he
  have hG := hG.new (k := 1) (i := 5) (.inr (0, [.int 0, .ref (kca K 4), .int 0])) ha5 (by decide)
  refine J_putF X (C := RX10) (T := TX10) (N := 11) (ref := "NightValley") hr1 rfl 5 (by decide) (Nat.le_of_ble_eq_true rfl) in_X10 tyX10 tyX10_ok nmX10 rfl rfl rfl rfl rfl gw_1_237 (fun _ z => z) dX10_init_67 ?_
  have hG := hG.root (.inr (11, [.ref a0, .ref a1, .ref a2, .ref a3, .ref a4, .ref a5, .null, .null, .null, .int 0, .int 0]))
  have he := fU_same (fU h a5 (.inr (0, [.int 0, .ref (kca K 4), .int 0]))) r (.inr (11, [.ref a0, .ref a1, .ref a2, .ref a3, .ref a4, .ref a5, .null, .null, .null, .int 0, .int 0]))
  show J K (fU (fU h a5 (.inr (0, [.int 0, .ref (kca K 4), .int 0]))) r (.inr (11, [.ref a0, .ref a1, .ref a2, .ref a3, .ref a4, .ref a5, .null, .null, .null, .int 0, .int 0]))) _ _ _ _ _
  generalize fU (fU h a5 (.inr (0, [.int 0, .ref (kca K 4), .int 0]))) r (.inr (11, [.ref a0, .ref a1, .ref a2, .ref a3, .ref a4, .ref a5, .null, .null, .null, .int 0, .int 0])) = h at *
  refine J_aload_0 X dX10_init_70 ?_
  refine J_new X (C := RX1) (T := TX1) (N := 3) (ci := 2) (fs := [.int 0, .int 0, .int 0]) rfl in_X1 tyX1 tyX1_ok gw_1_60 gw_1_61 gw_1_5 (by
      intro j hj
      match j with
      | 0 => rfl
      | 1 => rfl
      | 2 => rfl
      | k + 3 => exact absurd hj (by omega)) rfl dX10_init_71 (fun c6 hc6 => ?_)
  refine J_dup X dX10_init_74 rfl ?_
  refine J_callIN X (c_newLabel (fU_same _ _ _)) (And.intro (cst_in (i := 0) rfl) cw_X1_init) rfl rfl (Nat.le_of_ble_eq_true rfl) dX10_init_75 rfl (J.pvmX (fun h2 e2 => ?_)) JE.no
  rw [e2, fU_fU]
  clear e2
  have hr1 := (fU_ne (h := h) (a := c6) (b := r) (e := .inr (2, [.int 1, .int 0, .int 0])) (fun z => by rw [z] at he; rw [hc6] at he; cases he)).trans he
  have hG := hG.new (k := 3) (i := 0) (.inr (2, [.int 1, .int 0, .int 0])) hc6 (by decide)
  refine J_putF X (C := RX10) (T := TX10) (N := 11) (ref := "NightValley") hr1 rfl 6 (by decide) (Nat.le_of_ble_eq_true rfl) in_X10 tyX10 tyX10_ok nmX10 rfl rfl rfl rfl rfl gw_1_238 (fun _ z => z) dX10_init_78 ?_
  have hG := hG.root (.inr (11, [.ref a0, .ref a1, .ref a2, .ref a3, .ref a4, .ref a5, .ref c6, .null, .null, .int 0, .int 0]))
  have he := fU_same (fU h c6 (.inr (2, [.int 1, .int 0, .int 0]))) r (.inr (11, [.ref a0, .ref a1, .ref a2, .ref a3, .ref a4, .ref a5, .ref c6, .null, .null, .int 0, .int 0]))
  show J K (fU (fU h c6 (.inr (2, [.int 1, .int 0, .int 0]))) r (.inr (11, [.ref a0, .ref a1, .ref a2, .ref a3, .ref a4, .ref a5, .ref c6, .null, .null, .int 0, .int 0]))) _ _ _ _ _
  generalize fU (fU h c6 (.inr (2, [.int 1, .int 0, .int 0]))) r (.inr (11, [.ref a0, .ref a1, .ref a2, .ref a3, .ref a4, .ref a5, .ref c6, .null, .null, .int 0, .int 0])) = h at *
  refine J_aload_0 X dX10_init_81 ?_
  refine J_new X (C := RX8) (T := TX8) (N := 4) (ci := 9) (fs := [.null, .null, .null, .int 0]) rfl in_X8 tyX8 tyX8_ok gw_1_77 gw_1_78 gw_1_6 (by
      intro j hj
      match j with
      | 0 => rfl
      | 1 => rfl
      | 2 => rfl
      | 3 => rfl
      | k + 4 => exact absurd hj (by omega)) rfl dX10_init_82 (fun c7 hc7 => ?_)
  refine J_dup X dX10_init_85 rfl ?_
  refine J_callIN X (c_newWalk (fU_same _ _ _)) (And.intro (cst_in (i := 1) rfl) cw_X8_init) rfl rfl (Nat.le_of_ble_eq_true rfl) dX10_init_86 rfl (J.pvmX (fun h2 e2 => ?_)) JE.no
  obtain ⟨b40, b41, b42, hb40, hb41, hb42, e2⟩ := e2
  rw [e2]
  clear e2
  have hG := hG.new (k := 4) (i := 0) (.inr (9, [.null, .null, .null, .int 0])) hc7 (by decide)
  have hG := hG.new (k := 14) (i := 0) (zI (kca K) 64) hb40 (by decide)
  have hG := hG.new (k := 14) (i := 1) (zI (kca K) 64) hb41 (by decide)
  have hG := hG.new (k := 14) (i := 2) (zI (kca K) 64) hb42 (by decide)
  have hG := hG.set (k := 4) (i := 0) (a := c7) (.inr (9, [.ref b40, .ref b41, .ref b42, .int 0])) rfl rfl (by decide)
  have hr1 : (fU (fU (fU (fU (fU h c7 (.inr (9, [.null, .null, .null, .int 0]))) b40 (zI (kca K) 64)) b41 (zI (kca K) 64)) b42 (zI (kca K) 64)) c7 (.inr (9, [.ref b40, .ref b41, .ref b42, .int 0]))) r = some (.inr (11, [.ref a0, .ref a1, .ref a2, .ref a3, .ref a4, .ref a5, .ref c6, .null, .null, .int 0, .int 0])) := by
    have nr : ∀ a x (g : fH), g r = some x → g a = none → r ≠ a := fun a x g z w v => by rw [v, w] at z; cases z
    have n0 := nr c7 _ h he hc7
    have q0 : fU h c7 (.inr (9, [.null, .null, .null, .int 0])) r = some (.inr (11, [.ref a0, .ref a1, .ref a2, .ref a3, .ref a4, .ref a5, .ref c6, .null, .null, .int 0, .int 0])) := by rw [fU_ne n0]; exact he
    have m0 := nr b40 _ _ q0 hb40
    have q1 : (fU (fU h c7 (.inr (9, [.null, .null, .null, .int 0]))) b40 (zI (kca K) 64)) r = some (.inr (11, [.ref a0, .ref a1, .ref a2, .ref a3, .ref a4, .ref a5, .ref c6, .null, .null, .int 0, .int 0])) := by rw [fU_ne m0]; exact q0
    have m1 := nr b41 _ _ q1 hb41
    have q2 : (fU (fU (fU h c7 (.inr (9, [.null, .null, .null, .int 0]))) b40 (zI (kca K) 64)) b41 (zI (kca K) 64)) r = some (.inr (11, [.ref a0, .ref a1, .ref a2, .ref a3, .ref a4, .ref a5, .ref c6, .null, .null, .int 0, .int 0])) := by rw [fU_ne m1]; exact q1
    have m2 := nr b42 _ _ q2 hb42
    have q3 : (fU (fU (fU (fU h c7 (.inr (9, [.null, .null, .null, .int 0]))) b40 (zI (kca K) 64)) b41 (zI (kca K) 64)) b42 (zI (kca K) 64)) r = some (.inr (11, [.ref a0, .ref a1, .ref a2, .ref a3, .ref a4, .ref a5, .ref c6, .null, .null, .int 0, .int 0])) := by rw [fU_ne m2]; exact q2
    rw [fU_ne n0]
    exact q3
  refine J_putF X (C := RX10) (T := TX10) (N := 11) (ref := "NightValley") hr1 rfl 7 (by decide) (Nat.le_of_ble_eq_true rfl) in_X10 tyX10 tyX10_ok nmX10 rfl rfl rfl rfl rfl gw_1_239 (fun _ z => z) dX10_init_89 ?_
  have hG := hG.root (.inr (11, [.ref a0, .ref a1, .ref a2, .ref a3, .ref a4, .ref a5, .ref c6, .ref c7, .null, .int 0, .int 0]))
  have he := fU_same (fU (fU (fU (fU (fU h c7 (.inr (9, [.null, .null, .null, .int 0]))) b40 (zI (kca K) 64)) b41 (zI (kca K) 64)) b42 (zI (kca K) 64)) c7 (.inr (9, [.ref b40, .ref b41, .ref b42, .int 0]))) r (.inr (11, [.ref a0, .ref a1, .ref a2, .ref a3, .ref a4, .ref a5, .ref c6, .ref c7, .null, .int 0, .int 0]))
  show J K (fU (fU (fU (fU (fU (fU h c7 (.inr (9, [.null, .null, .null, .int 0]))) b40 (zI (kca K) 64)) b41 (zI (kca K) 64)) b42 (zI (kca K) 64)) c7 (.inr (9, [.ref b40, .ref b41, .ref b42, .int 0]))) r (.inr (11, [.ref a0, .ref a1, .ref a2, .ref a3, .ref a4, .ref a5, .ref c6, .ref c7, .null, .int 0, .int 0]))) _ _ _ _ _
  generalize fU (fU (fU (fU (fU (fU h c7 (.inr (9, [.null, .null, .null, .int 0]))) b40 (zI (kca K) 64)) b41 (zI (kca K) 64)) b42 (zI (kca K) 64)) c7 (.inr (9, [.ref b40, .ref b41, .ref b42, .int 0]))) r (.inr (11, [.ref a0, .ref a1, .ref a2, .ref a3, .ref a4, .ref a5, .ref c6, .ref c7, .null, .int 0, .int 0])) = h at *
  refine J_aload_0 X dX10_init_92 ?_
  refine J_new X (C := RX0) (T := TX0) (N := 3) (ci := 1) (fs := [.null, .null, .int 0]) rfl in_X0 tyX0 tyX0_ok gw_1_97 gw_1_98 gw_1_7 (by
      intro j hj
      match j with
      | 0 => rfl
      | 1 => rfl
      | 2 => rfl
      | k + 3 => exact absurd hj (by omega)) rfl dX10_init_93 (fun c8 hc8 => ?_)
  refine J_dup X dX10_init_96 rfl ?_
  refine J_callIN X (c_newChoice (fU_same _ _ _)) (And.intro (cst_in (i := 2) rfl) cw_X0_init) rfl rfl (Nat.le_of_ble_eq_true rfl) dX10_init_97 rfl (J.pvmX (fun h2 e2 => ?_)) JE.no
  obtain ⟨b50, b51, hb50, hb51, e2⟩ := e2
  rw [e2]
  clear e2
  have hG := hG.new (k := 5) (i := 0) (.inr (1, [.null, .null, .int 0])) hc8 (by decide)
  have hG := hG.new (k := 15) (i := 0) (zI (kca K) 10) hb50 (by decide)
  have hG := hG.new (k := 15) (i := 1) (zI (kca K) 10) hb51 (by decide)
  have hG := hG.set (k := 5) (i := 0) (a := c8) (.inr (1, [.ref b50, .ref b51, .int 0])) rfl rfl (by decide)
  have hr1 : (fU (fU (fU (fU h c8 (.inr (1, [.null, .null, .int 0]))) b50 (zI (kca K) 10)) b51 (zI (kca K) 10)) c8 (.inr (1, [.ref b50, .ref b51, .int 0]))) r = some (.inr (11, [.ref a0, .ref a1, .ref a2, .ref a3, .ref a4, .ref a5, .ref c6, .ref c7, .null, .int 0, .int 0])) := by
    have nr : ∀ a x (g : fH), g r = some x → g a = none → r ≠ a := fun a x g z w v => by rw [v, w] at z; cases z
    have n0 := nr c8 _ h he hc8
    have q0 : fU h c8 (.inr (1, [.null, .null, .int 0])) r = some (.inr (11, [.ref a0, .ref a1, .ref a2, .ref a3, .ref a4, .ref a5, .ref c6, .ref c7, .null, .int 0, .int 0])) := by rw [fU_ne n0]; exact he
    have m0 := nr b50 _ _ q0 hb50
    have q1 : (fU (fU h c8 (.inr (1, [.null, .null, .int 0]))) b50 (zI (kca K) 10)) r = some (.inr (11, [.ref a0, .ref a1, .ref a2, .ref a3, .ref a4, .ref a5, .ref c6, .ref c7, .null, .int 0, .int 0])) := by rw [fU_ne m0]; exact q0
    have m1 := nr b51 _ _ q1 hb51
    have q2 : (fU (fU (fU h c8 (.inr (1, [.null, .null, .int 0]))) b50 (zI (kca K) 10)) b51 (zI (kca K) 10)) r = some (.inr (11, [.ref a0, .ref a1, .ref a2, .ref a3, .ref a4, .ref a5, .ref c6, .ref c7, .null, .int 0, .int 0])) := by rw [fU_ne m1]; exact q1
    rw [fU_ne n0]
    exact q2
  refine J_putF X (C := RX10) (T := TX10) (N := 11) (ref := "NightValley") hr1 rfl 8 (by decide) (Nat.le_of_ble_eq_true rfl) in_X10 tyX10 tyX10_ok nmX10 rfl rfl rfl rfl rfl gw_2_0 (fun _ z => z) dX10_init_100 ?_
  have hG := hG.root (.inr (11, [.ref a0, .ref a1, .ref a2, .ref a3, .ref a4, .ref a5, .ref c6, .ref c7, .ref c8, .int 0, .int 0]))
  have he := fU_same (fU (fU (fU (fU h c8 (.inr (1, [.null, .null, .int 0]))) b50 (zI (kca K) 10)) b51 (zI (kca K) 10)) c8 (.inr (1, [.ref b50, .ref b51, .int 0]))) r (.inr (11, [.ref a0, .ref a1, .ref a2, .ref a3, .ref a4, .ref a5, .ref c6, .ref c7, .ref c8, .int 0, .int 0]))
  show J K (fU (fU (fU (fU (fU h c8 (.inr (1, [.null, .null, .int 0]))) b50 (zI (kca K) 10)) b51 (zI (kca K) 10)) c8 (.inr (1, [.ref b50, .ref b51, .int 0]))) r (.inr (11, [.ref a0, .ref a1, .ref a2, .ref a3, .ref a4, .ref a5, .ref c6, .ref c7, .ref c8, .int 0, .int 0]))) _ _ _ _ _
  generalize fU (fU (fU (fU (fU h c8 (.inr (1, [.null, .null, .int 0]))) b50 (zI (kca K) 10)) b51 (zI (kca K) 10)) c8 (.inr (1, [.ref b50, .ref b51, .int 0]))) r (.inr (11, [.ref a0, .ref a1, .ref a2, .ref a3, .ref a4, .ref a5, .ref c6, .ref c7, .ref c8, .int 0, .int 0])) = h at *
  have hC : ∃ ρ, CX (kca K) h ρ (fun _ _ => 0) (fun _ => 0) 0 0 r := by
    refine ⟨_, hG.1.sub ?_, fun k hk => ⟨?_, Nat.zero_le _, fun _ => rfl⟩, hG.2.1, fun k => Nat.zero_le _⟩
    · intro k i x hx
      match k with
      | 0 => match i with
        | 0 => rw [← hx]; rfl
        | i + 1 => exact absurd hx (by rw [cC0 (by omega)]; exact fun z => by cases z)
      | 1 => match i with
        | 0 => rw [← hx]; rfl
        | 1 => rw [← hx]; rfl
        | 2 => rw [← hx]; rfl
        | 3 => rw [← hx]; rfl
        | 4 => rw [← hx]; rfl
        | 5 => rw [← hx]; rfl
        | i + 6 => exact absurd hx (by rw [cC0 (by omega)]; exact fun z => by cases z)
      | 2 => exact absurd hx (by rw [cC0 (by omega)]; exact fun z => by cases z)
      | 3 => match i with
        | 0 => rw [← hx]; rfl
        | i + 1 => exact absurd hx (by rw [cC0 (by omega)]; exact fun z => by cases z)
      | 4 => match i with
        | 0 => rw [← hx]; rfl
        | i + 1 => exact absurd hx (by rw [cC0 (by omega)]; exact fun z => by cases z)
      | 5 => match i with
        | 0 => rw [← hx]; rfl
        | i + 1 => exact absurd hx (by rw [cC0 (by omega)]; exact fun z => by cases z)
      | 6 => exact absurd hx (by rw [cC0 (by omega)]; exact fun z => by cases z)
      | 7 => exact absurd hx (by rw [cC0 (by omega)]; exact fun z => by cases z)
      | 8 => exact absurd hx (by rw [cC0 (by omega)]; exact fun z => by cases z)
      | 14 => match i with
        | 0 => rw [← hx]; rfl
        | 1 => rw [← hx]; rfl
        | 2 => rw [← hx]; rfl
        | i + 3 => exact absurd hx (by rw [cC0 (by omega)]; exact fun z => by cases z)
      | 15 => match i with
        | 0 => rw [← hx]; rfl
        | 1 => rw [← hx]; rfl
        | i + 2 => exact absurd hx (by rw [cC0 (by omega)]; exact fun z => by cases z)
      | 9 | 10 | 11 | 12 | 13 => rw [cC_hi (by omega)] at hx; cases hx
      | k + 16 => rw [cC_hi (by omega)] at hx; cases hx
    · match k with
      | 0 | 1 => exact Nat.le_refl _
      | k + 2 => exact Nat.le_refl _
  clear hG he
  obtain ⟨ρ, hC⟩ := hC
  generalize (fun _ _ => 0 : Nat → Nat → Int32) = μ at hC
  generalize (fun _ => 0 : Nat → Nat) = cap at hC
  refine J_new X (C := RX9) (T := TX9) (N := 6) (ci := 10) (fs := [.int 0, .null, .int 0, .int 0, .int 0, .int 0]) rfl in_X9 tyX9 tyX9_ok gw_1_113 gw_1_114 gw_1_8 (by
      intro j hj
      match j with
      | 0 => rfl
      | 1 => rfl
      | 2 => rfl
      | 3 => rfl
      | 4 => rfl
      | 5 => rfl
      | k + 6 => exact absurd hj (by omega)) rfl dX10_init_103 (fun e he => ?_)
  refine J_dup X dX10_init_106 rfl ?_
  refine J_iconst (v := 0) X dX10_init_107 rfl ?_
  refine J_callI X (c_newZone (fU_same _ _ _)) (And.intro gw_1_115 cw_X9_init) rfl rfl (Nat.le_of_ble_eq_true rfl) dX10_init_108 rfl (J.pvmX (fun h2 e2 => ?_)) JE.no
  obtain ⟨b, hb, e2⟩ := e2
  have hbe : b ≠ e := fun z => by rw [z, fU_same] at hb; cases hb
  rw [fU_ne hbe] at hb
  rw [e2, fU_swap hbe.symm, fU_fU]
  clear e2
  have hle : ∀ a x, h a = some x → fU (fU h b (zF (kca K))) e (zZ (nI 0) b) a = some x := fun a x q => by
    rw [fU_ne (fun z => by rw [z, he] at q; cases q), fU_ne (fun z => by rw [z, hb] at q; cases q)]
    exact q
  refine J_astore_1 X dX10_init_111 rfl (by decide) ?_
  refine J_aload_0 X dX10_init_112 ?_
  refine J_get X (C := RX10) (T := TX10) (N := 11) (ref := "NightValley") (hle _ _ hC.root) rfl 0 (by decide) rfl in_X10 gw_1_232 (fun _ z => z) dX10_init_113 ?_
  refine J_aload_1 X dX10_init_116 ?_
  refine J_callV X (c_addC hC (q := 0) (e := e) (ci := 10) (Or.inl rfl) (by decide) (by decide) hle (fU_same _ _ _) he rfl (cst_in (i := 19) rfl)) (And.intro gw_1_145 cw_Jx4a65c_add_9ea2d) (hle _ _ (hC.list (q := 0) (by decide))) rfl rfl rfl (Nat.le_of_ble_eq_true rfl) dX10_init_117 rfl (fun v h3 qq => ?_) JE.no
  obtain ⟨e4, hA⟩ := qq
  subst e4
  show J K h3 [some (.ref r), some (.ref e), none] [.int 1] 120 17 1346
  refine J_pop X dX10_init_120 rfl ?_
  obtain ⟨ρ1, μ1, cap1, hC1, h6, _⟩ := CX.addZ (nz := 0) hC he hb hbe hA
  clear hA hle hC he hb hbe
  refine J_iconst (v := 1) X dX10_init_121 rfl ?_
  refine J_istore_2 X dX10_init_122 rfl (by decide) ?_
  obtain ⟨z, hz⟩ : ∃ z, z = e := ⟨_, rfl⟩
  rw [← hz] at h6 ⊢
  clear hz
  generalize h3 = h at *
  have hC := hC1
  clear hC1
  refine J_iload_2 X dX10_init_123 ?_
  refine J_iconst (v := 4) X dX10_init_124 rfl ?_
  refine J_icmp_ge (tgt := 150) X dX10_init_125 (by decide) (fun q => absurd q (by decide)) (fun _ => ?_)
  refine J_aload_0 X dX10_init_128 ?_
  refine J_get X (C := RX10) (T := TX10) (N := 11) (ref := "NightValley") hC.root rfl 0 (by decide) rfl in_X10 gw_1_232 (fun _ z => z) dX10_init_129 ?_
  refine J_new X (C := RX9) (T := TX9) (N := 6) (ci := 10) (fs := [.int 0, .null, .int 0, .int 0, .int 0, .int 0]) rfl in_X9 tyX9 tyX9_ok gw_1_113 gw_1_114 gw_1_8 (by
      intro j hj
      match j with
      | 0 => rfl
      | 1 => rfl
      | 2 => rfl
      | 3 => rfl
      | 4 => rfl
      | 5 => rfl
      | k + 6 => exact absurd hj (by omega)) rfl dX10_init_132 (fun e he => ?_)
  refine J_dup X dX10_init_135 rfl ?_
  refine J_iload_2 X dX10_init_136 ?_
  refine J_callI X (c_newZone (fU_same _ _ _)) (And.intro gw_1_115 cw_X9_init) rfl rfl (Nat.le_of_ble_eq_true rfl) dX10_init_137 rfl (J.pvmX (fun h2 e2 => ?_)) JE.no
  obtain ⟨b, hb, e2⟩ := e2
  have hbe : b ≠ e := fun z => by rw [z, fU_same] at hb; cases hb
  rw [fU_ne hbe] at hb
  rw [e2, fU_swap hbe.symm, fU_fU]
  clear e2
  have hle : ∀ a x, h a = some x → fU (fU h b (zF (kca K))) e (zZ (nI 1) b) a = some x := fun a x q => by
    rw [fU_ne (fun z => by rw [z, he] at q; cases q), fU_ne (fun z => by rw [z, hb] at q; cases q)]
    exact q
  refine J_callV X (c_addC hC (q := 0) (e := e) (ci := 10) (Or.inl rfl) (by decide) (by decide) hle (fU_same _ _ _) he rfl (cst_in (i := 19) rfl)) (And.intro gw_1_145 cw_Jx4a65c_add_9ea2d) (hle _ _ (hC.list (q := 0) (by decide))) rfl rfl rfl (Nat.le_of_ble_eq_true rfl) dX10_init_140 rfl (fun v h3 qq => ?_) JE.no
  obtain ⟨e4, hA⟩ := qq
  subst e4
  show J K h3 [some (.ref r), some (.ref z), some (.int 1)] [.int 1] 143 20 2452
  refine J_pop X dX10_init_143 rfl ?_
  obtain ⟨ρ2, μ2, cap2, hC1, _, h7⟩ := CX.addZ (nz := 1) hC he hb hbe hA
  have h6 := (h7 0 (by decide)).trans h6
  clear hA hle hC he hb hbe h7
  refine J_iinc_2 (v := nI 2) X dX10_init_144 rfl rfl (by decide) ?_
  refine J_goto (tgt := 123) X dX10_init_147 (by decide) ?_
  generalize h3 = h at *
  have hC := hC1
  clear hC1
  refine J_iload_2 X dX10_init_123 ?_
  refine J_iconst (v := 4) X dX10_init_124 rfl ?_
  refine J_icmp_ge (tgt := 150) X dX10_init_125 (by decide) (fun q => absurd q (by decide)) (fun _ => ?_)
  refine J_aload_0 X dX10_init_128 ?_
  refine J_get X (C := RX10) (T := TX10) (N := 11) (ref := "NightValley") hC.root rfl 0 (by decide) rfl in_X10 gw_1_232 (fun _ z => z) dX10_init_129 ?_
  refine J_new X (C := RX9) (T := TX9) (N := 6) (ci := 10) (fs := [.int 0, .null, .int 0, .int 0, .int 0, .int 0]) rfl in_X9 tyX9 tyX9_ok gw_1_113 gw_1_114 gw_1_8 (by
      intro j hj
      match j with
      | 0 => rfl
      | 1 => rfl
      | 2 => rfl
      | 3 => rfl
      | 4 => rfl
      | 5 => rfl
      | k + 6 => exact absurd hj (by omega)) rfl dX10_init_132 (fun e he => ?_)
  refine J_dup X dX10_init_135 rfl ?_
  refine J_iload_2 X dX10_init_136 ?_
  refine J_callI X (c_newZone (fU_same _ _ _)) (And.intro gw_1_115 cw_X9_init) rfl rfl (Nat.le_of_ble_eq_true rfl) dX10_init_137 rfl (J.pvmX (fun h2 e2 => ?_)) JE.no
  obtain ⟨b, hb, e2⟩ := e2
  have hbe : b ≠ e := fun z => by rw [z, fU_same] at hb; cases hb
  rw [fU_ne hbe] at hb
  rw [e2, fU_swap hbe.symm, fU_fU]
  clear e2
  have hle : ∀ a x, h a = some x → fU (fU h b (zF (kca K))) e (zZ (nI 2) b) a = some x := fun a x q => by
    rw [fU_ne (fun z => by rw [z, he] at q; cases q), fU_ne (fun z => by rw [z, hb] at q; cases q)]
    exact q
  refine J_callV X (c_addC hC (q := 0) (e := e) (ci := 10) (Or.inl rfl) (by decide) (by decide) hle (fU_same _ _ _) he rfl (cst_in (i := 19) rfl)) (And.intro gw_1_145 cw_Jx4a65c_add_9ea2d) (hle _ _ (hC.list (q := 0) (by decide))) rfl rfl rfl (Nat.le_of_ble_eq_true rfl) dX10_init_140 rfl (fun v h3 qq => ?_) JE.no
  obtain ⟨e4, hA⟩ := qq
  subst e4
  show J K h3 [some (.ref r), some (.ref z), some (.int (nI 2))] [.int 1] 143 23 3558
  refine J_pop X dX10_init_143 rfl ?_
  obtain ⟨ρ3, μ3, cap3, hC1, _, h7⟩ := CX.addZ (nz := 2) hC he hb hbe hA
  have h6 := (h7 0 (by decide)).trans h6
  clear hA hle hC he hb hbe h7
  refine J_iinc_2 (v := nI 3) X dX10_init_144 rfl rfl (by decide) ?_
  refine J_goto (tgt := 123) X dX10_init_147 (by decide) ?_
  generalize h3 = h at *
  have hC := hC1
  clear hC1
  refine J_iload_2 X dX10_init_123 ?_
  refine J_iconst (v := 4) X dX10_init_124 rfl ?_
  refine J_icmp_ge (tgt := 150) X dX10_init_125 (by decide) (fun q => absurd q (by decide)) (fun _ => ?_)
  refine J_aload_0 X dX10_init_128 ?_
  refine J_get X (C := RX10) (T := TX10) (N := 11) (ref := "NightValley") hC.root rfl 0 (by decide) rfl in_X10 gw_1_232 (fun _ z => z) dX10_init_129 ?_
  refine J_new X (C := RX9) (T := TX9) (N := 6) (ci := 10) (fs := [.int 0, .null, .int 0, .int 0, .int 0, .int 0]) rfl in_X9 tyX9 tyX9_ok gw_1_113 gw_1_114 gw_1_8 (by
      intro j hj
      match j with
      | 0 => rfl
      | 1 => rfl
      | 2 => rfl
      | 3 => rfl
      | 4 => rfl
      | 5 => rfl
      | k + 6 => exact absurd hj (by omega)) rfl dX10_init_132 (fun e he => ?_)
  refine J_dup X dX10_init_135 rfl ?_
  refine J_iload_2 X dX10_init_136 ?_
  refine J_callI X (c_newZone (fU_same _ _ _)) (And.intro gw_1_115 cw_X9_init) rfl rfl (Nat.le_of_ble_eq_true rfl) dX10_init_137 rfl (J.pvmX (fun h2 e2 => ?_)) JE.no
  obtain ⟨b, hb, e2⟩ := e2
  have hbe : b ≠ e := fun z => by rw [z, fU_same] at hb; cases hb
  rw [fU_ne hbe] at hb
  rw [e2, fU_swap hbe.symm, fU_fU]
  clear e2
  have hle : ∀ a x, h a = some x → fU (fU h b (zF (kca K))) e (zZ (nI 3) b) a = some x := fun a x q => by
    rw [fU_ne (fun z => by rw [z, he] at q; cases q), fU_ne (fun z => by rw [z, hb] at q; cases q)]
    exact q
  refine J_callV X (c_addC hC (q := 0) (e := e) (ci := 10) (Or.inl rfl) (by decide) (by decide) hle (fU_same _ _ _) he rfl (cst_in (i := 19) rfl)) (And.intro gw_1_145 cw_Jx4a65c_add_9ea2d) (hle _ _ (hC.list (q := 0) (by decide))) rfl rfl rfl (Nat.le_of_ble_eq_true rfl) dX10_init_140 rfl (fun v h3 qq => ?_) JE.no
  obtain ⟨e4, hA⟩ := qq
  subst e4
  show J K h3 [some (.ref r), some (.ref z), some (.int (nI 3))] [.int 1] 143 26 4664
  refine J_pop X dX10_init_143 rfl ?_
  obtain ⟨ρ4, μ4, cap4, hC1, _, h7⟩ := CX.addZ (nz := 3) hC he hb hbe hA
  have h6 := (h7 0 (by decide)).trans h6
  clear hA hle hC he hb hbe h7
  refine J_iinc_2 (v := nI 4) X dX10_init_144 rfl rfl (by decide) ?_
  refine J_goto (tgt := 123) X dX10_init_147 (by decide) ?_
  generalize h3 = h at *
  have hC := hC1
  clear hC1
  refine J_iload_2 X dX10_init_123 ?_
  refine J_iconst (v := 4) X dX10_init_124 rfl ?_
  refine J_icmp_ge (tgt := 150) X dX10_init_125 (by decide) (fun _ => ?_) (fun q => absurd (by decide) q)
  refine J_iconst (v := 0) X dX10_init_150 rfl ?_
  refine J_istore_2 X dX10_init_151 rfl (by decide) ?_
  have hC : CX (kca K) h ρ4 μ4 cap4 4 0 r := hC
  have LP : ∀ n k, k + n = 64 → ∀ (ρ : Nat → Nat → Nat) (μ : Nat → Nat → Int32) (cap : Nat → Nat) (h : fH), CX (kca K) h ρ μ cap 4 k r → ρ 6 0 = z → J K h [some (.ref r), some (.ref z), some (.int (nI k))] [] 152 (26 + k * 2) (4664 + k * 104) := by
    intro n
    induction n with
    | zero =>
      intro k hk ρ μ cap h hC h6
      have : k = 64 := by omega
      subst this
      refine J_iload_2 X dX10_init_152 ?_
      refine J_bipush (v := 64) X dX10_init_153 (by decide) ?_
      refine J_icmp_ge (tgt := 181) X dX10_init_155 (by decide) (fun _ => ?_) (fun q => absurd (by decide) q)
      exact J_vret X rfl rfl ⟨rfl, ρ, μ, cap, hC⟩ dX10_init_181
    | succ n ih =>
      intro k hk ρ μ cap h hC h6
      refine J_iload_2 X dX10_init_152 ?_
      refine J_bipush (v := 64) X dX10_init_153 (by decide) ?_
      refine J_icmp_ge (tgt := 181) X dX10_init_155 (by decide) (fun q => absurd ((nI_leI (a := 64) (b := k) (by omega) (by omega)).mp q) (by omega)) (fun _ => ?_)
      refine J_aload_0 X dX10_init_158 ?_
      refine J_get X (C := RX10) (T := TX10) (N := 11) (ref := "NightValley") hC.root rfl 1 (by decide) rfl in_X10 gw_1_233 (fun _ z => z) dX10_init_159 ?_
      refine J_new X (C := RX4) (T := TX4) (N := 4) (ci := 5) (fs := [.int 0, .int 0, .null, .int 0]) rfl in_X4 tyX4 tyX4_ok gw_1_206 gw_1_207 gw_1_13 (by
          intro j hj
          match j with
          | 0 => rfl
          | 1 => rfl
          | 2 => rfl
          | 3 => rfl
          | k + 4 => exact absurd hj (by omega)) (hroom2 (show 26 + k * 2 + 1 ≤ 154 by omega) (show 4664 + k * 104 + 4 ≤ 11320 by omega)) dX10_init_162 (fun e he => ?_)
      refine J_dup X dX10_init_165 rfl ?_
      refine J_iload_2 X dX10_init_166 ?_
      refine J_aload_1 X dX10_init_167 ?_
      refine J_callI X (c_newPlace (fU_same _ _ _)) (And.intro gw_1_208 cw_X4_init) rfl (hroom2 (show 26 + k * 2 + 1 + 0 ≤ 154 by omega) (show 4664 + k * 104 + 4 + 0 ≤ 11320 by omega)) (Nat.le_of_ble_eq_true rfl) dX10_init_168 rfl (J.pvmX (fun h2 e2 => ?_)) JE.no
      rw [e2, fU_fU, rm8 (a := k) (by omega), q8 (a := k) (by omega), ← h6]
      clear e2
      have hle : ∀ a x, h a = some x → fU h e (.inr (5, [.int (nI (k % 8)), .int (nI (k / 8)), .ref (ρ 6 0), .int 0])) a = some x := fun a x q => by
        rw [fU_ne (fun z => by rw [z, he] at q; cases q)]
        exact q
      refine J_callV X (c_addC hC (q := 1) (e := e) (ci := 5) (Or.inr rfl) (by decide) (by omega) hle (fU_same _ _ _) he rfl (cst_in (i := 20) rfl)) (And.intro gw_1_145 cw_Jx4a65c_add_9ea2d) (hle _ _ (hC.list (q := 1) (by decide))) rfl rfl (hroom2 (show 26 + k * 2 + 1 + 0 + 1 ≤ 154 by omega) (show 4664 + k * 104 + 4 + 0 + 100 ≤ 11320 by omega)) (Nat.le_of_ble_eq_true rfl) dX10_init_171 rfl (fun v h3 qq => ?_) JE.no
      obtain ⟨e4, hA⟩ := qq
      subst e4
      show J K h3 [some (.ref r), some (.ref (ρ 6 0)), some (.int (nI k))] [.int 1] 174 _ _
      refine J_pop X dX10_init_174 rfl ?_
      obtain ⟨ρ', μ', cap', hC', h6'⟩ := CX.addP hC he hA
      refine J_iinc_2 (v := nI (k + 1)) X dX10_init_175 (nI_1 _) rfl (by decide) ?_
      refine J_goto (tgt := 152) X dX10_init_178 (by decide) ?_
      have hz := ih (k + 1) (by omega) ρ' μ' cap' h3 hC' (h6'.trans h6)
      rw [h6]
      rw [show 26 + (k + 1) * 2 = 26 + k * 2 + 1 + 0 + 1 by omega, show 4664 + (k + 1) * 104 = 4664 + k * 104 + 4 + 0 + 100 by omega] at hz
      exact hz
  exact LP 64 0 rfl ρ4 μ4 cap4 h hC h6
end
