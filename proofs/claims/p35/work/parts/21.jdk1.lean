theorem cw_J3_checkIndex_8e157 : Cond.static yJ3_checkIndex_8e157 ∈ GW ∧ Cond.initialized yJ3_checkIndex_8e157.cls ∈ GW ∧ Cond.code yJ3_checkIndex_8e157 cJ3_checkIndex_8e157 3 (some .int) ∈ GW ∧ (yJ3_checkIndex_8e157.cls ≠ "java/lang/invoke/MethodHandle" ∧ yJ3_checkIndex_8e157.cls ≠ "java/lang/invoke/VarHandle") ∧ (parseMethodDescriptor yJ3_checkIndex_8e157.desc).map (fun d => d.parameters.length) = some 3 := ⟨gw_2_112, gw_1_19, gw_2_113, ⟨by decide, by decide⟩, by decide +kernel⟩
theorem cw_J15_checkIndex_7cf53 : Cond.static yJ15_checkIndex_7cf53 ∈ GW ∧ Cond.initialized yJ15_checkIndex_7cf53.cls ∈ GW ∧ Cond.code yJ15_checkIndex_7cf53 cJ15_checkIndex_7cf53 2 (some .int) ∈ GW ∧ (yJ15_checkIndex_7cf53.cls ≠ "java/lang/invoke/MethodHandle" ∧ yJ15_checkIndex_7cf53.cls ≠ "java/lang/invoke/VarHandle") ∧ (parseMethodDescriptor yJ15_checkIndex_7cf53.desc).map (fun d => d.parameters.length) = some 2 := ⟨gw_2_109, gw_1_18, gw_2_110, ⟨by decide, by decide⟩, by decide +kernel⟩
theorem cw_Jx4a65c_elementData_915e3 : Cond.instanceMethod yJx4a65c_elementData_915e3 ∈ GW ∧ Cond.selects RJx4a65c yJx4a65c_elementData_915e3 yJx4a65c_elementData_915e3 ∈ GW ∧ Cond.initialized RJx4a65c ∈ GW ∧ Cond.code yJx4a65c_elementData_915e3 cJx4a65c_elementData_915e3 2 (some (.object "java/lang/Object")) ∈ GW ∧ yJx4a65c_elementData_915e3.cls = RJx4a65c ∧ (yJx4a65c_elementData_915e3.cls ≠ "java/lang/invoke/MethodHandle" ∧ yJx4a65c_elementData_915e3.cls ≠ "java/lang/invoke/VarHandle") ∧ (parseMethodDescriptor yJx4a65c_elementData_915e3.desc).map (fun d => d.parameters.length) = some 1 := ⟨gw_2_115, gw_2_116, gw_1_4, gw_2_117, rfl, ⟨by decide, by decide⟩, by decide +kernel⟩
theorem cw_Jx4a65c_get_915e3 : Cond.instanceMethod yJx4a65c_get_915e3 ∈ GW ∧ Cond.selects RJx4a65c yJx4a65c_get_915e3 yJx4a65c_get_915e3 ∈ GW ∧ Cond.initialized RJx4a65c ∈ GW ∧ Cond.code yJx4a65c_get_915e3 cJx4a65c_get_915e3 2 (some (.object "java/lang/Object")) ∈ GW ∧ yJx4a65c_get_915e3.cls = RJx4a65c ∧ (yJx4a65c_get_915e3.cls ≠ "java/lang/invoke/MethodHandle" ∧ yJx4a65c_get_915e3.cls ≠ "java/lang/invoke/VarHandle") ∧ (parseMethodDescriptor yJx4a65c_get_915e3.desc).map (fun d => d.parameters.length) = some 1 := ⟨gw_2_105, gw_2_106, gw_1_4, gw_2_107, rfl, ⟨by decide, by decide⟩, by decide +kernel⟩
theorem cw_Jx4a65c_size_8abf5 : Cond.instanceMethod yJx4a65c_size_8abf5 ∈ GW ∧ Cond.selects RJx4a65c yJx4a65c_size_8abf5 yJx4a65c_size_8abf5 ∈ GW ∧ Cond.initialized RJx4a65c ∈ GW ∧ Cond.code yJx4a65c_size_8abf5 cJx4a65c_size_8abf5 1 (some .int) ∈ GW ∧ yJx4a65c_size_8abf5.cls = RJx4a65c ∧ (yJx4a65c_size_8abf5.cls ≠ "java/lang/invoke/MethodHandle" ∧ yJx4a65c_size_8abf5.cls ≠ "java/lang/invoke/VarHandle") ∧ (parseMethodDescriptor yJx4a65c_size_8abf5.desc).map (fun d => d.parameters.length) = some 0 := ⟨gw_2_35, gw_2_36, gw_1_4, gw_2_37, rfl, ⟨by decide, by decide⟩, by decide +kernel⟩

theorem c_pcheck {l : Launch} {D : va_G} {ca : Nat → Nat} {h : fH} {i n : Int32} (h0 : ¬ i < 0) (h1 : i < n) : FM l D ca yJ3_checkIndex_8e157 (.code yJ3_checkIndex_8e157 cJ3_checkIndex_8e157 3 (some .int)) { frames := 1, cells := 0, slots := 0, locals := 20 } [.int i, .int n, .null] h (pI i h) noX := by
  refine FM.of [some (.int i), some (.int n), some .null] (by decide) (Nat.le_of_ble_eq_true rfl) rfl ?_
  rintro K X rfl rfl rfl
  refine J_iload_0 X dJ3_checkIndex_8e157_0 ?_
  refine J_if_lt (tgt := 9) X dJ3_checkIndex_8e157_1 (by decide) (fun c => absurd c h0) (fun _ => ?_)
  refine J_iload_0 X dJ3_checkIndex_8e157_4 ?_
  refine J_iload_1 X dJ3_checkIndex_8e157_5 ?_
  refine J_icmp_lt (tgt := 16) X dJ3_checkIndex_8e157_6 (by decide) (fun _ => ?_) (fun c => absurd h1 c)
  refine J_iload_0 X dJ3_checkIndex_8e157_16 ?_
  exact J_iret X rfl rfl ⟨rfl, rfl⟩ dJ3_checkIndex_8e157_17
theorem c_ocheck {l : Launch} {D : va_G} {ca : Nat → Nat} {h : fH} {i n : Int32} (h0 : ¬ i < 0) (h1 : i < n) : FM l D ca yJ15_checkIndex_7cf53 (.code yJ15_checkIndex_7cf53 cJ15_checkIndex_7cf53 2 (some .int)) { frames := 2, cells := 0, slots := 0, locals := 42 } [.int i, .int n] h (pI i h) noX := by
  refine FM.of [some (.int i), some (.int n)] (by decide) (Nat.le_of_ble_eq_true rfl) rfl ?_
  rintro K X rfl rfl rfl
  refine J_iload_0 X dJ15_checkIndex_7cf53_0 ?_
  refine J_iload_1 X dJ15_checkIndex_7cf53_1 ?_
  refine J_null X dJ15_checkIndex_7cf53_2 ?_
  refine J_callS X (c_pcheck h0 h1) (And.intro gw_2_111 cw_J3_checkIndex_8e157) rfl rfl (Nat.le_of_ble_eq_true rfl) dJ15_checkIndex_7cf53_3 rfl (J.pi ?_) JE.no
  exact J_iret X rfl rfl ⟨rfl, rfl⟩ dJ15_checkIndex_7cf53_6
section ALR
variable {l : Launch} {D : va_G} {ca : Nat → Nat} {h : fH} {L dat N : Nat} {mc sz : Int32} {g : Nat → Option Nat}
theorem c_size (he : h L = some (.inr (0, [.int mc, .ref dat, .int sz]))) : FM l D ca yJx4a65c_size_8abf5 (.code yJx4a65c_size_8abf5 cJx4a65c_size_8abf5 1 (some .int)) { frames := 1, cells := 0, slots := 0, locals := 20 } [.ref L] h (pI sz h) noX := by
  refine FM.of [some (.ref L)] (by decide) (Nat.le_of_ble_eq_true rfl) rfl ?_
  rintro K X rfl rfl rfl
  refine J_aload_0 X dJx4a65c_size_8abf5_0 ?_
  refine J_get X (C := RJx4a65c) (T := TJx4a65c) (N := 3) (ref := "java/util/ArrayList") he rfl 2 (by decide) rfl in_Jx4a65c gw_1_49 (fun _ z => z) dJx4a65c_size_8abf5_1 ?_
  exact J_iret X rfl rfl ⟨rfl, rfl⟩ dJx4a65c_size_8abf5_4
theorem c_elementData (he : h L = some (.inr (0, [.int mc, .ref dat, .int sz]))) (hd : h dat = some (.inl (ca 2, N, fRefs g))) {i : Int32} (hi : vp_in i N) {q : Nat} (hg : g (ix i) = some q) : FM l D ca yJx4a65c_elementData_915e3 (.code yJx4a65c_elementData_915e3 cJx4a65c_elementData_915e3 2 (some (.object "java/lang/Object"))) { frames := 1, cells := 0, slots := 0, locals := 20 } [.ref L, .int i] h (pA q h) noX := by
  refine FM.of [some (.ref L), some (.int i)] (by decide) (Nat.le_of_ble_eq_true rfl) rfl ?_
  rintro K X rfl rfl rfl
  refine J_aload_0 X dJx4a65c_elementData_915e3_0 ?_
  refine J_get X (C := RJx4a65c) (T := TJx4a65c) (N := 3) (ref := "java/util/ArrayList") he rfl 1 (by decide) rfl in_Jx4a65c gw_1_48 (fun _ z => z) dJx4a65c_elementData_915e3_1 ?_
  refine J_iload_1 X dJx4a65c_elementData_915e3_4 ?_
  refine J_aald X hd hi dJx4a65c_elementData_915e3_5 ?_
  rw [hg]
  exact J_aret X rfl (Or.inl ⟨_, rfl⟩) rfl ⟨rfl, rfl⟩ dJx4a65c_elementData_915e3_6
theorem c_get (he : h L = some (.inr (0, [.int mc, .ref dat, .int sz]))) (hd : h dat = some (.inl (ca 2, N, fRefs g))) {i : Int32} (h0 : ¬ i < 0) (h1 : i < sz) (hi : vp_in i N) {q : Nat} (hg : g (ix i) = some q) : FM l D ca yJx4a65c_get_915e3 (.code yJx4a65c_get_915e3 cJx4a65c_get_915e3 2 (some (.object "java/lang/Object"))) { frames := 3, cells := 0, slots := 0, locals := 63 } [.ref L, .int i] h (pA q h) noX := by
  refine FM.of [some (.ref L), some (.int i)] (by decide) (Nat.le_of_ble_eq_true rfl) rfl ?_
  rintro K X rfl rfl rfl
  refine J_iload_1 X dJx4a65c_get_915e3_0 ?_
  refine J_aload_0 X dJx4a65c_get_915e3_1 ?_
  refine J_get X (C := RJx4a65c) (T := TJx4a65c) (N := 3) (ref := "java/util/ArrayList") he rfl 2 (by decide) rfl in_Jx4a65c gw_1_49 (fun _ z => z) dJx4a65c_get_915e3_2 ?_
  refine J_callS X (c_ocheck h0 h1) (And.intro gw_2_108 cw_J15_checkIndex_7cf53) rfl rfl (Nat.le_of_ble_eq_true rfl) dJx4a65c_get_915e3_5 rfl (J.pi ?_) JE.no
  refine J_pop X dJx4a65c_get_915e3_8 rfl ?_
  refine J_aload_0 X dJx4a65c_get_915e3_9 ?_
  refine J_iload_1 X dJx4a65c_get_915e3_10 ?_
  refine J_callV X (c_elementData he hd hi hg) (And.intro gw_2_114 cw_Jx4a65c_elementData_915e3) he rfl rfl rfl (Nat.le_of_ble_eq_true rfl) dJx4a65c_get_915e3_11 rfl (J.pa ?_) JE.no
  exact J_aret X rfl (Or.inl ⟨_, rfl⟩) rfl ⟨rfl, rfl⟩ dJx4a65c_get_915e3_14
end ALR
section XGET
variable {l : Launch} {D : va_G} {ca : Nat → Nat} {h : fH} {ρ : Nat → Nat → Nat} {μ : Nat → Nat → Int32} {cap : Nat → Nat} {σ : St}
theorem c_Xsize (hR : RX ca h ρ μ cap σ) {k : Nat} (hk : k < 6 + ix (σ 26 0)) : FM l D ca yJx4a65c_size_8abf5 (.code yJx4a65c_size_8abf5 cJx4a65c_size_8abf5 1 (some .int)) { frames := 1, cells := 0, slots := 0, locals := 20 } [.ref (ρ 1 k)] h (pI (nI (xL σ k)) h) noX := c_size (hR.list hk)
theorem c_Xget (hR : RX ca h ρ μ cap σ) {k : Nat} (hk : k < 6 + ix (σ 26 0)) {i : Int32} (hi : vp_in i (xL σ k)) : FM l D ca yJx4a65c_get_915e3 (.code yJx4a65c_get_915e3 cJx4a65c_get_915e3 2 (some (.object "java/lang/Object"))) { frames := 3, cells := 0, slots := 0, locals := 63 } [.ref (ρ 1 k), .int i] h (pA (xE ρ k (ix i)) h) noX := by
  have h1 := hR.2.2 k hk
  have h2 := vp_lt hi
  refine c_get (hR.list hk) (hR.data hk h2) (fun z => hi (Or.inl z)) ?_ (vp_up hi h1.1) (if_pos h2)
  have e := vp_nI' hi (by omega)
  rw [e]
  exact nI_lt h2 (by omega)
end XGET
