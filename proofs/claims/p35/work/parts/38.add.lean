noncomputable section
theorem c_grow0 {l : Launch} {D : va_G} {ca : Nat → Nat} {h : fH} {L d c : Nat} {mc : Int32} {f : Nat → Option Nat} (hL : h L = some (.inr (0, [.int mc, .ref d, .int (nI c)]))) (hd : dK ca h d c f) (h1 : c ≤ 64) (hel : ∀ i, i < c → ∀ y, f i = some y → oK h y) : FM l D ca yJx4a65c_grow_d5877 (.code yJx4a65c_grow_d5877 cJx4a65c_grow_d5877 1 (some (.array (.object "java/lang/Object")))) { frames := 4, cells := 1, slots := 100, locals := 170 } [.ref L] h (pGrow ca h L c mc f) noX := by
  refine FM.of [some (.ref L)] (by decide) (Nat.le_of_ble_eq_true rfl) rfl ?_
  rintro K X rfl rfl rfl
  refine J_aload_0 X dJx4a65c_grow_d5877_0 ?_
  refine J_aload_0 X dJx4a65c_grow_d5877_1 ?_
  refine J_get X (C := RJx4a65c) (T := TJx4a65c) (N := 3) (ref := "java/util/ArrayList") hL rfl 2 (by decide) rfl in_Jx4a65c gw_1_49 (fun _ z => z) dJx4a65c_grow_d5877_2 ?_
  refine J_iconst (v := 1) X dJx4a65c_grow_d5877_5 rfl ?_
  refine J_iadd X dJx4a65c_grow_d5877_6 ?_
  rw [nI_1]
  refine J_callV X (c_grow1 hL hd h1 hel) (And.intro gw_1_157 cw_Jx4a65c_grow_92f84) hL rfl rfl rfl (Nat.le_of_ble_eq_true rfl) dJx4a65c_grow_d5877_7 rfl (fun v h2 e => ?_) JE.no
  obtain ⟨b, M, hb, q1, q2, e1, e2⟩ := e
  subst e1
  exact J_aret X rfl (Or.inr ⟨_, rfl⟩) rfl ⟨b, M, hb, q1, q2, rfl, e2⟩ dJx4a65c_grow_d5877_10
abbrev rAdd (ca : Nat → Nat) (h : fH) (L d c n e : Nat) (mc : Int32) (f : Nat → Option Nat) : fH → Prop := fun h' => ∃ d' c', ((d' = d ∧ c' = c ∧ 0 < c) ∨ h d' = none) ∧ n < c' ∧ c' ≤ 100 ∧ h' = fU (fU h d' (.inl (ca 2, c', fRefs (va_up f n (some e))))) L (.inr (0, [.int mc, .ref d', .int (nI (n + 1))]))
theorem c_add3 {l : Launch} {D : va_G} {ca : Nat → Nat} {h : fH} {L d c n e : Nat} {mc : Int32} {f : Nat → Option Nat} (hL : h L = some (.inr (0, [.int mc, .ref d, .int (nI n)]))) (hd : dK ca h d c f) (hn : n ≤ c) (hc : c ≤ 100) (h1 : n ≤ 64) (hel : ∀ i, i < n → ∀ y, f i = some y → oK h y) (hf : ∀ i, n ≤ i → f i = none) (he : oK h e) : FM l D ca yJx4a65c_add_72be8 (.code yJx4a65c_add_72be8 cJx4a65c_add_72be8 4 none) { frames := 5, cells := 1, slots := 100, locals := 210 } [.ref L, .ref e, .ref d, .int (nI n)] h (pVM (rAdd ca h L d c n e mc f)) noX := by
  refine FM.of [some (.ref L), some (.ref e), some (.ref d), some (.int (nI n))] (by decide) (Nat.le_of_ble_eq_true rfl) rfl ?_
  rintro K X rfl rfl rfl
  have eN : (nI n).toNatClampNeg = n := nI_clamp (by omega)
  have neL : ∀ {a x : Nat} {A : vp_A}, h a = some (.inl (x, A)) → L ≠ a := fun z q => by rw [← q, hL] at z; cases z
  -- behind the growing
  have K11 : ∀ (d' c' : Nat) (f' : Nat → Option Nat) (h2 : fH), L ≠ d' → h2 L = some (.inr (0, [.int mc, .ref d', .int (nI n)])) → h2 d' = some (.inl (kca K 2, c', fRefs f')) → n < c' → c' ≤ 100 → oK h2 e → rAdd (kca K) h L d c n e mc f (fU (fU h2 d' (.inl (kca K 2, c', fRefs (va_up f' n (some e))))) L (.inr (0, [.int mc, .ref d', .int (nI (n + 1))]))) → J K h2 [some (.ref L), some (.ref e), some (.ref d'), some (.int (nI n))] [] 11 1 100 := by
    intro d' c' f' h2 hne hL2 hd2 hlt hle he2 hp
    refine J_aload_2 X dJx4a65c_add_72be8_11 ?_
    refine J_iload_3 X dJx4a65c_add_72be8_12 ?_
    refine J_aload_1 X dJx4a65c_add_72be8_13 ?_
    refine J_aast X hd2 he2 (vp_in_nI hlt (by omega)) dJx4a65c_add_72be8_14 ?_
    rw [eN]
    refine J_aload_0 X dJx4a65c_add_72be8_15 ?_
    refine J_iload_3 X dJx4a65c_add_72be8_16 ?_
    refine J_iconst (v := 1) X dJx4a65c_add_72be8_17 rfl ?_
    refine J_iadd X dJx4a65c_add_72be8_18 ?_
    rw [nI_1]
    refine J_put X (C := RJx4a65c) (T := TJx4a65c) (N := 3) (ref := "java/util/ArrayList") (show fU h2 d' _ L = _ by rw [fU_ne hne]; exact hL2) rfl 2 (by decide) (Nat.le_of_ble_eq_true rfl) in_Jx4a65c tyJx4a65c tyJx4a65c_ok nmJx4a65c rfl rfl rfl gw_1_49 (fun _ z => z) dJx4a65c_add_72be8_19 ?_
    exact J_vret X rfl rfl ⟨rfl, hp⟩ dJx4a65c_add_72be8_22
  refine J_iload_3 X dJx4a65c_add_72be8_0 ?_
  refine J_aload_2 X dJx4a65c_add_72be8_1 ?_
  refine J_alenD X hd dJx4a65c_add_72be8_2 ?_
  refine J_icmp_ne (tgt := 11) X dJx4a65c_add_72be8_3 (by decide) (fun q => ?_) (fun q => ?_)
  · have hnc : n < c := by
      rcases Nat.lt_or_ge n c with z | z
      · exact z
      · exact absurd (by rw [show n = c by omega]) q
    rcases hd with ⟨z, _⟩ | ⟨_, hd⟩
    · omega
    · refine J.widen (k := 1) (j := 100) (by omega) (by omega) ?_
      exact K11 d c f h (neL hd) hL hd hnc hc he ⟨d, c, Or.inl ⟨rfl, rfl, by omega⟩, hnc, hc, rfl⟩
  · have hnc : n = c := by
      have z : (nI n).toNatClampNeg = (nI c).toNatClampNeg := by rw [q]
      rw [eN, show (nI c).toNatClampNeg = c from nI_clamp (by omega)] at z
      exact z
    subst hnc
    refine J_aload_0 X dJx4a65c_add_72be8_6 ?_
    refine J_callV X (c_grow0 hL hd h1 hel) (And.intro gw_1_153 cw_Jx4a65c_grow_d5877) hL rfl rfl rfl (Nat.le_of_ble_eq_true rfl) dJx4a65c_add_72be8_7 rfl (fun v h2 e' => ?_) JE.no
    obtain ⟨b, M, hb, q1, q2, e1, e2⟩ := e'
    subst e1
    subst e2
    have hne : L ≠ b := fun z => by rw [z, hb] at hL; cases hL
    refine J_astore_2 X dJx4a65c_add_72be8_10 rfl (by decide) ?_
    obtain ⟨ci, vs, r, o1, o2, o3⟩ := he
    have heb : e ≠ b := fun z => by rw [z, hb] at o1; cases o1
    have hoe : oK (fU (fU h b (.inl (kca K 2, M, fRefs (fun k => if k < n then f k else none)))) L (.inr (0, [.int mc, .ref b, .int (nI n)]))) e := by
      by_cases z : e = L
      · subst z
        rw [hL] at o1
        cases o1
        exact ⟨0, _, r, fU_same _ _ _, o2, o3⟩
      · exact ⟨ci, vs, r, by rw [fU_ne z, fU_ne heb]; exact o1, o2, o3⟩
    refine K11 b M (fun k => if k < n then f k else none) _ hne (fU_same _ _ _) (by rw [fU_ne (Ne.symm hne)]; exact fU_same _ _ _) q1 q2 hoe ⟨b, M, Or.inr hb, q1, q2, ?_⟩
    have ef : va_up (fun k => if k < n then f k else none) n (some e) = va_up f n (some e) := by
      funext k
      unfold va_up
      by_cases z : k = n
      · rw [if_pos z, if_pos z]
      · rw [if_neg z, if_neg z]
        show (if k < n then f k else none) = f k
        by_cases w : k < n
        · rw [if_pos w]
        · rw [if_neg w, hf k (by omega)]
    rw [ef]
    funext x
    by_cases z : x = L
    · subst z
      rw [fU_same, fU_same]
    · rw [fU_ne z, fU_ne z]
      by_cases w : x = b
      · subst w
        rw [fU_same, fU_same]
      · rw [fU_ne w, fU_ne z, fU_ne w, fU_ne w]
theorem c_add1 {l : Launch} {D : va_G} {ca : Nat → Nat} {h : fH} {L d c n e : Nat} {mc : Int32} {f : Nat → Option Nat} (hL : h L = some (.inr (0, [.int mc, .ref d, .int (nI n)]))) (hd : dK ca h d c f) (hn : n ≤ c) (hc : c ≤ 100) (h1 : n ≤ 64) (hel : ∀ i, i < n → ∀ y, f i = some y → oK h y) (hf : ∀ i, n ≤ i → f i = none) (he : oK h e) (heL : e ≠ L) (hiL : ∀ i, i < n → f i ≠ some L) : FM l D ca yJx4a65c_add_9ea2d (.code yJx4a65c_add_9ea2d cJx4a65c_add_9ea2d 2 (some .boolean)) { frames := 6, cells := 1, slots := 100, locals := 250 } [.ref L, .ref e] h (fun v h' => v = some (.int 1) ∧ rAdd ca h L d c n e (mc + 1) f h') noX := by
  refine FM.of [some (.ref L), some (.ref e)] (by decide) (Nat.le_of_ble_eq_true rfl) rfl ?_
  rintro K X rfl rfl rfl
  refine J_aload_0 X dJx4a65c_add_9ea2d_0 ?_
  refine J_dup X dJx4a65c_add_9ea2d_1 rfl ?_
  refine J_get X (C := RJx4a65c) (T := TJx4a65c) (N := 3) (ref := "java/util/ArrayList") hL rfl 0 (by decide) rfl in_Jx4a65c gw_1_51 (fun x z => u_same (J.w X gw_1_52) x z) dJx4a65c_add_9ea2d_2 ?_
  refine J_iconst (v := 1) X dJx4a65c_add_9ea2d_5 rfl ?_
  refine J_iadd X dJx4a65c_add_9ea2d_6 ?_
  refine J_put X (C := RJx4a65c) (T := TJx4a65c) (N := 3) (ref := "java/util/ArrayList") hL rfl 0 (by decide) (Nat.le_of_ble_eq_true rfl) in_Jx4a65c tyJx4a65c tyJx4a65c_ok nmJx4a65c rfl rfl rfl gw_1_51 (fun x z => u_same (J.w X gw_1_52) x z) dJx4a65c_add_9ea2d_7 ?_
  refine J_aload_0 X dJx4a65c_add_9ea2d_10 ?_
  refine J_aload_1 X dJx4a65c_add_9ea2d_11 ?_
  refine J_aload_0 X dJx4a65c_add_9ea2d_12 ?_
  have hL2 : fU h L (.inr (0, [.int (mc + 1), .ref d, .int (nI n)])) L = some (.inr (0, [.int (mc + 1), .ref d, .int (nI n)])) := fU_same _ _ _
  refine J_get X (C := RJx4a65c) (T := TJx4a65c) (N := 3) (ref := "java/util/ArrayList") hL2 rfl 1 (by decide) rfl in_Jx4a65c gw_1_48 (fun _ z => z) dJx4a65c_add_9ea2d_13 ?_
  refine J_aload_0 X dJx4a65c_add_9ea2d_16 ?_
  refine J_get X (C := RJx4a65c) (T := TJx4a65c) (N := 3) (ref := "java/util/ArrayList") hL2 rfl 2 (by decide) rfl in_Jx4a65c gw_1_49 (fun _ z => z) dJx4a65c_add_9ea2d_17 ?_
  have ko : ∀ y, y ≠ L → oK h y → oK (fU h L (.inr (0, [.int (mc + 1), .ref d, .int (nI n)]))) y := fun y hy ⟨ci, vs, r, o1, o2, o3⟩ => ⟨ci, vs, r, by rw [fU_ne hy]; exact o1, o2, o3⟩
  have hd2 : dK (kca K) (fU h L (.inr (0, [.int (mc + 1), .ref d, .int (nI n)]))) d c f := by
    rcases hd with z | ⟨z, w⟩
    · exact Or.inl z
    · exact Or.inr ⟨z, by rw [fU_ne (fun q => by rw [q, hL] at w; cases w)]; exact w⟩
  refine J_callV X (c_add3 hL2 hd2 hn hc h1 (fun i hi y hy => ko y (fun q => hiL i hi (by rw [hy, q])) (hel i hi y hy)) hf (ko e heL he)) (And.intro gw_1_149 cw_Jx4a65c_add_72be8) hL2 rfl rfl rfl (Nat.le_of_ble_eq_true rfl) dJx4a65c_add_9ea2d_20 rfl (fun v h2 q => ?_) JE.no
  obtain ⟨e1, d', c', q1, q2, q3, q4⟩ := q
  subst e1
  show J K h2 [some (.ref L), some (.ref e)] [] 23 _ _
  refine J_iconst (v := 1) X dJx4a65c_add_9ea2d_23 rfl ?_
  refine J_zret X rfl (Or.inr rfl) rfl ⟨rfl, d', c', ?_, q2, q3, ?_⟩ dJx4a65c_add_9ea2d_24
  · rcases q1 with z | z
    · exact Or.inl z
    · refine Or.inr ?_
      by_cases w : d' = L
      · rw [w, fU_same] at z
        cases z
      · rw [fU_ne w] at z
        exact z
  · rw [q4]
    funext x
    by_cases z : x = L
    · subst z
      rw [fU_same, fU_same]
    · rw [fU_ne z, fU_ne z]
      by_cases w : x = d'
      · subst w
        rw [fU_same, fU_same]
      · rw [fU_ne w, fU_ne w, fU_ne z]
end
