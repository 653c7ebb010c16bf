noncomputable section
section JLOOK
variable {K : KT} {mn own : String} {cc : ByteArray} {n : Nat} {ret : Option FieldType} {tb : List ExceptionTableEntry} {w0 : Cond} {rm : Room} {h0 : fH} {post : Option Value → fH → Prop} {px : String → fH → Prop}
variable {h : fH} {lv : LV} {st : List Value} {pc cells slots : Nat}
theorem J_look (X : JX K mn own cc n ret tb w0 rm h0 post px) {dflt : Int} {ps : Array (Int × Int)} {len : Nat} {x : Int32} {off : Int} {tgt : Nat} (d : decode cc pc = .ok (.lookupswitch dflt ps, len)) (hp : (ps.toList.zip (ps.toList.drop 1)).all (fun (a, next) => a.1 < next.1) = true) (ho : Op.lookupswitch.offset ps.toList dflt x.toInt = off) (ht : (pc : Int) + off = (tgt : Int)) (k : J K h lv st tgt cells slots) : J K h lv (.int x :: st) pc cells slots := fun H locs ls hP hD hS hl => lv_lookup X.1 X.2.1 d hp ho ht (k H locs ls hP hD hS hl)
end JLOOK
def X_ofReading (σ : St) (p1 : Int32) (p2 : Int32) (p3 : Int32) : Int32 := (@ite _ (vp_in p1 (ix (σ 26 0))) (Classical.propDecidable _) (@ite _ (vp_in p2 (xL σ ((ix p1) + 6))) (Classical.propDecidable _) (if M_isIn p3 (0 : Int32) (2 : Int32) = 0 then (0 : Int32) else (if p3 = 0 then (σ 32 (10 * (ix p1) + ix p2)) else (if p3 = 1 then (σ 33 (10 * (ix p1) + ix p2)) else (X_corrected σ (ix p1) (10 * (ix p1) + ix p2))))) (0 : Int32)) (0 : Int32))
def X_ofReading_s (σ : St) (p1 : Int32) (p2 : Int32) (p3 : Int32) : St := (@ite _ (vp_in p1 (ix (σ 26 0))) (Classical.propDecidable _) (@ite _ (vp_in p2 (xL σ ((ix p1) + 6))) (Classical.propDecidable _) (if M_isIn p3 (0 : Int32) (2 : Int32) = 0 then σ else (if p3 = 0 then σ else (if p3 = 1 then σ else σ))) σ) σ)
def X_ofReading_c (σ : St) (p1 : Int32) (p2 : Int32) (p3 : Int32) : Int32 := (@ite _ (vp_in p1 (ix (σ 26 0))) (Classical.propDecidable _) (@ite _ (vp_in p2 (xL σ ((ix p1) + 6))) (Classical.propDecidable _) (if M_isIn p3 (0 : Int32) (2 : Int32) = 0 then (2 : Int32) else (if p3 = 0 then (0 : Int32) else (if p3 = 1 then (0 : Int32) else (0 : Int32)))) (1 : Int32)) (1 : Int32))
theorem cw_X10_ofReading : Cond.instanceMethod yX10_ofReading ∈ GW ∧ Cond.selects RX10 yX10_ofReading yX10_ofReading ∈ GW ∧ Cond.initialized RX10 ∈ GW ∧ Cond.code yX10_ofReading cX10_ofReading 6 (some .int) ∈ GW ∧ yX10_ofReading.cls = RX10 ∧ (yX10_ofReading.cls ≠ "java/lang/invoke/MethodHandle" ∧ yX10_ofReading.cls ≠ "java/lang/invoke/VarHandle") ∧ (parseMethodDescriptor yX10_ofReading.desc).map (fun d => d.parameters.length) = some 3 := ⟨gw_4_40, gw_4_41, gw_1_1, gw_4_42, rfl, ⟨by decide, by decide⟩, by decide +kernel⟩
set_option maxRecDepth 100000 in
set_option maxHeartbeats 4000000 in
theorem c_X_ofReading {l : Launch} {D : va_G} {ca : Nat → Nat} {h : fH} {ρ : Nat → Nat → Nat} {μ : Nat → Nat → Int32} {cap : Nat → Nat} {σ : St} (hR : RX ca h ρ μ cap σ) (hI : InvX σ) (p1 : Int32) (p2 : Int32) (p3 : Int32) : FM l D ca yX10_ofReading (.code yX10_ofReading cX10_ofReading 6 (some .int)) { frames := 8, cells := 3, slots := 18, locals := 147 } [.ref (ρ 0 0), .int p1, .int p2, .int p3] h (pPub (some (.int (X_ofReading σ p1 p2 p3))) (X_ofReading_c σ p1 p2 p3) (fun h2 => RX ca h2 ρ μ cap (X_ofReading_s σ p1 p2 p3))) (pxX (X_ofReading_c σ p1 p2 p3) (fun h2 => RX ca h2 ρ μ cap (X_ofReading_s σ p1 p2 p3))) := by
  refine FM.of [some (.ref (ρ 0 0)), some (.int p1), some (.int p2), some (.int p3), none, none] (by decide) (Nat.le_of_ble_eq_true rfl) rfl ?_
  rintro K X rfl rfl rfl
  have q_v : (X_ofReading σ p1 p2 p3) = (@ite _ (vp_in p1 (ix (σ 26 0))) (Classical.propDecidable _) (@ite _ (vp_in p2 (xL σ ((ix p1) + 6))) (Classical.propDecidable _) (if M_isIn p3 (0 : Int32) (2 : Int32) = 0 then (0 : Int32) else (if p3 = 0 then (σ 32 (10 * (ix p1) + ix p2)) else (if p3 = 1 then (σ 33 (10 * (ix p1) + ix p2)) else (X_corrected σ (ix p1) (10 * (ix p1) + ix p2))))) (0 : Int32)) (0 : Int32)) := rfl
  have q_s : (X_ofReading_s σ p1 p2 p3) = (@ite _ (vp_in p1 (ix (σ 26 0))) (Classical.propDecidable _) (@ite _ (vp_in p2 (xL σ ((ix p1) + 6))) (Classical.propDecidable _) (if M_isIn p3 (0 : Int32) (2 : Int32) = 0 then σ else (if p3 = 0 then σ else (if p3 = 1 then σ else σ))) σ) σ) := rfl
  have q_c : (X_ofReading_c σ p1 p2 p3) = (@ite _ (vp_in p1 (ix (σ 26 0))) (Classical.propDecidable _) (@ite _ (vp_in p2 (xL σ ((ix p1) + 6))) (Classical.propDecidable _) (if M_isIn p3 (0 : Int32) (2 : Int32) = 0 then (2 : Int32) else (if p3 = 0 then (0 : Int32) else (if p3 = 1 then (0 : Int32) else (0 : Int32)))) (1 : Int32)) (1 : Int32)) := rfl
  refine J_aload_0 X dX10_ofReading_0 ?_
  refine J_iload_1 X dX10_ofReading_1 ?_
  refine J_callV X (c_meterOf hR hI p1) (And.intro gw_3_186 cw_X10_meterOf) hR.root rfl rfl rfl (Nat.le_of_ble_eq_true rfl) dX10_ofReading_2 rfl (fun v h2 e => ?_) (fun E h2 e => ?_)
  · skip
    obtain ⟨e1, e2, c2⟩ := e
    subst e1
    rw [e2]
    clear e2
    rw [if_pos c2] at q_v
    rw [if_pos c2] at q_s
    rw [if_pos c2] at q_c
    show J K h [some (.ref (ρ 0 0)), some (.int p1), some (.int p2), some (.int p3), none, none] [.ref (ρ 11 (ix p1))] 5 1 6
    refine J_astore_4 X dX10_ofReading_5 rfl (by decide) ?_
    have hq := vp_lt c2
    refine J_iload_2 X dX10_ofReading_7 ?_
    refine J_aload_4 X dX10_ofReading_8 ?_
    refine J_get X (C := RX3) (T := TX3) (N := 5) (ref := "NightValley$Meter") (hR.meter (vp_lt c2)) rfl 3 (by decide) rfl in_X3 gw_3_168 (fun _ z => z) dX10_ofReading_10 ?_
    refine J_callV X (c_Xsize hR (k := ((ix p1) + 6)) (by omega)) (And.intro gw_2_34 cw_Jx4a65c_size_8abf5) (hR.list (by omega)) rfl rfl rfl (Nat.le_of_ble_eq_true rfl) dX10_ofReading_13 rfl (J.pi ?_) JE.no
    refine J_callS X (c_needNumber p2 (nI (xL σ ((ix p1) + 6)))) (And.intro gw_2_38 cw_X10_needNumber) rfl rfl (Nat.le_of_ble_eq_true rfl) dX10_ofReading_16 rfl (fun v h2 e => ?_) (fun E h2 e => ?_)
    · skip
      obtain ⟨e1, e2, c16⟩ := e
      subst e1
      rw [e2]
      clear e2
      have c16 := (vp_iff_c (N := (xL σ ((ix p1) + 6))) (by have := IX_L hI ((ix p1) + 6); omega)).mp c16
      rw [if_pos c16] at q_v
      rw [if_pos c16] at q_s
      rw [if_pos c16] at q_c
      show J K h [some (.ref (ρ 0 0)), some (.int p1), some (.int p2), some (.int p3), some (.ref (ρ 11 (ix p1))), none] [] 19 2 12
      refine J_iload_3 X dX10_ofReading_19 ?_
      refine J_iconst (v := 0) X dX10_ofReading_20 rfl ?_
      refine J_iconst (v := 2) X dX10_ofReading_21 rfl ?_
      refine J_callS X (c_needRange p3 (0 : Int32) (2 : Int32)) (And.intro gw_2_198 cw_X10_needRange) rfl rfl (Nat.le_of_ble_eq_true rfl) dX10_ofReading_22 rfl (fun v h2 e => ?_) (fun E h2 e => ?_)
      · skip
        obtain ⟨e1, e2, c22⟩ := e
        subst e1
        rw [e2]
        clear e2
        rw [if_neg c22] at q_v
        rw [if_neg c22] at q_s
        rw [if_neg c22] at q_c
        show J K h [some (.ref (ρ 0 0)), some (.int p1), some (.int p2), some (.int p3), some (.ref (ρ 11 (ix p1))), none] [] 25 3 18
        refine J_aload_4 X dX10_ofReading_25 ?_
        refine J_get X (C := RX3) (T := TX3) (N := 5) (ref := "NightValley$Meter") (hR.meter (vp_lt c2)) rfl 3 (by decide) rfl in_X3 gw_3_168 (fun _ z => z) dX10_ofReading_27 ?_
        refine J_iload_2 X dX10_ofReading_30 ?_
        refine J_callV X (c_Xget hR (k := ((ix p1) + 6)) (by omega) c16) (And.intro gw_2_104 cw_Jx4a65c_get_915e3) (hR.list (by omega)) rfl rfl rfl (Nat.le_of_ble_eq_true rfl) dX10_ofReading_31 rfl (J.pa ?_) JE.no
        refine J_cast X (C := RX5) (T := TX5) (N := 2) (hR.reading (rdin (vp_lt c2) c16 (IX_reads hI _))) rfl gw_3_201 dX10_ofReading_34 ?_
        refine J_astore_5 X dX10_ofReading_37 rfl (by decide) ?_
        refine J_iload_3 X dX10_ofReading_39 ?_
        by_cases c40_0 : p3 = 0
        · skip
          rw [if_pos c40_0] at q_v
          rw [if_pos c40_0] at q_s
          rw [if_pos c40_0] at q_c
          refine J.eqi c40_0 ?_
          refine J_look (tgt := 68) X dX10_ofReading_40 (by decide) rfl (by decide) ?_
          refine J_aload_5 X dX10_ofReading_68 ?_
          refine J_get X (C := RX5) (T := TX5) (N := 2) (ref := "NightValley$Reading") (hR.reading (rdin (vp_lt c2) c16 (IX_reads hI _))) rfl 0 (by decide) rfl in_X5 gw_3_209 (fun _ z => z) dX10_ofReading_70 ?_
          exact J_iret X rfl rfl ⟨by rw [q_v], by rw [q_c], by rw [q_s]; exact hR⟩ dX10_ofReading_73
        rw [if_neg c40_0] at q_v
        rw [if_neg c40_0] at q_s
        rw [if_neg c40_0] at q_c
        by_cases c40_1 : p3 = 1
        · skip
          rw [if_pos c40_1] at q_v
          rw [if_pos c40_1] at q_s
          rw [if_pos c40_1] at q_c
          refine J.eqi c40_1 ?_
          refine J_look (tgt := 74) X dX10_ofReading_40 (by decide) rfl (by decide) ?_
          refine J_aload_5 X dX10_ofReading_74 ?_
          refine J_get X (C := RX5) (T := TX5) (N := 2) (ref := "NightValley$Reading") (hR.reading (rdin (vp_lt c2) c16 (IX_reads hI _))) rfl 1 (by decide) rfl in_X5 gw_3_212 (fun _ z => z) dX10_ofReading_76 ?_
          exact J_iret X rfl rfl ⟨by rw [q_v], by rw [q_c], by rw [q_s]; exact hR⟩ dX10_ofReading_79
        rw [if_neg c40_1] at q_v
        rw [if_neg c40_1] at q_s
        rw [if_neg c40_1] at q_c
        refine J_look (tgt := 80) (off := 40) X dX10_ofReading_40 (by decide) ((lv_osw c40_0 rfl).trans ((lv_osw c40_1 rfl).trans rfl)) (by decide) ?_
        refine J_aload_4 X dX10_ofReading_80 ?_
        refine J_aload_5 X dX10_ofReading_82 ?_
        refine J_callV X (c_X_corrected hR hI (ix p1) (10 * (ix p1) + ix p2) (vp_lt c2) (rdin (vp_lt c2) c16 (IX_reads hI _))) (And.intro gw_4_43 cw_X3_corrected) (hR.meter (vp_lt c2)) rfl rfl rfl (Nat.le_of_ble_eq_true rfl) dX10_ofReading_84 rfl (J.pi ?_) JE.no
        exact J_iret X rfl rfl ⟨by rw [q_v], by rw [q_c], by rw [q_s]; exact hR⟩ dX10_ofReading_87
      · skip
        obtain ⟨e1, e2, c22⟩ := e
        subst e1
        rw [e2]
        clear e2
        rw [if_pos c22] at q_v
        rw [if_pos c22] at q_s
        rw [if_pos c22] at q_c
        exact JE_out X rfl rfl ⟨by rw [q_c]; rfl, by rw [q_c]; decide, by rw [q_s]; exact hR⟩
    · skip
      obtain ⟨e1, e2, c16⟩ := e
      subst e1
      rw [e2]
      clear e2
      have c16 := fun z => c16 ((vp_iff_c (N := (xL σ ((ix p1) + 6))) (by have := IX_L hI ((ix p1) + 6); omega)).mpr z)
      rw [if_neg c16] at q_v
      rw [if_neg c16] at q_s
      rw [if_neg c16] at q_c
      exact JE_out X rfl rfl ⟨by rw [q_c]; rfl, by rw [q_c]; decide, by rw [q_s]; exact hR⟩
  · skip
    obtain ⟨e1, e2, c2⟩ := e
    subst e1
    rw [e2]
    clear e2
    rw [if_neg c2] at q_v
    rw [if_neg c2] at q_s
    rw [if_neg c2] at q_c
    exact JE_out X rfl rfl ⟨by rw [q_c]; rfl, by rw [q_c]; decide, by rw [q_s]; exact hR⟩
theorem at_slope : ∀ w ∈ vx_at0 "NightValley$Meter" 65 xIS xNames, w ∈ GW ∨ w ∈ NWL := by
  have e : Bundle.ownAtoms0 "NightValley$Meter" 65 xIS xNames = [Cond.initialized "java/lang/Throwable", Cond.superclass "java/lang/Throwable" "java/lang/Object", Cond.instanceMethod ⟨"java/lang/Throwable", "fillInStackTrace", "()Ljava/lang/Throwable;"⟩, Cond.codeSync ⟨"java/lang/Throwable", "fillInStackTrace", "()Ljava/lang/Throwable;"⟩ prog_24_method_18_code 1 (Option.some (FieldType.object "java/lang/Throwable")), Cond.instanceMethod ⟨"java/lang/Throwable", "fillInStackTrace", "(I)Ljava/lang/Throwable;"⟩, Cond.native ⟨"java/lang/Throwable", "fillInStackTrace", "(I)Ljava/lang/Throwable;"⟩, Cond.instanceMethod ⟨"java/lang/Throwable", "<init>", "()V"⟩, Cond.code ⟨"java/lang/Throwable", "<init>", "()V"⟩ prog_24_method_1_code 1 (Option.none : Option FieldType), Cond.instanceMethod ⟨"java/lang/Object", "<init>", "()V"⟩, Cond.code ⟨"java/lang/Object", "<init>", "()V"⟩ object_method_1_code 1 (Option.none : Option FieldType), Cond.methodLink "java/lang/Throwable" 1 ⟨"java/lang/Object", "<init>", "()V"⟩, Cond.methodLink "java/lang/Throwable" 27 ⟨"java/lang/Throwable", "fillInStackTrace", "()Ljava/lang/Throwable;"⟩, Cond.methodLink "java/lang/Throwable" 202 ⟨"java/lang/Throwable", "fillInStackTrace", "(I)Ljava/lang/Throwable;"⟩, Cond.fieldLink "java/lang/Throwable" 7 "java/lang/Throwable" "cause" "Ljava/lang/Throwable;", Cond.lays "java/lang/Throwable" "java/lang/Throwable" "cause" "Ljava/lang/Throwable;", Cond.fieldLink "java/lang/Throwable" 17 "java/lang/Throwable" "stackTrace" "[Ljava/lang/StackTraceElement;", Cond.lays "java/lang/Throwable" "java/lang/Throwable" "stackTrace" "[Ljava/lang/StackTraceElement;", Cond.fieldLink "java/lang/Throwable" 24 "java/lang/Throwable" "suppressedExceptions" "Ljava/util/List;", Cond.lays "java/lang/Throwable" "java/lang/Throwable" "suppressedExceptions" "Ljava/util/List;", Cond.fieldLink "java/lang/Throwable" 13 "java/lang/Throwable" "UNASSIGNED_STACK" "[Ljava/lang/StackTraceElement;", Cond.laysStatic "java/lang/Throwable" "UNASSIGNED_STACK" "[Ljava/lang/StackTraceElement;", Cond.fieldLink "java/lang/Throwable" 20 "java/lang/Throwable" "SUPPRESSED_SENTINEL" "Ljava/util/List;", Cond.laysStatic "java/lang/Throwable" "SUPPRESSED_SENTINEL" "Ljava/util/List;", Cond.lays "java/lang/Throwable" "java/lang/Throwable" "detailMessage" "Ljava/lang/String;", Cond.instanceMethod ⟨"java/lang/IllegalStateException", "<init>", "()V"⟩, Cond.code ⟨"java/lang/IllegalStateException", "<init>", "()V"⟩ prog_18_method_1_code 1 (Option.none : Option FieldType), Cond.methodLink "java/lang/IllegalStateException" 1 ⟨"java/lang/RuntimeException", "<init>", "()V"⟩, Cond.instanceMethod ⟨"java/lang/RuntimeException", "<init>", "()V"⟩, Cond.declares ⟨"java/lang/RuntimeException", "<init>", "()V"⟩, Cond.instanceMethod ⟨"java/lang/RuntimeException", "<init>", "()V"⟩, Cond.code ⟨"java/lang/RuntimeException", "<init>", "()V"⟩ prog_22_method_1_code 1 (Option.none : Option FieldType), Cond.methodLink "java/lang/RuntimeException" 1 ⟨"java/lang/Exception", "<init>", "()V"⟩, Cond.instanceMethod ⟨"java/lang/Exception", "<init>", "()V"⟩, Cond.declares ⟨"java/lang/Exception", "<init>", "()V"⟩, Cond.instanceMethod ⟨"java/lang/Exception", "<init>", "()V"⟩, Cond.code ⟨"java/lang/Exception", "<init>", "()V"⟩ prog_16_method_1_code 1 (Option.none : Option FieldType), Cond.methodLink "java/lang/Exception" 1 ⟨"java/lang/Throwable", "<init>", "()V"⟩, Cond.instanceMethod ⟨"java/lang/Throwable", "<init>", "()V"⟩, Cond.declares ⟨"java/lang/Throwable", "<init>", "()V"⟩, Cond.methodLink "NightValley$Meter" 65 ⟨"java/lang/IllegalStateException", "<init>", "()V"⟩, Cond.instantiable "java/lang/IllegalStateException" 6, Cond.castable "java/lang/IllegalStateException" "java/lang/IllegalStateException", Cond.selects "java/lang/IllegalStateException" ⟨"java/lang/Throwable", "fillInStackTrace", "(I)Ljava/lang/Throwable;"⟩ ⟨"java/lang/Throwable", "fillInStackTrace", "(I)Ljava/lang/Throwable;"⟩, Cond.selects "java/lang/IllegalStateException" ⟨"java/lang/Throwable", "fillInStackTrace", "()Ljava/lang/Throwable;"⟩ ⟨"java/lang/Throwable", "fillInStackTrace", "()Ljava/lang/Throwable;"⟩, Cond.lays "java/lang/IllegalStateException" "java/lang/Throwable" "cause" "Ljava/lang/Throwable;", Cond.lays "java/lang/IllegalStateException" "java/lang/Throwable" "stackTrace" "[Ljava/lang/StackTraceElement;", Cond.lays "java/lang/IllegalStateException" "java/lang/Throwable" "suppressedExceptions" "Ljava/util/List;", Cond.lays "java/lang/IllegalStateException" "java/lang/Throwable" "detailMessage" "Ljava/lang/String;", Cond.isRef (.static "java/lang/Throwable" "UNASSIGNED_STACK" "[Ljava/lang/StackTraceElement;"), Cond.isRef (.static "java/lang/Throwable" "SUPPRESSED_SENTINEL" "Ljava/util/List;"), Cond.fieldLink "java/lang/Throwable" 198 "java/lang/Throwable" "backtrace" "Ljava/lang/Object;", Cond.lays "java/lang/Throwable" "java/lang/Throwable" "backtrace" "Ljava/lang/Object;", Cond.lays "java/lang/IllegalStateException" "java/lang/Throwable" "backtrace" "Ljava/lang/Object;"] := rfl
  have h : ∀ w ∈ Bundle.ownAtoms0 "NightValley$Meter" 65 xIS xNames, vx_no w = true → w ∈ GW ∨ w ∈ NWL := by
    rw [e]
    refine List.forall_mem_cons.mpr ⟨fun _ => Or.inl gw_1_14, ?_⟩
    refine List.forall_mem_cons.mpr ⟨fun _ => Or.inl gw_2_63, ?_⟩
    refine List.forall_mem_cons.mpr ⟨fun _ => Or.inl gw_2_72, ?_⟩
    refine List.forall_mem_cons.mpr ⟨fun _ => Or.inl gw_2_76, ?_⟩
    refine List.forall_mem_cons.mpr ⟨fun _ => Or.inl gw_2_79, ?_⟩
    refine List.forall_mem_cons.mpr ⟨fun _ => Or.inl gw_2_81, ?_⟩
    refine List.forall_mem_cons.mpr ⟨fun _ => Or.inl gw_2_64, ?_⟩
    refine List.forall_mem_cons.mpr ⟨fun _ => Or.inl gw_2_65, ?_⟩
    refine List.forall_mem_cons.mpr ⟨fun _ => Or.inl gw_1_32, ?_⟩
    refine List.forall_mem_cons.mpr ⟨fun _ => Or.inl gw_1_33, ?_⟩
    refine List.forall_mem_cons.mpr ⟨fun _ => Or.inl gw_2_66, ?_⟩
    refine List.forall_mem_cons.mpr ⟨fun _ => Or.inl gw_2_71, ?_⟩
    refine List.forall_mem_cons.mpr ⟨fun _ => Or.inl gw_2_77, ?_⟩
    refine List.forall_mem_cons.mpr ⟨fun _ => Or.inl gw_2_93, ?_⟩
    refine List.forall_mem_cons.mpr ⟨fun _ => Or.inl gw_2_53, ?_⟩
    refine List.forall_mem_cons.mpr ⟨fun _ => Or.inl gw_2_94, ?_⟩
    refine List.forall_mem_cons.mpr ⟨fun _ => Or.inl gw_2_55, ?_⟩
    refine List.forall_mem_cons.mpr ⟨fun _ => Or.inl gw_2_95, ?_⟩
    refine List.forall_mem_cons.mpr ⟨fun _ => Or.inl gw_2_57, ?_⟩
    refine List.forall_mem_cons.mpr ⟨fun _ => Or.inl gw_2_67, ?_⟩
    refine List.forall_mem_cons.mpr ⟨fun h => absurd h (by decide +kernel), ?_⟩
    refine List.forall_mem_cons.mpr ⟨fun _ => Or.inl gw_2_69, ?_⟩
    refine List.forall_mem_cons.mpr ⟨fun h => absurd h (by decide +kernel), ?_⟩
    refine List.forall_mem_cons.mpr ⟨fun _ => Or.inl gw_2_59, ?_⟩
    refine List.forall_mem_cons.mpr ⟨fun _ => Or.inl gw_3_5, ?_⟩
    refine List.forall_mem_cons.mpr ⟨fun _ => Or.inl gw_3_6, ?_⟩
    refine List.forall_mem_cons.mpr ⟨fun _ => Or.inl gw_3_7, ?_⟩
    refine List.forall_mem_cons.mpr ⟨fun _ => Or.inl gw_2_86, ?_⟩
    refine List.forall_mem_cons.mpr ⟨fun _ => Or.inr (List.mem_of_getElem? (i := 4) rfl), ?_⟩
    refine List.forall_mem_cons.mpr ⟨fun _ => Or.inl gw_2_86, ?_⟩
    refine List.forall_mem_cons.mpr ⟨fun _ => Or.inl gw_2_87, ?_⟩
    refine List.forall_mem_cons.mpr ⟨fun _ => Or.inl gw_2_88, ?_⟩
    refine List.forall_mem_cons.mpr ⟨fun _ => Or.inl gw_2_89, ?_⟩
    refine List.forall_mem_cons.mpr ⟨fun _ => Or.inr (List.mem_of_getElem? (i := 6) rfl), ?_⟩
    refine List.forall_mem_cons.mpr ⟨fun _ => Or.inl gw_2_89, ?_⟩
    refine List.forall_mem_cons.mpr ⟨fun _ => Or.inl gw_2_90, ?_⟩
    refine List.forall_mem_cons.mpr ⟨fun _ => Or.inl gw_2_91, ?_⟩
    refine List.forall_mem_cons.mpr ⟨fun _ => Or.inl gw_2_64, ?_⟩
    refine List.forall_mem_cons.mpr ⟨fun _ => Or.inr (List.mem_of_getElem? (i := 8) rfl), ?_⟩
    refine List.forall_mem_cons.mpr ⟨fun _ => Or.inl gw_4_152, ?_⟩
    refine List.forall_mem_cons.mpr ⟨fun _ => Or.inl gw_2_236, ?_⟩
    refine List.forall_mem_cons.mpr ⟨fun _ => Or.inr (List.mem_of_getElem? (i := 11) rfl), ?_⟩
    refine List.forall_mem_cons.mpr ⟨fun _ => Or.inl gw_2_238, ?_⟩
    refine List.forall_mem_cons.mpr ⟨fun _ => Or.inl gw_2_75, ?_⟩
    refine List.forall_mem_cons.mpr ⟨fun _ => Or.inl gw_2_239, ?_⟩
    refine List.forall_mem_cons.mpr ⟨fun _ => Or.inl gw_3_0, ?_⟩
    refine List.forall_mem_cons.mpr ⟨fun _ => Or.inl gw_3_1, ?_⟩
    refine List.forall_mem_cons.mpr ⟨fun _ => Or.inl gw_3_2, ?_⟩
    refine List.forall_mem_cons.mpr ⟨fun h => absurd h (by decide +kernel), ?_⟩
    refine List.forall_mem_cons.mpr ⟨fun h => absurd h (by decide +kernel), ?_⟩
    refine List.forall_mem_cons.mpr ⟨fun _ => Or.inl gw_2_62, ?_⟩
    refine List.forall_mem_cons.mpr ⟨fun _ => Or.inl gw_2_61, ?_⟩
    refine List.forall_mem_cons.mpr ⟨fun _ => Or.inl gw_3_3, ?_⟩
    exact List.forall_mem_nil _
  exact fun w hw => h w (List.mem_filter.mp hw).1 (List.mem_filter.mp hw).2
def X_slope_L23 (σ : St) (i : Nat) (K23 : Int64 → Int64 → Int64 → Int64 → Int64) : Nat → Nat → Int64 → Int64 → Int64 → Int64 → Int64
  | 0, _, a23_3, a23_5, a23_7, a23_9 => K23 a23_3 a23_5 a23_7 a23_9
  | n23 + 1, k23, a23_3, a23_5, a23_7, a23_9 => (X_slope_L23 σ i K23 n23 (k23 + 1) (a23_3 + (σ 32 (10 * i + ix (nI k23))).toInt64) (a23_5 + (X_corrected σ i (10 * i + ix (nI k23))).toInt64) (a23_7 + ((σ 32 (10 * i + ix (nI k23))).toInt64 * (X_corrected σ i (10 * i + ix (nI k23))).toInt64)) (a23_9 + ((σ 32 (10 * i + ix (nI k23))).toInt64 * (σ 32 (10 * i + ix (nI k23))).toInt64)))
def X_slope_L23_s (σ : St) (i : Nat) (K23s : Int64 → Int64 → Int64 → Int64 → St) : Nat → Nat → Int64 → Int64 → Int64 → Int64 → St
  | 0, _, a23_3, a23_5, a23_7, a23_9 => K23s a23_3 a23_5 a23_7 a23_9
  | n23 + 1, k23, a23_3, a23_5, a23_7, a23_9 => (X_slope_L23_s σ i K23s n23 (k23 + 1) (a23_3 + (σ 32 (10 * i + ix (nI k23))).toInt64) (a23_5 + (X_corrected σ i (10 * i + ix (nI k23))).toInt64) (a23_7 + ((σ 32 (10 * i + ix (nI k23))).toInt64 * (X_corrected σ i (10 * i + ix (nI k23))).toInt64)) (a23_9 + ((σ 32 (10 * i + ix (nI k23))).toInt64 * (σ 32 (10 * i + ix (nI k23))).toInt64)))
def X_slope_L23_c (σ : St) (i : Nat) (K23c : Int64 → Int64 → Int64 → Int64 → Int32) : Nat → Nat → Int64 → Int64 → Int64 → Int64 → Int32
  | 0, _, a23_3, a23_5, a23_7, a23_9 => K23c a23_3 a23_5 a23_7 a23_9
  | n23 + 1, k23, a23_3, a23_5, a23_7, a23_9 => (X_slope_L23_c σ i K23c n23 (k23 + 1) (a23_3 + (σ 32 (10 * i + ix (nI k23))).toInt64) (a23_5 + (X_corrected σ i (10 * i + ix (nI k23))).toInt64) (a23_7 + ((σ 32 (10 * i + ix (nI k23))).toInt64 * (X_corrected σ i (10 * i + ix (nI k23))).toInt64)) (a23_9 + ((σ 32 (10 * i + ix (nI k23))).toInt64 * (σ 32 (10 * i + ix (nI k23))).toInt64)))
def X_slope (σ : St) (i : Nat) : Int64 := (X_slope_L23 σ i (fun a23_3 a23_5 a23_7 a23_9 => (if (lg_cmp (((nI (xL σ (i + 6))).toInt64 * a23_9) - (a23_3 * a23_3)) (0 : Int64)) = (0 : Int32) then (0 : Int64) else (((1000 : Int64) * (((nI (xL σ (i + 6))).toInt64 * a23_7) - (a23_3 * a23_5))) / (((nI (xL σ (i + 6))).toInt64 * a23_9) - (a23_3 * a23_3))))) (xL σ (i + 6)) 0 (0 : Int64) (0 : Int64) (0 : Int64) (0 : Int64))
def X_slope_s (σ : St) (i : Nat) : St := (X_slope_L23_s σ i (fun a23_3 a23_5 a23_7 a23_9 => (if (lg_cmp (((nI (xL σ (i + 6))).toInt64 * a23_9) - (a23_3 * a23_3)) (0 : Int64)) = (0 : Int32) then σ else σ)) (xL σ (i + 6)) 0 (0 : Int64) (0 : Int64) (0 : Int64) (0 : Int64))
def X_slope_c (σ : St) (i : Nat) : Int32 := (X_slope_L23_c σ i (fun a23_3 a23_5 a23_7 a23_9 => (if (lg_cmp (((nI (xL σ (i + 6))).toInt64 * a23_9) - (a23_3 * a23_3)) (0 : Int64)) = (0 : Int32) then (3 : Int32) else (0 : Int32))) (xL σ (i + 6)) 0 (0 : Int64) (0 : Int64) (0 : Int64) (0 : Int64))
theorem cw_X3_slope : Cond.instanceMethod yX3_slope ∈ GW ∧ Cond.selects RX3 yX3_slope yX3_slope ∈ GW ∧ Cond.initialized RX3 ∈ GW ∧ Cond.code yX3_slope cX3_slope 17 (some .long) ∈ GW ∧ yX3_slope.cls = RX3 ∧ (yX3_slope.cls ≠ "java/lang/invoke/MethodHandle" ∧ yX3_slope.cls ≠ "java/lang/invoke/VarHandle") ∧ (parseMethodDescriptor yX3_slope.desc).map (fun d => d.parameters.length) = some 0 := ⟨gw_4_145, gw_4_146, gw_1_24, gw_4_147, rfl, ⟨by decide, by decide⟩, by decide +kernel⟩
set_option maxRecDepth 100000 in
set_option maxHeartbeats 4000000 in
theorem c_X_slope {l : Launch} {D : va_G} {ca : Nat → Nat} {h : fH} {ρ : Nat → Nat → Nat} {μ : Nat → Nat → Int32} {cap : Nat → Nat} {σ : St} (hR : RX ca h ρ μ cap σ) (hI : InvX σ) (i : Nat) (hi : i < ix (σ 26 0)) : FM l D ca yX3_slope (.code yX3_slope cX3_slope 17 (some .long)) { frames := 7, cells := 1, slots := 6, locals := 161 } [.ref (ρ 11 i)] h (pPub (some (.long (X_slope σ i))) (X_slope_c σ i) (fun h2 => RX ca h2 ρ μ cap (X_slope_s σ i))) (pxX (X_slope_c σ i) (fun h2 => RX ca h2 ρ μ cap (X_slope_s σ i))) := by
  refine FM.of [some (.ref (ρ 11 i)), none, none, none, none, none, none, none, none, none, none, none, none, none, none, none, none] (by decide) (Nat.le_of_ble_eq_true rfl) rfl ?_
  rintro K X rfl rfl rfl
  have q_v : (X_slope σ i) = (X_slope_L23 σ i (fun a23_3 a23_5 a23_7 a23_9 => (if (lg_cmp (((nI (xL σ (i + 6))).toInt64 * a23_9) - (a23_3 * a23_3)) (0 : Int64)) = (0 : Int32) then (0 : Int64) else (((1000 : Int64) * (((nI (xL σ (i + 6))).toInt64 * a23_7) - (a23_3 * a23_5))) / (((nI (xL σ (i + 6))).toInt64 * a23_9) - (a23_3 * a23_3))))) (xL σ (i + 6)) 0 (0 : Int64) (0 : Int64) (0 : Int64) (0 : Int64)) := rfl
  have q_s : (X_slope_s σ i) = (X_slope_L23_s σ i (fun a23_3 a23_5 a23_7 a23_9 => (if (lg_cmp (((nI (xL σ (i + 6))).toInt64 * a23_9) - (a23_3 * a23_3)) (0 : Int64)) = (0 : Int32) then σ else σ)) (xL σ (i + 6)) 0 (0 : Int64) (0 : Int64) (0 : Int64) (0 : Int64)) := rfl
  have q_c : (X_slope_c σ i) = (X_slope_L23_c σ i (fun a23_3 a23_5 a23_7 a23_9 => (if (lg_cmp (((nI (xL σ (i + 6))).toInt64 * a23_9) - (a23_3 * a23_3)) (0 : Int64)) = (0 : Int32) then (3 : Int32) else (0 : Int32))) (xL σ (i + 6)) 0 (0 : Int64) (0 : Int64) (0 : Int64) (0 : Int64)) := rfl
  refine J_aload_0 X dX3_slope_0 ?_
  refine J_get X (C := RX3) (T := TX3) (N := 5) (ref := "NightValley$Meter") (hR.meter hi) rfl 3 (by decide) rfl in_X3 gw_3_167 (fun _ z => z) dX3_slope_1 ?_
  refine J_callV X (c_Xsize hR (k := (i + 6)) (by omega)) (And.intro gw_3_222 cw_Jx4a65c_size_8abf5) (hR.list (by omega)) rfl rfl rfl (Nat.le_of_ble_eq_true rfl) dX3_slope_4 rfl (J.pi ?_) JE.no
  refine J_i2l X dX3_slope_7 ?_
  refine J_lstore_1 X dX3_slope_8 rfl (by decide) ?_
  refine J_lconst (v := 0) X dX3_slope_9 rfl ?_
  refine J_lstore_3 X dX3_slope_10 rfl (by decide) ?_
  refine J_lconst (v := 0) X dX3_slope_11 rfl ?_
  refine J_lstore_5 X dX3_slope_12 rfl (by decide) ?_
  refine J_lconst (v := 0) X dX3_slope_14 rfl ?_
  refine J_lstore_7 X dX3_slope_15 rfl (by decide) ?_
  refine J_lconst (v := 0) X dX3_slope_17 rfl ?_
  refine J_lstore_9 X dX3_slope_18 rfl (by decide) ?_
  refine J_iconst (v := 0) X dX3_slope_20 rfl ?_
  refine J_istore_11 X dX3_slope_21 rfl (by decide) ?_
  have hle := IX_L hI (i + 6)
  obtain ⟨K23, hK23⟩ : ∃ f : Int64 → Int64 → Int64 → Int64 → Int64, f = (fun a23_3 a23_5 a23_7 a23_9 => (if (lg_cmp (((nI (xL σ (i + 6))).toInt64 * a23_9) - (a23_3 * a23_3)) (0 : Int64)) = (0 : Int32) then (0 : Int64) else (((1000 : Int64) * (((nI (xL σ (i + 6))).toInt64 * a23_7) - (a23_3 * a23_5))) / (((nI (xL σ (i + 6))).toInt64 * a23_9) - (a23_3 * a23_3))))) := ⟨_, rfl⟩
  obtain ⟨K23s, hK23s⟩ : ∃ f : Int64 → Int64 → Int64 → Int64 → St, f = (fun a23_3 a23_5 a23_7 a23_9 => (if (lg_cmp (((nI (xL σ (i + 6))).toInt64 * a23_9) - (a23_3 * a23_3)) (0 : Int64)) = (0 : Int32) then σ else σ)) := ⟨_, rfl⟩
  obtain ⟨K23c, hK23c⟩ : ∃ f : Int64 → Int64 → Int64 → Int64 → Int32, f = (fun a23_3 a23_5 a23_7 a23_9 => (if (lg_cmp (((nI (xL σ (i + 6))).toInt64 * a23_9) - (a23_3 * a23_3)) (0 : Int64)) = (0 : Int32) then (3 : Int32) else (0 : Int32))) := ⟨_, rfl⟩
  have X23 : ∀ (a23_3 : Int64) (a23_5 : Int64) (a23_7 : Int64) (a23_9 : Int64) (_ : True), (X_slope σ i) = (if (lg_cmp (((nI (xL σ (i + 6))).toInt64 * a23_9) - (a23_3 * a23_3)) (0 : Int64)) = (0 : Int32) then (0 : Int64) else (((1000 : Int64) * (((nI (xL σ (i + 6))).toInt64 * a23_7) - (a23_3 * a23_5))) / (((nI (xL σ (i + 6))).toInt64 * a23_9) - (a23_3 * a23_3)))) → (X_slope_s σ i) = (if (lg_cmp (((nI (xL σ (i + 6))).toInt64 * a23_9) - (a23_3 * a23_3)) (0 : Int64)) = (0 : Int32) then σ else σ) → (X_slope_c σ i) = (if (lg_cmp (((nI (xL σ (i + 6))).toInt64 * a23_9) - (a23_3 * a23_3)) (0 : Int64)) = (0 : Int32) then (3 : Int32) else (0 : Int32)) → J K h [some (.ref (ρ 11 i)), some (.long (nI (xL σ (i + 6))).toInt64), none, some (.long a23_3), none, some (.long a23_5), none, some (.long a23_7), none, some (.long a23_9), none, none, none, none, none, none, none] [] 104 0 0 := by
    intro a23_3 a23_5 a23_7 a23_9  _  q_v q_s q_c
    refine J_lload_1 X dX3_slope_104 ?_
    refine J_lload_9 X dX3_slope_105 ?_
    refine J_lmul X dX3_slope_107 ?_
    refine J_lload_3 X dX3_slope_108 ?_
    refine J_lload_3 X dX3_slope_109 ?_
    refine J_lmul X dX3_slope_110 ?_
    refine J_lsub X dX3_slope_111 ?_
    refine J_lstore_11 X dX3_slope_112 rfl (by decide) ?_
    refine J_lload_11 X dX3_slope_114 ?_
    refine J_lconst (v := 0) X dX3_slope_116 rfl ?_
    refine J_lcmp X dX3_slope_117 ?_
    refine J_if_ne (tgt := 129) X dX3_slope_118 (by decide) (fun c118 => ?_) (fun c118 => ?_)
    · skip
      rw [if_neg c118] at q_v
      rw [if_neg c118] at q_s
      rw [if_neg c118] at q_c
      refine J_ldc2 (v := 1000) X dX3_slope_129 gw_4_153 ?_
      refine J_lload_1 X dX3_slope_132 ?_
      refine J_lload_7 X dX3_slope_133 ?_
      refine J_lmul X dX3_slope_135 ?_
      refine J_lload_3 X dX3_slope_136 ?_
      refine J_lload_5 X dX3_slope_137 ?_
      refine J_lmul X dX3_slope_139 ?_
      refine J_lsub X dX3_slope_140 ?_
      refine J_lmul X dX3_slope_141 ?_
      refine J_lload_11 X dX3_slope_142 ?_
      refine J_ldiv X dX3_slope_144 (fun z => c118 (lg_z z)) ?_
      exact J_lret X rfl rfl ⟨by rw [q_v], by rw [q_c], by rw [q_s]; exact hR⟩ dX3_slope_145
    · skip
      rw [if_pos c118] at q_v
      rw [if_pos c118] at q_s
      rw [if_pos c118] at q_c
      exact J_throw0 X (names := xNames) rfl (by decide) (by decide) gw_4_151 gw_1_21 at_slope dX3_slope_121 dX3_slope_124 dX3_slope_125 dX3_slope_128 (by decide) (by decide) (by decide) (by decide) ⟨by rw [q_c]; rfl, by rw [q_c]; decide, by rw [q_s]; exact hR⟩
  have L23 : ∀ (n23 k23 : Nat) (a23_3 : Int64) (a23_5 : Int64) (a23_7 : Int64) (a23_9 : Int64), k23 + n23 = (xL σ (i + 6)) → (X_slope σ i) = (X_slope_L23 σ i K23 n23 k23 a23_3 a23_5 a23_7 a23_9) → (X_slope_s σ i) = (X_slope_L23_s σ i K23s n23 k23 a23_3 a23_5 a23_7 a23_9) → (X_slope_c σ i) = (X_slope_L23_c σ i K23c n23 k23 a23_3 a23_5 a23_7 a23_9) → J K h [some (.ref (ρ 11 i)), some (.long (nI (xL σ (i + 6))).toInt64), none, some (.long a23_3), none, some (.long a23_5), none, some (.long a23_7), none, some (.long a23_9), none, some (.int (nI k23)), none, none, none, none, none] [] 23 0 0 := by
    intro n23
    induction n23 with
    | zero =>
      intro k23 a23_3 a23_5 a23_7 a23_9  hk23  q_v q_s q_c
      rw [X_slope_L23] at q_v
      rw [X_slope_L23_s] at q_s
      rw [X_slope_L23_c] at q_c
      refine J_iload_11 X dX3_slope_23 ?_
      refine J_aload_0 X dX3_slope_25 ?_
      refine J_get X (C := RX3) (T := TX3) (N := 5) (ref := "NightValley$Meter") (hR.meter hi) rfl 3 (by decide) rfl in_X3 gw_3_167 (fun _ z => z) dX3_slope_26 ?_
      refine J_callV X (c_Xsize hR (k := (i + 6)) (by omega)) (And.intro gw_3_222 cw_Jx4a65c_size_8abf5) (hR.list (by omega)) rfl rfl rfl (Nat.le_of_ble_eq_true rfl) dX3_slope_29 rfl (J.pi ?_) JE.no
      refine J_icmp_ge (tgt := 104) X dX3_slope_32 (by decide) (fun _ => ?_) (fun c => absurd (lp_exit rfl (by omega) hk23) c)
      rw [hK23] at q_v
      rw [hK23s] at q_s
      rw [hK23c] at q_c
      refine J.subL (lv' := [some (.ref (ρ 11 i)), some (.long (nI (xL σ (i + 6))).toInt64), none, some (.long a23_3), none, some (.long a23_5), none, some (.long a23_7), none, some (.long a23_9), none, none, none, none, none, none, none]) (And.intro rfl (And.intro rfl (And.intro rfl (And.intro rfl (And.intro rfl (And.intro rfl trivial)))))) ?_
      exact X23 a23_3 a23_5 a23_7 a23_9  trivial  q_v q_s q_c
    | succ n23 ih23 =>
      intro k23 a23_3 a23_5 a23_7 a23_9  hk23  q_v q_s q_c
      rw [X_slope_L23] at q_v
      rw [X_slope_L23_s] at q_s
      rw [X_slope_L23_c] at q_c
      have hlt23 : k23 < (xL σ (i + 6)) := by omega
      refine J_iload_11 X dX3_slope_23 ?_
      refine J_aload_0 X dX3_slope_25 ?_
      refine J_get X (C := RX3) (T := TX3) (N := 5) (ref := "NightValley$Meter") (hR.meter hi) rfl 3 (by decide) rfl in_X3 gw_3_167 (fun _ z => z) dX3_slope_26 ?_
      refine J_callV X (c_Xsize hR (k := (i + 6)) (by omega)) (And.intro gw_3_222 cw_Jx4a65c_size_8abf5) (hR.list (by omega)) rfl rfl rfl (Nat.le_of_ble_eq_true rfl) dX3_slope_29 rfl (J.pi ?_) JE.no
      refine J_icmp_ge (tgt := 104) X dX3_slope_32 (by decide) (fun c => absurd c (lp_stay rfl (by omega) hk23)) (fun _ => ?_)
      refine J_aload_0 X dX3_slope_35 ?_
      refine J_get X (C := RX3) (T := TX3) (N := 5) (ref := "NightValley$Meter") (hR.meter hi) rfl 3 (by decide) rfl in_X3 gw_3_167 (fun _ z => z) dX3_slope_36 ?_
      refine J_iload_11 X dX3_slope_39 ?_
      refine J_callV X (c_Xget hR (k := (i + 6)) (by omega) (vp_in_nI (N := (xL σ (i + 6))) (by omega) (by omega))) (And.intro gw_4_148 cw_Jx4a65c_get_915e3) (hR.list (by omega)) rfl rfl rfl (Nat.le_of_ble_eq_true rfl) dX3_slope_41 rfl (J.pa ?_) JE.no
      refine J_cast X (C := RX5) (T := TX5) (N := 2) (hR.reading (rdin hi (vp_in_nI (N := (xL σ (i + 6))) (by omega) (by omega)) (IX_reads hI _))) rfl gw_4_149 dX3_slope_44 ?_
      refine J_astore_12 X dX3_slope_47 rfl (by decide) ?_
      refine J_aload_12 X dX3_slope_49 ?_
      refine J_get X (C := RX5) (T := TX5) (N := 2) (ref := "NightValley$Reading") (hR.reading (rdin hi (vp_in_nI (N := (xL σ (i + 6))) (by omega) (by omega)) (IX_reads hI _))) rfl 0 (by decide) rfl in_X5 gw_3_208 (fun _ z => z) dX3_slope_51 ?_
      refine J_i2l X dX3_slope_54 ?_
      refine J_lstore_13 X dX3_slope_55 rfl (by decide) ?_
      refine J_aload_0 X dX3_slope_57 ?_
      refine J_aload_12 X dX3_slope_58 ?_
      refine J_callV X (c_X_corrected hR hI i (10 * i + ix (nI k23)) hi (rdin hi (vp_in_nI (N := (xL σ (i + 6))) (by omega) (by omega)) (IX_reads hI _))) (And.intro gw_4_150 cw_X3_corrected) (hR.meter hi) rfl rfl rfl (Nat.le_of_ble_eq_true rfl) dX3_slope_60 rfl (J.pi ?_) JE.no
      refine J_i2l X dX3_slope_63 ?_
      refine J_lstore_15 X dX3_slope_64 rfl (by decide) ?_
      refine J_lload_3 X dX3_slope_66 ?_
      refine J_lload_13 X dX3_slope_67 ?_
      refine J_ladd X dX3_slope_69 ?_
      refine J_lstore_3 X dX3_slope_70 rfl (by decide) ?_
      refine J_lload_5 X dX3_slope_71 ?_
      refine J_lload_15 X dX3_slope_73 ?_
      refine J_ladd X dX3_slope_75 ?_
      refine J_lstore_5 X dX3_slope_76 rfl (by decide) ?_
      refine J_lload_7 X dX3_slope_78 ?_
      refine J_lload_13 X dX3_slope_80 ?_
      refine J_lload_15 X dX3_slope_82 ?_
      refine J_lmul X dX3_slope_84 ?_
      refine J_ladd X dX3_slope_85 ?_
      refine J_lstore_7 X dX3_slope_86 rfl (by decide) ?_
      refine J_lload_9 X dX3_slope_88 ?_
      refine J_lload_13 X dX3_slope_90 ?_
      refine J_lload_13 X dX3_slope_92 ?_
      refine J_lmul X dX3_slope_94 ?_
      refine J_ladd X dX3_slope_95 ?_
      refine J_lstore_9 X dX3_slope_96 rfl (by decide) ?_
      refine J_iinc_11 (v := (nI (k23 + 1))) X dX3_slope_98 (nI_1 _) rfl (by decide) ?_
      refine J_goto (tgt := 23) X dX3_slope_101 (by decide) ?_
      refine J.subL (lv' := [some (.ref (ρ 11 i)), some (.long (nI (xL σ (i + 6))).toInt64), none, some (.long (a23_3 + (σ 32 (10 * i + ix (nI k23))).toInt64)), none, some (.long (a23_5 + (X_corrected σ i (10 * i + ix (nI k23))).toInt64)), none, some (.long (a23_7 + ((σ 32 (10 * i + ix (nI k23))).toInt64 * (X_corrected σ i (10 * i + ix (nI k23))).toInt64))), none, some (.long (a23_9 + ((σ 32 (10 * i + ix (nI k23))).toInt64 * (σ 32 (10 * i + ix (nI k23))).toInt64))), none, some (.int (nI (k23 + 1))), none, none, none, none, none]) (And.intro rfl (And.intro rfl (And.intro rfl (And.intro rfl (And.intro rfl (And.intro rfl (And.intro rfl trivial))))))) ?_
      exact ih23 (k23 + 1) (a23_3 + (σ 32 (10 * i + ix (nI k23))).toInt64) (a23_5 + (X_corrected σ i (10 * i + ix (nI k23))).toInt64) (a23_7 + ((σ 32 (10 * i + ix (nI k23))).toInt64 * (X_corrected σ i (10 * i + ix (nI k23))).toInt64)) (a23_9 + ((σ 32 (10 * i + ix (nI k23))).toInt64 * (σ 32 (10 * i + ix (nI k23))).toInt64))  (by omega)  q_v q_s q_c
  have q_v : (X_slope σ i) = (X_slope_L23 σ i K23 (xL σ (i + 6)) 0 (0 : Int64) (0 : Int64) (0 : Int64) (0 : Int64)) := by rw [hK23]; exact q_v
  have q_s : (X_slope_s σ i) = (X_slope_L23_s σ i K23s (xL σ (i + 6)) 0 (0 : Int64) (0 : Int64) (0 : Int64) (0 : Int64)) := by rw [hK23s]; exact q_s
  have q_c : (X_slope_c σ i) = (X_slope_L23_c σ i K23c (xL σ (i + 6)) 0 (0 : Int64) (0 : Int64) (0 : Int64) (0 : Int64)) := by rw [hK23c]; exact q_c
  exact L23 (xL σ (i + 6)) 0 (0 : Int64) (0 : Int64) (0 : Int64) (0 : Int64)  (Nat.zero_add _)  q_v q_s q_c
def X_trend (σ : St) (p1 : Int32) : Int64 := (@ite _ (vp_in p1 (ix (σ 26 0))) (Classical.propDecidable _) (if X_slope_c σ (ix p1) = 0 then (X_slope σ (ix p1)) else (0 : Int64)) (0 : Int64))
def X_trend_s (σ : St) (p1 : Int32) : St := (@ite _ (vp_in p1 (ix (σ 26 0))) (Classical.propDecidable _) (if X_slope_c σ (ix p1) = 0 then (X_slope_s σ (ix p1)) else (X_slope_s σ (ix p1))) σ)
def X_trend_c (σ : St) (p1 : Int32) : Int32 := (@ite _ (vp_in p1 (ix (σ 26 0))) (Classical.propDecidable _) (if X_slope_c σ (ix p1) = 0 then (0 : Int32) else (X_slope_c σ (ix p1))) (1 : Int32))
theorem cw_X10_trend : Cond.instanceMethod yX10_trend ∈ GW ∧ Cond.selects RX10 yX10_trend yX10_trend ∈ GW ∧ Cond.initialized RX10 ∈ GW ∧ Cond.code yX10_trend cX10_trend 2 (some .long) ∈ GW ∧ yX10_trend.cls = RX10 ∧ (yX10_trend.cls ≠ "java/lang/invoke/MethodHandle" ∧ yX10_trend.cls ≠ "java/lang/invoke/VarHandle") ∧ (parseMethodDescriptor yX10_trend.desc).map (fun d => d.parameters.length) = some 1 := ⟨gw_4_141, gw_4_142, gw_1_1, gw_4_143, rfl, ⟨by decide, by decide⟩, by decide +kernel⟩
set_option maxRecDepth 100000 in
set_option maxHeartbeats 4000000 in
theorem c_X_trend {l : Launch} {D : va_G} {ca : Nat → Nat} {h : fH} {ρ : Nat → Nat → Nat} {μ : Nat → Nat → Int32} {cap : Nat → Nat} {σ : St} (hR : RX ca h ρ μ cap σ) (hI : InvX σ) (p1 : Int32) : FM l D ca yX10_trend (.code yX10_trend cX10_trend 2 (some .long)) { frames := 8, cells := 2, slots := 12, locals := 197 } [.ref (ρ 0 0), .int p1] h (pPub (some (.long (X_trend σ p1))) (X_trend_c σ p1) (fun h2 => RX ca h2 ρ μ cap (X_trend_s σ p1))) (pxX (X_trend_c σ p1) (fun h2 => RX ca h2 ρ μ cap (X_trend_s σ p1))) := by
  refine FM.of [some (.ref (ρ 0 0)), some (.int p1)] (by decide) (Nat.le_of_ble_eq_true rfl) rfl ?_
  rintro K X rfl rfl rfl
  have q_v : (X_trend σ p1) = (@ite _ (vp_in p1 (ix (σ 26 0))) (Classical.propDecidable _) (if X_slope_c σ (ix p1) = 0 then (X_slope σ (ix p1)) else (0 : Int64)) (0 : Int64)) := rfl
  have q_s : (X_trend_s σ p1) = (@ite _ (vp_in p1 (ix (σ 26 0))) (Classical.propDecidable _) (if X_slope_c σ (ix p1) = 0 then (X_slope_s σ (ix p1)) else (X_slope_s σ (ix p1))) σ) := rfl
  have q_c : (X_trend_c σ p1) = (@ite _ (vp_in p1 (ix (σ 26 0))) (Classical.propDecidable _) (if X_slope_c σ (ix p1) = 0 then (0 : Int32) else (X_slope_c σ (ix p1))) (1 : Int32)) := rfl
  refine J_aload_0 X dX10_trend_0 ?_
  refine J_iload_1 X dX10_trend_1 ?_
  refine J_callV X (c_meterOf hR hI p1) (And.intro gw_3_186 cw_X10_meterOf) hR.root rfl rfl rfl (Nat.le_of_ble_eq_true rfl) dX10_trend_2 rfl (fun v h2 e => ?_) (fun E h2 e => ?_)
  · skip
    obtain ⟨e1, e2, c2⟩ := e
    subst e1
    rw [e2]
    clear e2
    rw [if_pos c2] at q_v
    rw [if_pos c2] at q_s
    rw [if_pos c2] at q_c
    show J K h [some (.ref (ρ 0 0)), some (.int p1)] [.ref (ρ 11 (ix p1))] 5 1 6
    refine J_callV X (c_X_slope hR hI (ix p1) (vp_lt c2)) (And.intro gw_4_144 cw_X3_slope) (hR.meter (vp_lt c2)) rfl rfl rfl (Nat.le_of_ble_eq_true rfl) dX10_trend_5 rfl (fun v h1 e => ?_) (fun E h1 e => ?_)
    · skip
      obtain ⟨e1, c5, hR1⟩ := e
      subst e1
      rw [if_pos c5] at q_v
      rw [if_pos c5] at q_s
      rw [if_pos c5] at q_c
      show J K h1 [some (.ref (ρ 0 0)), some (.int p1)] [.long (X_slope σ (ix p1))] 8 2 12
      exact J_lret X rfl rfl ⟨by rw [q_v], by rw [q_c], by rw [q_s]; exact hR1⟩ dX10_trend_8
    · skip
      obtain ⟨e1, c5, hR1⟩ := e
      rw [if_neg c5] at q_v
      rw [if_neg c5] at q_s
      rw [if_neg c5] at q_c
      exact JE_out X rfl rfl ⟨by rw [q_c]; exact e1, by rw [q_c]; exact c5, by rw [q_s]; exact hR1⟩
  · skip
    obtain ⟨e1, e2, c2⟩ := e
    subst e1
    rw [e2]
    clear e2
    rw [if_neg c2] at q_v
    rw [if_neg c2] at q_s
    rw [if_neg c2] at q_c
    exact JE_out X rfl rfl ⟨by rw [q_c]; rfl, by rw [q_c]; decide, by rw [q_s]; exact hR⟩
end
