noncomputable section
theorem not_lt32 {a b : Int32} : ¬ a < b ↔ b ≤ a := by
  rw [Int32.lt_iff_toInt_lt, Int32.le_iff_toInt_le]
  omega
def xNames : List String := ["java/lang/RuntimeException", "java/lang/Exception"]
theorem at_needNumber : ∀ w ∈ vx_at0 "NightValley" 341 xIO xNames, w ∈ GW ∨ w ∈ NWL := by
  have e : Bundle.ownAtoms0 "NightValley" 341 xIO xNames = [Cond.initialized "java/lang/Throwable", Cond.superclass "java/lang/Throwable" "java/lang/Object", Cond.instanceMethod ⟨"java/lang/Throwable", "fillInStackTrace", "()Ljava/lang/Throwable;"⟩, Cond.codeSync ⟨"java/lang/Throwable", "fillInStackTrace", "()Ljava/lang/Throwable;"⟩ prog_24_method_18_code 1 (Option.some (FieldType.object "java/lang/Throwable")), Cond.instanceMethod ⟨"java/lang/Throwable", "fillInStackTrace", "(I)Ljava/lang/Throwable;"⟩, Cond.native ⟨"java/lang/Throwable", "fillInStackTrace", "(I)Ljava/lang/Throwable;"⟩, Cond.instanceMethod ⟨"java/lang/Throwable", "<init>", "()V"⟩, Cond.code ⟨"java/lang/Throwable", "<init>", "()V"⟩ prog_24_method_1_code 1 (Option.none : Option FieldType), Cond.instanceMethod ⟨"java/lang/Object", "<init>", "()V"⟩, Cond.code ⟨"java/lang/Object", "<init>", "()V"⟩ object_method_1_code 1 (Option.none : Option FieldType), Cond.methodLink "java/lang/Throwable" 1 ⟨"java/lang/Object", "<init>", "()V"⟩, Cond.methodLink "java/lang/Throwable" 27 ⟨"java/lang/Throwable", "fillInStackTrace", "()Ljava/lang/Throwable;"⟩, Cond.methodLink "java/lang/Throwable" 202 ⟨"java/lang/Throwable", "fillInStackTrace", "(I)Ljava/lang/Throwable;"⟩, Cond.fieldLink "java/lang/Throwable" 7 "java/lang/Throwable" "cause" "Ljava/lang/Throwable;", Cond.lays "java/lang/Throwable" "java/lang/Throwable" "cause" "Ljava/lang/Throwable;", Cond.fieldLink "java/lang/Throwable" 17 "java/lang/Throwable" "stackTrace" "[Ljava/lang/StackTraceElement;", Cond.lays "java/lang/Throwable" "java/lang/Throwable" "stackTrace" "[Ljava/lang/StackTraceElement;", Cond.fieldLink "java/lang/Throwable" 24 "java/lang/Throwable" "suppressedExceptions" "Ljava/util/List;", Cond.lays "java/lang/Throwable" "java/lang/Throwable" "suppressedExceptions" "Ljava/util/List;", Cond.fieldLink "java/lang/Throwable" 13 "java/lang/Throwable" "UNASSIGNED_STACK" "[Ljava/lang/StackTraceElement;", Cond.laysStatic "java/lang/Throwable" "UNASSIGNED_STACK" "[Ljava/lang/StackTraceElement;", Cond.fieldLink "java/lang/Throwable" 20 "java/lang/Throwable" "SUPPRESSED_SENTINEL" "Ljava/util/List;", Cond.laysStatic "java/lang/Throwable" "SUPPRESSED_SENTINEL" "Ljava/util/List;", Cond.lays "java/lang/Throwable" "java/lang/Throwable" "detailMessage" "Ljava/lang/String;", Cond.instanceMethod ⟨"java/lang/IndexOutOfBoundsException", "<init>", "()V"⟩, Cond.code ⟨"java/lang/IndexOutOfBoundsException", "<init>", "()V"⟩ prog_19_method_1_code 1 (Option.none : Option FieldType), Cond.methodLink "java/lang/IndexOutOfBoundsException" 1 ⟨"java/lang/RuntimeException", "<init>", "()V"⟩, Cond.instanceMethod ⟨"java/lang/RuntimeException", "<init>", "()V"⟩, Cond.declares ⟨"java/lang/RuntimeException", "<init>", "()V"⟩, Cond.instanceMethod ⟨"java/lang/RuntimeException", "<init>", "()V"⟩, Cond.code ⟨"java/lang/RuntimeException", "<init>", "()V"⟩ prog_22_method_1_code 1 (Option.none : Option FieldType), Cond.methodLink "java/lang/RuntimeException" 1 ⟨"java/lang/Exception", "<init>", "()V"⟩, Cond.instanceMethod ⟨"java/lang/Exception", "<init>", "()V"⟩, Cond.declares ⟨"java/lang/Exception", "<init>", "()V"⟩, Cond.instanceMethod ⟨"java/lang/Exception", "<init>", "()V"⟩, Cond.code ⟨"java/lang/Exception", "<init>", "()V"⟩ prog_16_method_1_code 1 (Option.none : Option FieldType), Cond.methodLink "java/lang/Exception" 1 ⟨"java/lang/Throwable", "<init>", "()V"⟩, Cond.instanceMethod ⟨"java/lang/Throwable", "<init>", "()V"⟩, Cond.declares ⟨"java/lang/Throwable", "<init>", "()V"⟩, Cond.methodLink "NightValley" 341 ⟨"java/lang/IndexOutOfBoundsException", "<init>", "()V"⟩, Cond.instantiable "java/lang/IndexOutOfBoundsException" 6, Cond.castable "java/lang/IndexOutOfBoundsException" "java/lang/IndexOutOfBoundsException", Cond.selects "java/lang/IndexOutOfBoundsException" ⟨"java/lang/Throwable", "fillInStackTrace", "(I)Ljava/lang/Throwable;"⟩ ⟨"java/lang/Throwable", "fillInStackTrace", "(I)Ljava/lang/Throwable;"⟩, Cond.selects "java/lang/IndexOutOfBoundsException" ⟨"java/lang/Throwable", "fillInStackTrace", "()Ljava/lang/Throwable;"⟩ ⟨"java/lang/Throwable", "fillInStackTrace", "()Ljava/lang/Throwable;"⟩, Cond.lays "java/lang/IndexOutOfBoundsException" "java/lang/Throwable" "cause" "Ljava/lang/Throwable;", Cond.lays "java/lang/IndexOutOfBoundsException" "java/lang/Throwable" "stackTrace" "[Ljava/lang/StackTraceElement;", Cond.lays "java/lang/IndexOutOfBoundsException" "java/lang/Throwable" "suppressedExceptions" "Ljava/util/List;", Cond.lays "java/lang/IndexOutOfBoundsException" "java/lang/Throwable" "detailMessage" "Ljava/lang/String;", Cond.isRef (.static "java/lang/Throwable" "UNASSIGNED_STACK" "[Ljava/lang/StackTraceElement;"), Cond.isRef (.static "java/lang/Throwable" "SUPPRESSED_SENTINEL" "Ljava/util/List;"), Cond.fieldLink "java/lang/Throwable" 198 "java/lang/Throwable" "backtrace" "Ljava/lang/Object;", Cond.lays "java/lang/Throwable" "java/lang/Throwable" "backtrace" "Ljava/lang/Object;", Cond.lays "java/lang/IndexOutOfBoundsException" "java/lang/Throwable" "backtrace" "Ljava/lang/Object;"] := rfl
  have h : ∀ w ∈ Bundle.ownAtoms0 "NightValley" 341 xIO xNames, vx_no w = true → w ∈ GW ∨ w ∈ NWL := by
    rw [e]
    refine List.forall_mem_cons.mpr ⟨fun _ => Or.inl gw_1_14, ?_⟩
    refine List.forall_mem_cons.mpr ⟨fun _ => Or.inl gw_2_63, ?_⟩
    refine List.forall_mem_cons.mpr ⟨fun _ => Or.inl gw_2_72, ?_⟩
    refine List.forall_mem_cons.mpr ⟨fun _ => Or.inl gw_2_76, ?_⟩
    refine List.forall_mem_cons.mpr ⟨fun _ => Or.inl gw_2_79, ?_⟩
    refine List.forall_mem_cons.mpr ⟨fun _ => Or.inl gw_2_81, ?_⟩
    refine List.forall_mem_cons.mpr ⟨fun _ => Or.inl gw_2_64, ?_⟩
    refine List.forall_mem_cons.mpr ⟨fun _ => Or.inl gw_2_65, ?_⟩
    refine List.forall_mem_cons.mpr ⟨fun _ => Or.inl gw_1_32, ?_⟩
    refine List.forall_mem_cons.mpr ⟨fun _ => Or.inl gw_1_33, ?_⟩
    refine List.forall_mem_cons.mpr ⟨fun _ => Or.inl gw_2_66, ?_⟩
    refine List.forall_mem_cons.mpr ⟨fun _ => Or.inl gw_2_71, ?_⟩
    refine List.forall_mem_cons.mpr ⟨fun _ => Or.inl gw_2_77, ?_⟩
    refine List.forall_mem_cons.mpr ⟨fun _ => Or.inl gw_2_93, ?_⟩
    refine List.forall_mem_cons.mpr ⟨fun _ => Or.inl gw_2_53, ?_⟩
    refine List.forall_mem_cons.mpr ⟨fun _ => Or.inl gw_2_94, ?_⟩
    refine List.forall_mem_cons.mpr ⟨fun _ => Or.inl gw_2_55, ?_⟩
    refine List.forall_mem_cons.mpr ⟨fun _ => Or.inl gw_2_95, ?_⟩
    refine List.forall_mem_cons.mpr ⟨fun _ => Or.inl gw_2_57, ?_⟩
    refine List.forall_mem_cons.mpr ⟨fun _ => Or.inl gw_2_67, ?_⟩
    refine List.forall_mem_cons.mpr ⟨fun h => absurd h (by decide +kernel), ?_⟩
    refine List.forall_mem_cons.mpr ⟨fun _ => Or.inl gw_2_69, ?_⟩
    refine List.forall_mem_cons.mpr ⟨fun h => absurd h (by decide +kernel), ?_⟩
    refine List.forall_mem_cons.mpr ⟨fun _ => Or.inl gw_2_59, ?_⟩
    refine List.forall_mem_cons.mpr ⟨fun _ => Or.inl gw_2_83, ?_⟩
    refine List.forall_mem_cons.mpr ⟨fun _ => Or.inl gw_2_84, ?_⟩
    refine List.forall_mem_cons.mpr ⟨fun _ => Or.inl gw_2_85, ?_⟩
    refine List.forall_mem_cons.mpr ⟨fun _ => Or.inl gw_2_86, ?_⟩
    refine List.forall_mem_cons.mpr ⟨fun _ => Or.inr (List.mem_of_getElem? (i := 4) rfl), ?_⟩
    refine List.forall_mem_cons.mpr ⟨fun _ => Or.inl gw_2_86, ?_⟩
    refine List.forall_mem_cons.mpr ⟨fun _ => Or.inl gw_2_87, ?_⟩
    refine List.forall_mem_cons.mpr ⟨fun _ => Or.inl gw_2_88, ?_⟩
    refine List.forall_mem_cons.mpr ⟨fun _ => Or.inl gw_2_89, ?_⟩
    refine List.forall_mem_cons.mpr ⟨fun _ => Or.inr (List.mem_of_getElem? (i := 6) rfl), ?_⟩
    refine List.forall_mem_cons.mpr ⟨fun _ => Or.inl gw_2_89, ?_⟩
    refine List.forall_mem_cons.mpr ⟨fun _ => Or.inl gw_2_90, ?_⟩
    refine List.forall_mem_cons.mpr ⟨fun _ => Or.inl gw_2_91, ?_⟩
    refine List.forall_mem_cons.mpr ⟨fun _ => Or.inl gw_2_64, ?_⟩
    refine List.forall_mem_cons.mpr ⟨fun _ => Or.inr (List.mem_of_getElem? (i := 8) rfl), ?_⟩
    refine List.forall_mem_cons.mpr ⟨fun _ => Or.inl gw_2_82, ?_⟩
    refine List.forall_mem_cons.mpr ⟨fun _ => Or.inl gw_2_42, ?_⟩
    refine List.forall_mem_cons.mpr ⟨fun _ => Or.inr (List.mem_of_getElem? (i := 3) rfl), ?_⟩
    refine List.forall_mem_cons.mpr ⟨fun _ => Or.inl gw_2_50, ?_⟩
    refine List.forall_mem_cons.mpr ⟨fun _ => Or.inl gw_2_51, ?_⟩
    refine List.forall_mem_cons.mpr ⟨fun _ => Or.inl gw_2_52, ?_⟩
    refine List.forall_mem_cons.mpr ⟨fun _ => Or.inl gw_2_54, ?_⟩
    refine List.forall_mem_cons.mpr ⟨fun _ => Or.inl gw_2_56, ?_⟩
    refine List.forall_mem_cons.mpr ⟨fun _ => Or.inl gw_2_58, ?_⟩
    refine List.forall_mem_cons.mpr ⟨fun h => absurd h (by decide +kernel), ?_⟩
    refine List.forall_mem_cons.mpr ⟨fun h => absurd h (by decide +kernel), ?_⟩
    refine List.forall_mem_cons.mpr ⟨fun _ => Or.inl gw_2_62, ?_⟩
    refine List.forall_mem_cons.mpr ⟨fun _ => Or.inl gw_2_61, ?_⟩
    refine List.forall_mem_cons.mpr ⟨fun _ => Or.inl gw_2_60, ?_⟩
    exact List.forall_mem_nil _
  exact fun w hw => h w (List.mem_filter.mp hw).1 (List.mem_filter.mp hw).2
theorem at_needRange : ∀ w ∈ vx_at0 "NightValley" 344 xIA xNames, w ∈ GW ∨ w ∈ NWL := by
  have e : Bundle.ownAtoms0 "NightValley" 344 xIA xNames = [Cond.initialized "java/lang/Throwable", Cond.superclass "java/lang/Throwable" "java/lang/Object", Cond.instanceMethod ⟨"java/lang/Throwable", "fillInStackTrace", "()Ljava/lang/Throwable;"⟩, Cond.codeSync ⟨"java/lang/Throwable", "fillInStackTrace", "()Ljava/lang/Throwable;"⟩ prog_24_method_18_code 1 (Option.some (FieldType.object "java/lang/Throwable")), Cond.instanceMethod ⟨"java/lang/Throwable", "fillInStackTrace", "(I)Ljava/lang/Throwable;"⟩, Cond.native ⟨"java/lang/Throwable", "fillInStackTrace", "(I)Ljava/lang/Throwable;"⟩, Cond.instanceMethod ⟨"java/lang/Throwable", "<init>", "()V"⟩, Cond.code ⟨"java/lang/Throwable", "<init>", "()V"⟩ prog_24_method_1_code 1 (Option.none : Option FieldType), Cond.instanceMethod ⟨"java/lang/Object", "<init>", "()V"⟩, Cond.code ⟨"java/lang/Object", "<init>", "()V"⟩ object_method_1_code 1 (Option.none : Option FieldType), Cond.methodLink "java/lang/Throwable" 1 ⟨"java/lang/Object", "<init>", "()V"⟩, Cond.methodLink "java/lang/Throwable" 27 ⟨"java/lang/Throwable", "fillInStackTrace", "()Ljava/lang/Throwable;"⟩, Cond.methodLink "java/lang/Throwable" 202 ⟨"java/lang/Throwable", "fillInStackTrace", "(I)Ljava/lang/Throwable;"⟩, Cond.fieldLink "java/lang/Throwable" 7 "java/lang/Throwable" "cause" "Ljava/lang/Throwable;", Cond.lays "java/lang/Throwable" "java/lang/Throwable" "cause" "Ljava/lang/Throwable;", Cond.fieldLink "java/lang/Throwable" 17 "java/lang/Throwable" "stackTrace" "[Ljava/lang/StackTraceElement;", Cond.lays "java/lang/Throwable" "java/lang/Throwable" "stackTrace" "[Ljava/lang/StackTraceElement;", Cond.fieldLink "java/lang/Throwable" 24 "java/lang/Throwable" "suppressedExceptions" "Ljava/util/List;", Cond.lays "java/lang/Throwable" "java/lang/Throwable" "suppressedExceptions" "Ljava/util/List;", Cond.fieldLink "java/lang/Throwable" 13 "java/lang/Throwable" "UNASSIGNED_STACK" "[Ljava/lang/StackTraceElement;", Cond.laysStatic "java/lang/Throwable" "UNASSIGNED_STACK" "[Ljava/lang/StackTraceElement;", Cond.fieldLink "java/lang/Throwable" 20 "java/lang/Throwable" "SUPPRESSED_SENTINEL" "Ljava/util/List;", Cond.laysStatic "java/lang/Throwable" "SUPPRESSED_SENTINEL" "Ljava/util/List;", Cond.lays "java/lang/Throwable" "java/lang/Throwable" "detailMessage" "Ljava/lang/String;", Cond.instanceMethod ⟨"java/lang/IllegalArgumentException", "<init>", "()V"⟩, Cond.code ⟨"java/lang/IllegalArgumentException", "<init>", "()V"⟩ prog_17_method_1_code 1 (Option.none : Option FieldType), Cond.methodLink "java/lang/IllegalArgumentException" 1 ⟨"java/lang/RuntimeException", "<init>", "()V"⟩, Cond.instanceMethod ⟨"java/lang/RuntimeException", "<init>", "()V"⟩, Cond.declares ⟨"java/lang/RuntimeException", "<init>", "()V"⟩, Cond.instanceMethod ⟨"java/lang/RuntimeException", "<init>", "()V"⟩, Cond.code ⟨"java/lang/RuntimeException", "<init>", "()V"⟩ prog_22_method_1_code 1 (Option.none : Option FieldType), Cond.methodLink "java/lang/RuntimeException" 1 ⟨"java/lang/Exception", "<init>", "()V"⟩, Cond.instanceMethod ⟨"java/lang/Exception", "<init>", "()V"⟩, Cond.declares ⟨"java/lang/Exception", "<init>", "()V"⟩, Cond.instanceMethod ⟨"java/lang/Exception", "<init>", "()V"⟩, Cond.code ⟨"java/lang/Exception", "<init>", "()V"⟩ prog_16_method_1_code 1 (Option.none : Option FieldType), Cond.methodLink "java/lang/Exception" 1 ⟨"java/lang/Throwable", "<init>", "()V"⟩, Cond.instanceMethod ⟨"java/lang/Throwable", "<init>", "()V"⟩, Cond.declares ⟨"java/lang/Throwable", "<init>", "()V"⟩, Cond.methodLink "NightValley" 344 ⟨"java/lang/IllegalArgumentException", "<init>", "()V"⟩, Cond.instantiable "java/lang/IllegalArgumentException" 6, Cond.castable "java/lang/IllegalArgumentException" "java/lang/IllegalArgumentException", Cond.selects "java/lang/IllegalArgumentException" ⟨"java/lang/Throwable", "fillInStackTrace", "(I)Ljava/lang/Throwable;"⟩ ⟨"java/lang/Throwable", "fillInStackTrace", "(I)Ljava/lang/Throwable;"⟩, Cond.selects "java/lang/IllegalArgumentException" ⟨"java/lang/Throwable", "fillInStackTrace", "()Ljava/lang/Throwable;"⟩ ⟨"java/lang/Throwable", "fillInStackTrace", "()Ljava/lang/Throwable;"⟩, Cond.lays "java/lang/IllegalArgumentException" "java/lang/Throwable" "cause" "Ljava/lang/Throwable;", Cond.lays "java/lang/IllegalArgumentException" "java/lang/Throwable" "stackTrace" "[Ljava/lang/StackTraceElement;", Cond.lays "java/lang/IllegalArgumentException" "java/lang/Throwable" "suppressedExceptions" "Ljava/util/List;", Cond.lays "java/lang/IllegalArgumentException" "java/lang/Throwable" "detailMessage" "Ljava/lang/String;", Cond.isRef (.static "java/lang/Throwable" "UNASSIGNED_STACK" "[Ljava/lang/StackTraceElement;"), Cond.isRef (.static "java/lang/Throwable" "SUPPRESSED_SENTINEL" "Ljava/util/List;"), Cond.fieldLink "java/lang/Throwable" 198 "java/lang/Throwable" "backtrace" "Ljava/lang/Object;", Cond.lays "java/lang/Throwable" "java/lang/Throwable" "backtrace" "Ljava/lang/Object;", Cond.lays "java/lang/IllegalArgumentException" "java/lang/Throwable" "backtrace" "Ljava/lang/Object;"] := rfl
  have h : ∀ w ∈ Bundle.ownAtoms0 "NightValley" 344 xIA xNames, vx_no w = true → w ∈ GW ∨ w ∈ NWL := by
    rw [e]
    refine List.forall_mem_cons.mpr ⟨fun _ => Or.inl gw_1_14, ?_⟩
    refine List.forall_mem_cons.mpr ⟨fun _ => Or.inl gw_2_63, ?_⟩
    refine List.forall_mem_cons.mpr ⟨fun _ => Or.inl gw_2_72, ?_⟩
    refine List.forall_mem_cons.mpr ⟨fun _ => Or.inl gw_2_76, ?_⟩
    refine List.forall_mem_cons.mpr ⟨fun _ => Or.inl gw_2_79, ?_⟩
    refine List.forall_mem_cons.mpr ⟨fun _ => Or.inl gw_2_81, ?_⟩
    refine List.forall_mem_cons.mpr ⟨fun _ => Or.inl gw_2_64, ?_⟩
    refine List.forall_mem_cons.mpr ⟨fun _ => Or.inl gw_2_65, ?_⟩
    refine List.forall_mem_cons.mpr ⟨fun _ => Or.inl gw_1_32, ?_⟩
    refine List.forall_mem_cons.mpr ⟨fun _ => Or.inl gw_1_33, ?_⟩
    refine List.forall_mem_cons.mpr ⟨fun _ => Or.inl gw_2_66, ?_⟩
    refine List.forall_mem_cons.mpr ⟨fun _ => Or.inl gw_2_71, ?_⟩
    refine List.forall_mem_cons.mpr ⟨fun _ => Or.inl gw_2_77, ?_⟩
    refine List.forall_mem_cons.mpr ⟨fun _ => Or.inl gw_2_93, ?_⟩
    refine List.forall_mem_cons.mpr ⟨fun _ => Or.inl gw_2_53, ?_⟩
    refine List.forall_mem_cons.mpr ⟨fun _ => Or.inl gw_2_94, ?_⟩
    refine List.forall_mem_cons.mpr ⟨fun _ => Or.inl gw_2_55, ?_⟩
    refine List.forall_mem_cons.mpr ⟨fun _ => Or.inl gw_2_95, ?_⟩
    refine List.forall_mem_cons.mpr ⟨fun _ => Or.inl gw_2_57, ?_⟩
    refine List.forall_mem_cons.mpr ⟨fun _ => Or.inl gw_2_67, ?_⟩
    refine List.forall_mem_cons.mpr ⟨fun h => absurd h (by decide +kernel), ?_⟩
    refine List.forall_mem_cons.mpr ⟨fun _ => Or.inl gw_2_69, ?_⟩
    refine List.forall_mem_cons.mpr ⟨fun h => absurd h (by decide +kernel), ?_⟩
    refine List.forall_mem_cons.mpr ⟨fun _ => Or.inl gw_2_59, ?_⟩
    refine List.forall_mem_cons.mpr ⟨fun _ => Or.inl gw_2_211, ?_⟩
    refine List.forall_mem_cons.mpr ⟨fun _ => Or.inl gw_2_212, ?_⟩
    refine List.forall_mem_cons.mpr ⟨fun _ => Or.inl gw_2_213, ?_⟩
    refine List.forall_mem_cons.mpr ⟨fun _ => Or.inl gw_2_86, ?_⟩
    refine List.forall_mem_cons.mpr ⟨fun _ => Or.inr (List.mem_of_getElem? (i := 4) rfl), ?_⟩
    refine List.forall_mem_cons.mpr ⟨fun _ => Or.inl gw_2_86, ?_⟩
    refine List.forall_mem_cons.mpr ⟨fun _ => Or.inl gw_2_87, ?_⟩
    refine List.forall_mem_cons.mpr ⟨fun _ => Or.inl gw_2_88, ?_⟩
    refine List.forall_mem_cons.mpr ⟨fun _ => Or.inl gw_2_89, ?_⟩
    refine List.forall_mem_cons.mpr ⟨fun _ => Or.inr (List.mem_of_getElem? (i := 6) rfl), ?_⟩
    refine List.forall_mem_cons.mpr ⟨fun _ => Or.inl gw_2_89, ?_⟩
    refine List.forall_mem_cons.mpr ⟨fun _ => Or.inl gw_2_90, ?_⟩
    refine List.forall_mem_cons.mpr ⟨fun _ => Or.inl gw_2_91, ?_⟩
    refine List.forall_mem_cons.mpr ⟨fun _ => Or.inl gw_2_64, ?_⟩
    refine List.forall_mem_cons.mpr ⟨fun _ => Or.inr (List.mem_of_getElem? (i := 8) rfl), ?_⟩
    refine List.forall_mem_cons.mpr ⟨fun _ => Or.inl gw_2_210, ?_⟩
    refine List.forall_mem_cons.mpr ⟨fun _ => Or.inl gw_2_202, ?_⟩
    refine List.forall_mem_cons.mpr ⟨fun _ => Or.inr (List.mem_of_getElem? (i := 10) rfl), ?_⟩
    refine List.forall_mem_cons.mpr ⟨fun _ => Or.inl gw_2_204, ?_⟩
    refine List.forall_mem_cons.mpr ⟨fun _ => Or.inl gw_2_74, ?_⟩
    refine List.forall_mem_cons.mpr ⟨fun _ => Or.inl gw_2_205, ?_⟩
    refine List.forall_mem_cons.mpr ⟨fun _ => Or.inl gw_2_206, ?_⟩
    refine List.forall_mem_cons.mpr ⟨fun _ => Or.inl gw_2_207, ?_⟩
    refine List.forall_mem_cons.mpr ⟨fun _ => Or.inl gw_2_208, ?_⟩
    refine List.forall_mem_cons.mpr ⟨fun h => absurd h (by decide +kernel), ?_⟩
    refine List.forall_mem_cons.mpr ⟨fun h => absurd h (by decide +kernel), ?_⟩
    refine List.forall_mem_cons.mpr ⟨fun _ => Or.inl gw_2_62, ?_⟩
    refine List.forall_mem_cons.mpr ⟨fun _ => Or.inl gw_2_61, ?_⟩
    refine List.forall_mem_cons.mpr ⟨fun _ => Or.inl gw_2_209, ?_⟩
    exact List.forall_mem_nil _
  exact fun w hw => h w (List.mem_filter.mp hw).1 (List.mem_filter.mp hw).2
theorem at_needState : ∀ w ∈ vx_at0 "NightValley" 347 xIS xNames, w ∈ GW ∨ w ∈ NWL := by
  have e : Bundle.ownAtoms0 "NightValley" 347 xIS xNames = [Cond.initialized "java/lang/Throwable", Cond.superclass "java/lang/Throwable" "java/lang/Object", Cond.instanceMethod ⟨"java/lang/Throwable", "fillInStackTrace", "()Ljava/lang/Throwable;"⟩, Cond.codeSync ⟨"java/lang/Throwable", "fillInStackTrace", "()Ljava/lang/Throwable;"⟩ prog_24_method_18_code 1 (Option.some (FieldType.object "java/lang/Throwable")), Cond.instanceMethod ⟨"java/lang/Throwable", "fillInStackTrace", "(I)Ljava/lang/Throwable;"⟩, Cond.native ⟨"java/lang/Throwable", "fillInStackTrace", "(I)Ljava/lang/Throwable;"⟩, Cond.instanceMethod ⟨"java/lang/Throwable", "<init>", "()V"⟩, Cond.code ⟨"java/lang/Throwable", "<init>", "()V"⟩ prog_24_method_1_code 1 (Option.none : Option FieldType), Cond.instanceMethod ⟨"java/lang/Object", "<init>", "()V"⟩, Cond.code ⟨"java/lang/Object", "<init>", "()V"⟩ object_method_1_code 1 (Option.none : Option FieldType), Cond.methodLink "java/lang/Throwable" 1 ⟨"java/lang/Object", "<init>", "()V"⟩, Cond.methodLink "java/lang/Throwable" 27 ⟨"java/lang/Throwable", "fillInStackTrace", "()Ljava/lang/Throwable;"⟩, Cond.methodLink "java/lang/Throwable" 202 ⟨"java/lang/Throwable", "fillInStackTrace", "(I)Ljava/lang/Throwable;"⟩, Cond.fieldLink "java/lang/Throwable" 7 "java/lang/Throwable" "cause" "Ljava/lang/Throwable;", Cond.lays "java/lang/Throwable" "java/lang/Throwable" "cause" "Ljava/lang/Throwable;", Cond.fieldLink "java/lang/Throwable" 17 "java/lang/Throwable" "stackTrace" "[Ljava/lang/StackTraceElement;", Cond.lays "java/lang/Throwable" "java/lang/Throwable" "stackTrace" "[Ljava/lang/StackTraceElement;", Cond.fieldLink "java/lang/Throwable" 24 "java/lang/Throwable" "suppressedExceptions" "Ljava/util/List;", Cond.lays "java/lang/Throwable" "java/lang/Throwable" "suppressedExceptions" "Ljava/util/List;", Cond.fieldLink "java/lang/Throwable" 13 "java/lang/Throwable" "UNASSIGNED_STACK" "[Ljava/lang/StackTraceElement;", Cond.laysStatic "java/lang/Throwable" "UNASSIGNED_STACK" "[Ljava/lang/StackTraceElement;", Cond.fieldLink "java/lang/Throwable" 20 "java/lang/Throwable" "SUPPRESSED_SENTINEL" "Ljava/util/List;", Cond.laysStatic "java/lang/Throwable" "SUPPRESSED_SENTINEL" "Ljava/util/List;", Cond.lays "java/lang/Throwable" "java/lang/Throwable" "detailMessage" "Ljava/lang/String;", Cond.instanceMethod ⟨"java/lang/IllegalStateException", "<init>", "()V"⟩, Cond.code ⟨"java/lang/IllegalStateException", "<init>", "()V"⟩ prog_18_method_1_code 1 (Option.none : Option FieldType), Cond.methodLink "java/lang/IllegalStateException" 1 ⟨"java/lang/RuntimeException", "<init>", "()V"⟩, Cond.instanceMethod ⟨"java/lang/RuntimeException", "<init>", "()V"⟩, Cond.declares ⟨"java/lang/RuntimeException", "<init>", "()V"⟩, Cond.instanceMethod ⟨"java/lang/RuntimeException", "<init>", "()V"⟩, Cond.code ⟨"java/lang/RuntimeException", "<init>", "()V"⟩ prog_22_method_1_code 1 (Option.none : Option FieldType), Cond.methodLink "java/lang/RuntimeException" 1 ⟨"java/lang/Exception", "<init>", "()V"⟩, Cond.instanceMethod ⟨"java/lang/Exception", "<init>", "()V"⟩, Cond.declares ⟨"java/lang/Exception", "<init>", "()V"⟩, Cond.instanceMethod ⟨"java/lang/Exception", "<init>", "()V"⟩, Cond.code ⟨"java/lang/Exception", "<init>", "()V"⟩ prog_16_method_1_code 1 (Option.none : Option FieldType), Cond.methodLink "java/lang/Exception" 1 ⟨"java/lang/Throwable", "<init>", "()V"⟩, Cond.instanceMethod ⟨"java/lang/Throwable", "<init>", "()V"⟩, Cond.declares ⟨"java/lang/Throwable", "<init>", "()V"⟩, Cond.methodLink "NightValley" 347 ⟨"java/lang/IllegalStateException", "<init>", "()V"⟩, Cond.instantiable "java/lang/IllegalStateException" 6, Cond.castable "java/lang/IllegalStateException" "java/lang/IllegalStateException", Cond.selects "java/lang/IllegalStateException" ⟨"java/lang/Throwable", "fillInStackTrace", "(I)Ljava/lang/Throwable;"⟩ ⟨"java/lang/Throwable", "fillInStackTrace", "(I)Ljava/lang/Throwable;"⟩, Cond.selects "java/lang/IllegalStateException" ⟨"java/lang/Throwable", "fillInStackTrace", "()Ljava/lang/Throwable;"⟩ ⟨"java/lang/Throwable", "fillInStackTrace", "()Ljava/lang/Throwable;"⟩, Cond.lays "java/lang/IllegalStateException" "java/lang/Throwable" "cause" "Ljava/lang/Throwable;", Cond.lays "java/lang/IllegalStateException" "java/lang/Throwable" "stackTrace" "[Ljava/lang/StackTraceElement;", Cond.lays "java/lang/IllegalStateException" "java/lang/Throwable" "suppressedExceptions" "Ljava/util/List;", Cond.lays "java/lang/IllegalStateException" "java/lang/Throwable" "detailMessage" "Ljava/lang/String;", Cond.isRef (.static "java/lang/Throwable" "UNASSIGNED_STACK" "[Ljava/lang/StackTraceElement;"), Cond.isRef (.static "java/lang/Throwable" "SUPPRESSED_SENTINEL" "Ljava/util/List;"), Cond.fieldLink "java/lang/Throwable" 198 "java/lang/Throwable" "backtrace" "Ljava/lang/Object;", Cond.lays "java/lang/Throwable" "java/lang/Throwable" "backtrace" "Ljava/lang/Object;", Cond.lays "java/lang/IllegalStateException" "java/lang/Throwable" "backtrace" "Ljava/lang/Object;"] := rfl
  have h : ∀ w ∈ Bundle.ownAtoms0 "NightValley" 347 xIS xNames, vx_no w = true → w ∈ GW ∨ w ∈ NWL := by
    rw [e]
    refine List.forall_mem_cons.mpr ⟨fun _ => Or.inl gw_1_14, ?_⟩
    refine List.forall_mem_cons.mpr ⟨fun _ => Or.inl gw_2_63, ?_⟩
    refine List.forall_mem_cons.mpr ⟨fun _ => Or.inl gw_2_72, ?_⟩
    refine List.forall_mem_cons.mpr ⟨fun _ => Or.inl gw_2_76, ?_⟩
    refine List.forall_mem_cons.mpr ⟨fun _ => Or.inl gw_2_79, ?_⟩
    refine List.forall_mem_cons.mpr ⟨fun _ => Or.inl gw_2_81, ?_⟩
    refine List.forall_mem_cons.mpr ⟨fun _ => Or.inl gw_2_64, ?_⟩
    refine List.forall_mem_cons.mpr ⟨fun _ => Or.inl gw_2_65, ?_⟩
    refine List.forall_mem_cons.mpr ⟨fun _ => Or.inl gw_1_32, ?_⟩
    refine List.forall_mem_cons.mpr ⟨fun _ => Or.inl gw_1_33, ?_⟩
    refine List.forall_mem_cons.mpr ⟨fun _ => Or.inl gw_2_66, ?_⟩
    refine List.forall_mem_cons.mpr ⟨fun _ => Or.inl gw_2_71, ?_⟩
    refine List.forall_mem_cons.mpr ⟨fun _ => Or.inl gw_2_77, ?_⟩
    refine List.forall_mem_cons.mpr ⟨fun _ => Or.inl gw_2_93, ?_⟩
    refine List.forall_mem_cons.mpr ⟨fun _ => Or.inl gw_2_53, ?_⟩
    refine List.forall_mem_cons.mpr ⟨fun _ => Or.inl gw_2_94, ?_⟩
    refine List.forall_mem_cons.mpr ⟨fun _ => Or.inl gw_2_55, ?_⟩
    refine List.forall_mem_cons.mpr ⟨fun _ => Or.inl gw_2_95, ?_⟩
    refine List.forall_mem_cons.mpr ⟨fun _ => Or.inl gw_2_57, ?_⟩
    refine List.forall_mem_cons.mpr ⟨fun _ => Or.inl gw_2_67, ?_⟩
    refine List.forall_mem_cons.mpr ⟨fun h => absurd h (by decide +kernel), ?_⟩
    refine List.forall_mem_cons.mpr ⟨fun _ => Or.inl gw_2_69, ?_⟩
    refine List.forall_mem_cons.mpr ⟨fun h => absurd h (by decide +kernel), ?_⟩
    refine List.forall_mem_cons.mpr ⟨fun _ => Or.inl gw_2_59, ?_⟩
    refine List.forall_mem_cons.mpr ⟨fun _ => Or.inl gw_3_5, ?_⟩
    refine List.forall_mem_cons.mpr ⟨fun _ => Or.inl gw_3_6, ?_⟩
    refine List.forall_mem_cons.mpr ⟨fun _ => Or.inl gw_3_7, ?_⟩
    refine List.forall_mem_cons.mpr ⟨fun _ => Or.inl gw_2_86, ?_⟩
    refine List.forall_mem_cons.mpr ⟨fun _ => Or.inr (List.mem_of_getElem? (i := 4) rfl), ?_⟩
    refine List.forall_mem_cons.mpr ⟨fun _ => Or.inl gw_2_86, ?_⟩
    refine List.forall_mem_cons.mpr ⟨fun _ => Or.inl gw_2_87, ?_⟩
    refine List.forall_mem_cons.mpr ⟨fun _ => Or.inl gw_2_88, ?_⟩
    refine List.forall_mem_cons.mpr ⟨fun _ => Or.inl gw_2_89, ?_⟩
    refine List.forall_mem_cons.mpr ⟨fun _ => Or.inr (List.mem_of_getElem? (i := 6) rfl), ?_⟩
    refine List.forall_mem_cons.mpr ⟨fun _ => Or.inl gw_2_89, ?_⟩
    refine List.forall_mem_cons.mpr ⟨fun _ => Or.inl gw_2_90, ?_⟩
    refine List.forall_mem_cons.mpr ⟨fun _ => Or.inl gw_2_91, ?_⟩
    refine List.forall_mem_cons.mpr ⟨fun _ => Or.inl gw_2_64, ?_⟩
    refine List.forall_mem_cons.mpr ⟨fun _ => Or.inr (List.mem_of_getElem? (i := 8) rfl), ?_⟩
    refine List.forall_mem_cons.mpr ⟨fun _ => Or.inl gw_3_4, ?_⟩
    refine List.forall_mem_cons.mpr ⟨fun _ => Or.inl gw_2_236, ?_⟩
    refine List.forall_mem_cons.mpr ⟨fun _ => Or.inr (List.mem_of_getElem? (i := 11) rfl), ?_⟩
    refine List.forall_mem_cons.mpr ⟨fun _ => Or.inl gw_2_238, ?_⟩
    refine List.forall_mem_cons.mpr ⟨fun _ => Or.inl gw_2_75, ?_⟩
    refine List.forall_mem_cons.mpr ⟨fun _ => Or.inl gw_2_239, ?_⟩
    refine List.forall_mem_cons.mpr ⟨fun _ => Or.inl gw_3_0, ?_⟩
    refine List.forall_mem_cons.mpr ⟨fun _ => Or.inl gw_3_1, ?_⟩
    refine List.forall_mem_cons.mpr ⟨fun _ => Or.inl gw_3_2, ?_⟩
    refine List.forall_mem_cons.mpr ⟨fun h => absurd h (by decide +kernel), ?_⟩
    refine List.forall_mem_cons.mpr ⟨fun h => absurd h (by decide +kernel), ?_⟩
    refine List.forall_mem_cons.mpr ⟨fun _ => Or.inl gw_2_62, ?_⟩
    refine List.forall_mem_cons.mpr ⟨fun _ => Or.inl gw_2_61, ?_⟩
    refine List.forall_mem_cons.mpr ⟨fun _ => Or.inl gw_3_3, ?_⟩
    exact List.forall_mem_nil _
  exact fun w hw => h w (List.mem_filter.mp hw).1 (List.mem_filter.mp hw).2
theorem cw_X10_needNumber : Cond.static yX10_needNumber ∈ GW ∧ Cond.initialized yX10_needNumber.cls ∈ GW ∧ Cond.code yX10_needNumber cX10_needNumber 2 none ∈ GW ∧ (yX10_needNumber.cls ≠ "java/lang/invoke/MethodHandle" ∧ yX10_needNumber.cls ≠ "java/lang/invoke/VarHandle") ∧ (parseMethodDescriptor yX10_needNumber.desc).map (fun d => d.parameters.length) = some 2 := ⟨gw_2_39, gw_1_1, gw_2_40, ⟨by decide, by decide⟩, by decide +kernel⟩
theorem cw_X10_needRange : Cond.static yX10_needRange ∈ GW ∧ Cond.initialized yX10_needRange.cls ∈ GW ∧ Cond.code yX10_needRange cX10_needRange 3 none ∈ GW ∧ (yX10_needRange.cls ≠ "java/lang/invoke/MethodHandle" ∧ yX10_needRange.cls ≠ "java/lang/invoke/VarHandle") ∧ (parseMethodDescriptor yX10_needRange.desc).map (fun d => d.parameters.length) = some 3 := ⟨gw_2_199, gw_1_1, gw_2_200, ⟨by decide, by decide⟩, by decide +kernel⟩
theorem cw_X10_needState : Cond.static yX10_needState ∈ GW ∧ Cond.initialized yX10_needState.cls ∈ GW ∧ Cond.code yX10_needState cX10_needState 1 none ∈ GW ∧ (yX10_needState.cls ≠ "java/lang/invoke/MethodHandle" ∧ yX10_needState.cls ≠ "java/lang/invoke/VarHandle") ∧ (parseMethodDescriptor yX10_needState.desc).map (fun d => d.parameters.length) = some 1 := ⟨gw_2_233, gw_1_1, gw_2_234, ⟨by decide, by decide⟩, by decide +kernel⟩
theorem cw_X10_placeOf : Cond.instanceMethod yX10_placeOf ∈ GW ∧ Cond.selects RX10 yX10_placeOf yX10_placeOf ∈ GW ∧ Cond.initialized RX10 ∈ GW ∧ Cond.code yX10_placeOf cX10_placeOf 2 (some (.object "NightValley$Place")) ∈ GW ∧ yX10_placeOf.cls = RX10 ∧ (yX10_placeOf.cls ≠ "java/lang/invoke/MethodHandle" ∧ yX10_placeOf.cls ≠ "java/lang/invoke/VarHandle") ∧ (parseMethodDescriptor yX10_placeOf.desc).map (fun d => d.parameters.length) = some 1 := ⟨gw_2_32, gws_3, gw_1_1, gw_2_33, rfl, ⟨by decide, by decide⟩, by decide +kernel⟩
theorem cw_X10_zoneOf : Cond.instanceMethod yX10_zoneOf ∈ GW ∧ Cond.selects RX10 yX10_zoneOf yX10_zoneOf ∈ GW ∧ Cond.initialized RX10 ∈ GW ∧ Cond.code yX10_zoneOf cX10_zoneOf 2 (some (.object "NightValley$Zone")) ∈ GW ∧ yX10_zoneOf.cls = RX10 ∧ (yX10_zoneOf.cls ≠ "java/lang/invoke/MethodHandle" ∧ yX10_zoneOf.cls ≠ "java/lang/invoke/VarHandle") ∧ (parseMethodDescriptor yX10_zoneOf.desc).map (fun d => d.parameters.length) = some 1 := ⟨gw_2_189, gws_10, gw_1_1, gw_2_190, rfl, ⟨by decide, by decide⟩, by decide +kernel⟩
theorem cw_X10_villageOf : Cond.instanceMethod yX10_villageOf ∈ GW ∧ Cond.selects RX10 yX10_villageOf yX10_villageOf ∈ GW ∧ Cond.initialized RX10 ∈ GW ∧ Cond.code yX10_villageOf cX10_villageOf 2 (some (.object "NightValley$Village")) ∈ GW ∧ yX10_villageOf.cls = RX10 ∧ (yX10_villageOf.cls ≠ "java/lang/invoke/MethodHandle" ∧ yX10_villageOf.cls ≠ "java/lang/invoke/VarHandle") ∧ (parseMethodDescriptor yX10_villageOf.desc).map (fun d => d.parameters.length) = some 1 := ⟨gw_3_49, gws_12, gw_1_1, gw_3_50, rfl, ⟨by decide, by decide⟩, by decide +kernel⟩
theorem cw_X10_lampOf : Cond.instanceMethod yX10_lampOf ∈ GW ∧ Cond.selects RX10 yX10_lampOf yX10_lampOf ∈ GW ∧ Cond.initialized RX10 ∈ GW ∧ Cond.code yX10_lampOf cX10_lampOf 2 (some (.object "NightValley$Lamp")) ∈ GW ∧ yX10_lampOf.cls = RX10 ∧ (yX10_lampOf.cls ≠ "java/lang/invoke/MethodHandle" ∧ yX10_lampOf.cls ≠ "java/lang/invoke/VarHandle") ∧ (parseMethodDescriptor yX10_lampOf.desc).map (fun d => d.parameters.length) = some 1 := ⟨gw_3_110, gws_13, gw_1_1, gw_3_111, rfl, ⟨by decide, by decide⟩, by decide +kernel⟩
theorem cw_X10_meterOf : Cond.instanceMethod yX10_meterOf ∈ GW ∧ Cond.selects RX10 yX10_meterOf yX10_meterOf ∈ GW ∧ Cond.initialized RX10 ∈ GW ∧ Cond.code yX10_meterOf cX10_meterOf 2 (some (.object "NightValley$Meter")) ∈ GW ∧ yX10_meterOf.cls = RX10 ∧ (yX10_meterOf.cls ≠ "java/lang/invoke/MethodHandle" ∧ yX10_meterOf.cls ≠ "java/lang/invoke/VarHandle") ∧ (parseMethodDescriptor yX10_meterOf.desc).map (fun d => d.parameters.length) = some 1 := ⟨gw_3_188, gws_14, gw_1_1, gw_3_189, rfl, ⟨by decide, by decide⟩, by decide +kernel⟩
theorem c_needNumber {l : Launch} {D : va_G} {ca : Nat → Nat} {h : fH} (p1 p2 : Int32) : FM l D ca yX10_needNumber (.code yX10_needNumber cX10_needNumber 2 none) { frames := 6, cells := 1, slots := 6, locals := 81 } [.int p1, .int p2] h (fun v h' => v = none ∧ h' = h ∧ ¬ p1 < 0 ∧ p1 < p2) (fun E h' => E = xIO ∧ h' = h ∧ ¬ (¬ p1 < 0 ∧ p1 < p2)) := by
  refine FM.of [some (.int p1), some (.int p2)] (by decide) (Nat.le_of_ble_eq_true rfl) rfl ?_
  rintro K X rfl rfl rfl
  have T : ¬ (¬ p1 < 0 ∧ p1 < p2) → J K h [some (.int p1), some (.int p2)] [] 9 0 0 := fun c =>
    J_throw0 X (names := xNames) rfl (by decide) (by decide) gw_2_41 (gw_1_17) at_needNumber dX10_needNumber_9 dX10_needNumber_12 dX10_needNumber_13 dX10_needNumber_16 (by decide) (by decide) (by decide) (by decide) ⟨rfl, rfl, c⟩
  refine J_iload_0 X dX10_needNumber_0 ?_
  refine J_if_lt (tgt := 9) X dX10_needNumber_1 (by decide) (fun c1 => T (fun z => z.1 c1)) (fun c1 => ?_)
  refine J_iload_0 X dX10_needNumber_4 ?_
  refine J_iload_1 X dX10_needNumber_5 ?_
  refine J_icmp_lt (tgt := 17) X dX10_needNumber_6 (by decide) (fun c2 => ?_) (fun c2 => T (fun z => c2 z.2))
  exact J_vret X rfl rfl ⟨rfl, rfl, c1, c2⟩ dX10_needNumber_17
theorem c_needRange {l : Launch} {D : va_G} {ca : Nat → Nat} {h : fH} (p1 p2 p3 : Int32) : FM l D ca yX10_needRange (.code yX10_needRange cX10_needRange 3 none) { frames := 6, cells := 1, slots := 6, locals := 81 } [.int p1, .int p2, .int p3] h (fun v h' => v = none ∧ h' = h ∧ ¬ M_isIn p1 p2 p3 = 0) (fun E h' => E = xIA ∧ h' = h ∧ M_isIn p1 p2 p3 = 0) := by
  refine FM.of [some (.int p1), some (.int p2), some (.int p3)] (by decide) (Nat.le_of_ble_eq_true rfl) rfl ?_
  rintro K X rfl rfl rfl
  have T : M_isIn p1 p2 p3 = 0 → J K h [some (.int p1), some (.int p2), some (.int p3)] [] 10 0 0 := fun c =>
    J_throw0 X (names := xNames) rfl (by decide) (by decide) gw_2_201 (gw_1_20) at_needRange dX10_needRange_10 dX10_needRange_13 dX10_needRange_14 dX10_needRange_17 (by decide) (by decide) (by decide) (by decide) ⟨rfl, rfl, c⟩
  refine J_iload_0 X dX10_needRange_0 ?_
  refine J_iload_1 X dX10_needRange_1 ?_
  refine J_icmp_lt (tgt := 10) X dX10_needRange_2 (by decide) (fun c1 => T (if_pos c1)) (fun c1 => ?_)
  refine J_iload_0 X dX10_needRange_5 ?_
  refine J_iload_2 X dX10_needRange_6 ?_
  refine J_icmp_le (tgt := 18) X dX10_needRange_7 (by decide) (fun c2 => ?_) (fun c2 => T ?_)
  · refine J_vret X rfl rfl ⟨rfl, rfl, fun z => ?_⟩ dX10_needRange_18
    unfold M_isIn M_isIn_j2 at z
    rw [if_neg c1, if_neg (not_lt32.mpr c2)] at z
    exact i10 z
  · unfold M_isIn M_isIn_j2
    rw [if_neg c1, if_pos (Classical.byContradiction fun q => c2 (not_lt32.mp q))]
theorem c_needState {l : Launch} {D : va_G} {ca : Nat → Nat} {h : fH} (p1 : Int32) : FM l D ca yX10_needState (.code yX10_needState cX10_needState 1 none) { frames := 6, cells := 1, slots := 6, locals := 81 } [.int p1] h (fun v h' => v = none ∧ h' = h ∧ ¬ p1 = 0) (fun E h' => E = xIS ∧ h' = h ∧ p1 = 0) := by
  refine FM.of [some (.int p1)] (by decide) (Nat.le_of_ble_eq_true rfl) rfl ?_
  rintro K X rfl rfl rfl
  refine J_iload_0 X dX10_needState_0 ?_
  refine J_if_ne (tgt := 12) X dX10_needState_1 (by decide) (fun c1 => ?_) (fun c1 => ?_)
  · exact J_vret X rfl rfl ⟨rfl, rfl, c1⟩ dX10_needState_12
  · exact J_throw0 X (names := xNames) rfl (by decide) (by decide) gw_2_235 (gw_1_21) at_needState dX10_needState_4 dX10_needState_7 dX10_needState_8 dX10_needState_11 (by decide) (by decide) (by decide) (by decide) ⟨rfl, rfl, c1⟩
theorem vp_iff_c {v : Int32} {N : Nat} (hN : N < 2 ^ 31) : (¬ v < 0 ∧ v < nI N) ↔ vp_in v N := by
  constructor
  · rintro ⟨h0, h1⟩
    exact vp_c h0 (fun z => not_lt32.mpr z h1) hN
  · intro h
    refine ⟨fun z => h (Or.inl z), ?_⟩
    rw [vp_nI' h hN]
    exact nI_lt (vp_lt h) hN
theorem c_zoneOf {l : Launch} {D : va_G} {ca : Nat → Nat} {h : fH} {ρ : Nat → Nat → Nat} {μ : Nat → Nat → Int32} {cap : Nat → Nat} {σ : St} (hR : RX ca h ρ μ cap σ) (hI : InvX σ) (p1 : Int32) : FM l D ca yX10_zoneOf (.code yX10_zoneOf cX10_zoneOf 2 (some (.object "NightValley$Zone"))) { frames := 7, cells := 1, slots := 6, locals := 102 } [.ref (ρ 0 0), .int p1] h (fun v h' => v = some (.ref (ρ 6 (ix p1))) ∧ h' = h ∧ vp_in p1 4) (fun E h' => E = xIO ∧ h' = h ∧ ¬ vp_in p1 4) := by
  have hle := IX_L hI 0
  have hiff := vp_iff_c (v := p1) (N := xL σ 0) (by omega)
  refine FM.of [some (.ref (ρ 0 0)), some (.int p1)] (by decide) (Nat.le_of_ble_eq_true rfl) rfl ?_
  rintro K X rfl rfl rfl
  refine J_iload_1 X dX10_zoneOf_0 ?_
  refine J_aload_0 X dX10_zoneOf_1 ?_
  refine J_get X (C := RX10) (T := TX10) (N := 11) (ref := "NightValley") hR.root rfl 0 (by decide) rfl in_X10 gw_1_232 (fun _ z => z) dX10_zoneOf_2 ?_
  refine J_callV X (c_Xsize hR (k := 0) (by omega)) (And.intro gw_2_34 cw_Jx4a65c_size_8abf5) (hR.list (by omega)) rfl rfl rfl (Nat.le_of_ble_eq_true rfl) dX10_zoneOf_5 rfl (J.pi ?_) JE.no
  refine J_callS X (c_needNumber p1 (nI (xL σ 0))) (And.intro gw_2_38 cw_X10_needNumber) rfl rfl (Nat.le_of_ble_eq_true rfl) dX10_zoneOf_8 rfl (fun v h2 e => ?_) (fun E h2 e => ?_)
  · obtain ⟨rfl, rfl, e⟩ := e
    have hin := hiff.mp e
    show J K _ [some (.ref (ρ 0 0)), some (.int p1)] [] 11 _ _
    refine J_aload_0 X dX10_zoneOf_11 ?_
    refine J_get X (C := RX10) (T := TX10) (N := 11) (ref := "NightValley") hR.root rfl 0 (by decide) rfl in_X10 gw_1_232 (fun _ z => z) dX10_zoneOf_12 ?_
    refine J_iload_1 X dX10_zoneOf_15 ?_
    refine J_callV X (c_Xget hR (k := 0) (by omega) hin) (And.intro gw_2_104 cw_Jx4a65c_get_915e3) (hR.list (by omega)) rfl rfl rfl (Nat.le_of_ble_eq_true rfl) dX10_zoneOf_16 rfl (J.pa ?_) JE.no
    refine J_cast X (C := RX9) (T := TX9) (N := 6) (hR.zone (vp_lt hin)) rfl gw_1_113 dX10_zoneOf_19 ?_
    exact J_aret X rfl (Or.inl ⟨_, rfl⟩) rfl ⟨rfl, rfl, hin⟩ dX10_zoneOf_22
  · obtain ⟨rfl, rfl, e⟩ := e
    exact JE_out X rfl rfl ⟨rfl, rfl, fun z => e (hiff.mpr z)⟩
theorem c_placeOf {l : Launch} {D : va_G} {ca : Nat → Nat} {h : fH} {ρ : Nat → Nat → Nat} {μ : Nat → Nat → Int32} {cap : Nat → Nat} {σ : St} (hR : RX ca h ρ μ cap σ) (hI : InvX σ) (p1 : Int32) : FM l D ca yX10_placeOf (.code yX10_placeOf cX10_placeOf 2 (some (.object "NightValley$Place"))) { frames := 7, cells := 1, slots := 6, locals := 102 } [.ref (ρ 0 0), .int p1] h (fun v h' => v = some (.ref (ρ 8 (ix p1))) ∧ h' = h ∧ vp_in p1 64) (fun E h' => E = xIO ∧ h' = h ∧ ¬ vp_in p1 64) := by
  have hle := IX_L hI 1
  have hiff := vp_iff_c (v := p1) (N := xL σ 1) (by omega)
  refine FM.of [some (.ref (ρ 0 0)), some (.int p1)] (by decide) (Nat.le_of_ble_eq_true rfl) rfl ?_
  rintro K X rfl rfl rfl
  refine J_iload_1 X dX10_placeOf_0 ?_
  refine J_aload_0 X dX10_placeOf_1 ?_
  refine J_get X (C := RX10) (T := TX10) (N := 11) (ref := "NightValley") hR.root rfl 1 (by decide) rfl in_X10 gw_1_233 (fun _ z => z) dX10_placeOf_2 ?_
  refine J_callV X (c_Xsize hR (k := 1) (by omega)) (And.intro gw_2_34 cw_Jx4a65c_size_8abf5) (hR.list (by omega)) rfl rfl rfl (Nat.le_of_ble_eq_true rfl) dX10_placeOf_5 rfl (J.pi ?_) JE.no
  refine J_callS X (c_needNumber p1 (nI (xL σ 1))) (And.intro gw_2_38 cw_X10_needNumber) rfl rfl (Nat.le_of_ble_eq_true rfl) dX10_placeOf_8 rfl (fun v h2 e => ?_) (fun E h2 e => ?_)
  · obtain ⟨rfl, rfl, e⟩ := e
    have hin := hiff.mp e
    show J K _ [some (.ref (ρ 0 0)), some (.int p1)] [] 11 _ _
    refine J_aload_0 X dX10_placeOf_11 ?_
    refine J_get X (C := RX10) (T := TX10) (N := 11) (ref := "NightValley") hR.root rfl 1 (by decide) rfl in_X10 gw_1_233 (fun _ z => z) dX10_placeOf_12 ?_
    refine J_iload_1 X dX10_placeOf_15 ?_
    refine J_callV X (c_Xget hR (k := 1) (by omega) hin) (And.intro gw_2_104 cw_Jx4a65c_get_915e3) (hR.list (by omega)) rfl rfl rfl (Nat.le_of_ble_eq_true rfl) dX10_placeOf_16 rfl (J.pa ?_) JE.no
    refine J_cast X (C := RX4) (T := TX4) (N := 4) (hR.place (vp_lt hin)) rfl gw_1_206 dX10_placeOf_19 ?_
    exact J_aret X rfl (Or.inl ⟨_, rfl⟩) rfl ⟨rfl, rfl, hin⟩ dX10_placeOf_22
  · obtain ⟨rfl, rfl, e⟩ := e
    exact JE_out X rfl rfl ⟨rfl, rfl, fun z => e (hiff.mpr z)⟩
theorem c_villageOf {l : Launch} {D : va_G} {ca : Nat → Nat} {h : fH} {ρ : Nat → Nat → Nat} {μ : Nat → Nat → Int32} {cap : Nat → Nat} {σ : St} (hR : RX ca h ρ μ cap σ) (hI : InvX σ) (p1 : Int32) : FM l D ca yX10_villageOf (.code yX10_villageOf cX10_villageOf 2 (some (.object "NightValley$Village"))) { frames := 7, cells := 1, slots := 6, locals := 102 } [.ref (ρ 0 0), .int p1] h (fun v h' => v = some (.ref (ρ 9 (ix p1))) ∧ h' = h ∧ vp_in p1 (ix (σ 8 0))) (fun E h' => E = xIO ∧ h' = h ∧ ¬ vp_in p1 (ix (σ 8 0))) := by
  have hle := IX_L hI 2
  have hiff := vp_iff_c (v := p1) (N := xL σ 2) (by omega)
  refine FM.of [some (.ref (ρ 0 0)), some (.int p1)] (by decide) (Nat.le_of_ble_eq_true rfl) rfl ?_
  rintro K X rfl rfl rfl
  refine J_iload_1 X dX10_villageOf_0 ?_
  refine J_aload_0 X dX10_villageOf_1 ?_
  refine J_get X (C := RX10) (T := TX10) (N := 11) (ref := "NightValley") hR.root rfl 2 (by decide) rfl in_X10 gw_1_234 (fun _ z => z) dX10_villageOf_2 ?_
  refine J_callV X (c_Xsize hR (k := 2) (by omega)) (And.intro gw_2_34 cw_Jx4a65c_size_8abf5) (hR.list (by omega)) rfl rfl rfl (Nat.le_of_ble_eq_true rfl) dX10_villageOf_5 rfl (J.pi ?_) JE.no
  refine J_callS X (c_needNumber p1 (nI (xL σ 2))) (And.intro gw_2_38 cw_X10_needNumber) rfl rfl (Nat.le_of_ble_eq_true rfl) dX10_villageOf_8 rfl (fun v h2 e => ?_) (fun E h2 e => ?_)
  · obtain ⟨rfl, rfl, e⟩ := e
    have hin := hiff.mp e
    show J K _ [some (.ref (ρ 0 0)), some (.int p1)] [] 11 _ _
    refine J_aload_0 X dX10_villageOf_11 ?_
    refine J_get X (C := RX10) (T := TX10) (N := 11) (ref := "NightValley") hR.root rfl 2 (by decide) rfl in_X10 gw_1_234 (fun _ z => z) dX10_villageOf_12 ?_
    refine J_iload_1 X dX10_villageOf_15 ?_
    refine J_callV X (c_Xget hR (k := 2) (by omega) hin) (And.intro gw_2_104 cw_Jx4a65c_get_915e3) (hR.list (by omega)) rfl rfl rfl (Nat.le_of_ble_eq_true rfl) dX10_villageOf_16 rfl (J.pa ?_) JE.no
    refine J_cast X (C := RX7) (T := TX7) (N := 5) (hR.village (vp_lt hin)) rfl gw_3_18 dX10_villageOf_19 ?_
    exact J_aret X rfl (Or.inl ⟨_, rfl⟩) rfl ⟨rfl, rfl, hin⟩ dX10_villageOf_22
  · obtain ⟨rfl, rfl, e⟩ := e
    exact JE_out X rfl rfl ⟨rfl, rfl, fun z => e (hiff.mpr z)⟩
theorem c_lampOf {l : Launch} {D : va_G} {ca : Nat → Nat} {h : fH} {ρ : Nat → Nat → Nat} {μ : Nat → Nat → Int32} {cap : Nat → Nat} {σ : St} (hR : RX ca h ρ μ cap σ) (hI : InvX σ) (p1 : Int32) : FM l D ca yX10_lampOf (.code yX10_lampOf cX10_lampOf 2 (some (.object "NightValley$Lamp"))) { frames := 7, cells := 1, slots := 6, locals := 102 } [.ref (ρ 0 0), .int p1] h (fun v h' => v = some (.ref (ρ 10 (ix p1))) ∧ h' = h ∧ vp_in p1 (ix (σ 13 0))) (fun E h' => E = xIO ∧ h' = h ∧ ¬ vp_in p1 (ix (σ 13 0))) := by
  have hle := IX_L hI 3
  have hiff := vp_iff_c (v := p1) (N := xL σ 3) (by omega)
  refine FM.of [some (.ref (ρ 0 0)), some (.int p1)] (by decide) (Nat.le_of_ble_eq_true rfl) rfl ?_
  rintro K X rfl rfl rfl
  refine J_iload_1 X dX10_lampOf_0 ?_
  refine J_aload_0 X dX10_lampOf_1 ?_
  refine J_get X (C := RX10) (T := TX10) (N := 11) (ref := "NightValley") hR.root rfl 3 (by decide) rfl in_X10 gw_1_235 (fun _ z => z) dX10_lampOf_2 ?_
  refine J_callV X (c_Xsize hR (k := 3) (by omega)) (And.intro gw_2_34 cw_Jx4a65c_size_8abf5) (hR.list (by omega)) rfl rfl rfl (Nat.le_of_ble_eq_true rfl) dX10_lampOf_5 rfl (J.pi ?_) JE.no
  refine J_callS X (c_needNumber p1 (nI (xL σ 3))) (And.intro gw_2_38 cw_X10_needNumber) rfl rfl (Nat.le_of_ble_eq_true rfl) dX10_lampOf_8 rfl (fun v h2 e => ?_) (fun E h2 e => ?_)
  · obtain ⟨rfl, rfl, e⟩ := e
    have hin := hiff.mp e
    show J K _ [some (.ref (ρ 0 0)), some (.int p1)] [] 11 _ _
    refine J_aload_0 X dX10_lampOf_11 ?_
    refine J_get X (C := RX10) (T := TX10) (N := 11) (ref := "NightValley") hR.root rfl 3 (by decide) rfl in_X10 gw_1_235 (fun _ z => z) dX10_lampOf_12 ?_
    refine J_iload_1 X dX10_lampOf_15 ?_
    refine J_callV X (c_Xget hR (k := 3) (by omega) hin) (And.intro gw_2_104 cw_Jx4a65c_get_915e3) (hR.list (by omega)) rfl rfl rfl (Nat.le_of_ble_eq_true rfl) dX10_lampOf_16 rfl (J.pa ?_) JE.no
    refine J_cast X (C := RX2) (T := TX2) (N := 12) (hR.lamp (vp_lt hin)) rfl gw_2_118 dX10_lampOf_19 ?_
    exact J_aret X rfl (Or.inl ⟨_, rfl⟩) rfl ⟨rfl, rfl, hin⟩ dX10_lampOf_22
  · obtain ⟨rfl, rfl, e⟩ := e
    exact JE_out X rfl rfl ⟨rfl, rfl, fun z => e (hiff.mpr z)⟩
theorem c_meterOf {l : Launch} {D : va_G} {ca : Nat → Nat} {h : fH} {ρ : Nat → Nat → Nat} {μ : Nat → Nat → Int32} {cap : Nat → Nat} {σ : St} (hR : RX ca h ρ μ cap σ) (hI : InvX σ) (p1 : Int32) : FM l D ca yX10_meterOf (.code yX10_meterOf cX10_meterOf 2 (some (.object "NightValley$Meter"))) { frames := 7, cells := 1, slots := 6, locals := 102 } [.ref (ρ 0 0), .int p1] h (fun v h' => v = some (.ref (ρ 11 (ix p1))) ∧ h' = h ∧ vp_in p1 (ix (σ 26 0))) (fun E h' => E = xIO ∧ h' = h ∧ ¬ vp_in p1 (ix (σ 26 0))) := by
  have hle := IX_L hI 4
  have hiff := vp_iff_c (v := p1) (N := xL σ 4) (by omega)
  refine FM.of [some (.ref (ρ 0 0)), some (.int p1)] (by decide) (Nat.le_of_ble_eq_true rfl) rfl ?_
  rintro K X rfl rfl rfl
  refine J_iload_1 X dX10_meterOf_0 ?_
  refine J_aload_0 X dX10_meterOf_1 ?_
  refine J_get X (C := RX10) (T := TX10) (N := 11) (ref := "NightValley") hR.root rfl 4 (by decide) rfl in_X10 gw_1_236 (fun _ z => z) dX10_meterOf_2 ?_
  refine J_callV X (c_Xsize hR (k := 4) (by omega)) (And.intro gw_2_34 cw_Jx4a65c_size_8abf5) (hR.list (by omega)) rfl rfl rfl (Nat.le_of_ble_eq_true rfl) dX10_meterOf_5 rfl (J.pi ?_) JE.no
  refine J_callS X (c_needNumber p1 (nI (xL σ 4))) (And.intro gw_2_38 cw_X10_needNumber) rfl rfl (Nat.le_of_ble_eq_true rfl) dX10_meterOf_8 rfl (fun v h2 e => ?_) (fun E h2 e => ?_)
  · obtain ⟨rfl, rfl, e⟩ := e
    have hin := hiff.mp e
    show J K _ [some (.ref (ρ 0 0)), some (.int p1)] [] 11 _ _
    refine J_aload_0 X dX10_meterOf_11 ?_
    refine J_get X (C := RX10) (T := TX10) (N := 11) (ref := "NightValley") hR.root rfl 4 (by decide) rfl in_X10 gw_1_236 (fun _ z => z) dX10_meterOf_12 ?_
    refine J_iload_1 X dX10_meterOf_15 ?_
    refine J_callV X (c_Xget hR (k := 4) (by omega) hin) (And.intro gw_2_104 cw_Jx4a65c_get_915e3) (hR.list (by omega)) rfl rfl rfl (Nat.le_of_ble_eq_true rfl) dX10_meterOf_16 rfl (J.pa ?_) JE.no
    refine J_cast X (C := RX3) (T := TX3) (N := 5) (hR.meter (vp_lt hin)) rfl gw_3_153 dX10_meterOf_19 ?_
    exact J_aret X rfl (Or.inl ⟨_, rfl⟩) rfl ⟨rfl, rfl, hin⟩ dX10_meterOf_22
  · obtain ⟨rfl, rfl, e⟩ := e
    exact JE_out X rfl rfl ⟨rfl, rfl, fun z => e (hiff.mpr z)⟩
end
