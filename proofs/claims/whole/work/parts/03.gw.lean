def GW : List Cond := lw_tbl.filter goodWord
theorem gw_of {w : Cond} (h : w ∈ lw_tbl) (g : goodWord w = true) : w ∈ GW := List.mem_filter.mpr ⟨h, g⟩
theorem gw_s {w : Cond} (h : w ∈ k2_sels lw_privs) (g : goodWord w = true) : w ∈ GW := gw_of (List.mem_append_left _ h) g
theorem gw_t {w : Cond} (h : w ∈ tables_1) (g : goodWord w = true) : w ∈ GW := gw_of (List.mem_append_right _ h) g
theorem gw_1 {w : Cond} (h : w ∈ tables_1_1) (g : goodWord w = true) : w ∈ GW := gw_t (List.mem_append_left _ h) g
theorem gw_2 {w : Cond} (h : w ∈ tables_1_2) (g : goodWord w = true) : w ∈ GW := gw_t (List.mem_append_right _ (List.mem_append_left _ h)) g
theorem gw_3 {w : Cond} (h : w ∈ tables_1_3) (g : goodWord w = true) : w ∈ GW := gw_t (List.mem_append_right _ (List.mem_append_right _ (List.mem_append_left _ h))) g
theorem gw_4 {w : Cond} (h : w ∈ tables_1_4) (g : goodWord w = true) : w ∈ GW := gw_t (List.mem_append_right _ (List.mem_append_right _ (List.mem_append_right _ (List.mem_append_left _ h)))) g
theorem gw_5 {w : Cond} (h : w ∈ tables_1_5) (g : goodWord w = true) : w ∈ GW := gw_t (List.mem_append_right _ (List.mem_append_right _ (List.mem_append_right _ (List.mem_append_right _ (List.mem_append_left _ h))))) g
theorem gw_6 {w : Cond} (h : w ∈ tables_1_6) (g : goodWord w = true) : w ∈ GW := gw_t (List.mem_append_right _ (List.mem_append_right _ (List.mem_append_right _ (List.mem_append_right _ (List.mem_append_right _ h))))) g
theorem gws_0 : Cond.selects "java/util/ArrayList" ⟨"java/util/ArrayList", "add", "(Ljava/lang/Object;[Ljava/lang/Object;I)V"⟩ ⟨"java/util/ArrayList", "add", "(Ljava/lang/Object;[Ljava/lang/Object;I)V"⟩ ∈ GW := gw_s (List.mem_of_getElem? (i := 0) rfl) rfl
theorem gws_1 : Cond.selects "java/util/ArrayList" ⟨"java/util/ArrayList", "grow", "()[Ljava/lang/Object;"⟩ ⟨"java/util/ArrayList", "grow", "()[Ljava/lang/Object;"⟩ ∈ GW := gw_s (List.mem_of_getElem? (i := 1) rfl) rfl
theorem gws_2 : Cond.selects "java/util/ArrayList" ⟨"java/util/ArrayList", "grow", "(I)[Ljava/lang/Object;"⟩ ⟨"java/util/ArrayList", "grow", "(I)[Ljava/lang/Object;"⟩ ∈ GW := gw_s (List.mem_of_getElem? (i := 2) rfl) rfl
theorem gws_3 : Cond.selects "NightValley" ⟨"NightValley", "placeOf", "(I)LNightValley$Place;"⟩ ⟨"NightValley", "placeOf", "(I)LNightValley$Place;"⟩ ∈ GW := gw_s (List.mem_of_getElem? (i := 3) rfl) rfl
theorem gws_4 : Cond.selects "java/lang/Throwable" ⟨"java/lang/Throwable", "fillInStackTrace", "(I)Ljava/lang/Throwable;"⟩ ⟨"java/lang/Throwable", "fillInStackTrace", "(I)Ljava/lang/Throwable;"⟩ ∈ GW := gw_s (List.mem_of_getElem? (i := 4) rfl) rfl
theorem gws_5 : Cond.selects "NightValley" ⟨"NightValley", "zoneOf", "(I)LNightValley$Zone;"⟩ ⟨"NightValley", "zoneOf", "(I)LNightValley$Zone;"⟩ ∈ GW := gw_s (List.mem_of_getElem? (i := 5) rfl) rfl
theorem gws_6 : Cond.selects "NightValley" ⟨"NightValley", "ageLamps", "()V"⟩ ⟨"NightValley", "ageLamps", "()V"⟩ ∈ GW := gw_s (List.mem_of_getElem? (i := 6) rfl) rfl
theorem gws_7 : Cond.selects "NightValley" ⟨"NightValley", "isBurning", "(LNightValley$Lamp;)Z"⟩ ⟨"NightValley", "isBurning", "(LNightValley$Lamp;)Z"⟩ ∈ GW := gw_s (List.mem_of_getElem? (i := 7) rfl) rfl
theorem gws_8 : Cond.selects "NightValley" ⟨"NightValley", "villageOf", "(I)LNightValley$Village;"⟩ ⟨"NightValley", "villageOf", "(I)LNightValley$Village;"⟩ ∈ GW := gw_s (List.mem_of_getElem? (i := 8) rfl) rfl
theorem gws_9 : Cond.selects "NightValley" ⟨"NightValley", "lampOf", "(I)LNightValley$Lamp;"⟩ ⟨"NightValley", "lampOf", "(I)LNightValley$Lamp;"⟩ ∈ GW := gw_s (List.mem_of_getElem? (i := 9) rfl) rfl
theorem gws_10 : Cond.selects "NightValley" ⟨"NightValley", "meterOf", "(I)LNightValley$Meter;"⟩ ⟨"NightValley", "meterOf", "(I)LNightValley$Meter;"⟩ ∈ GW := gw_s (List.mem_of_getElem? (i := 10) rfl) rfl
theorem gws_11 : Cond.selects "NightValley" ⟨"NightValley", "glowOf", "(LNightValley$Place;)I"⟩ ⟨"NightValley", "glowOf", "(LNightValley$Place;)I"⟩ ∈ GW := gw_s (List.mem_of_getElem? (i := 11) rfl) rfl
theorem gws_12 : Cond.selects "NightValley" ⟨"NightValley", "givenBy", "(LNightValley$Lamp;LNightValley$Place;)I"⟩ ⟨"NightValley", "givenBy", "(LNightValley$Lamp;LNightValley$Place;)I"⟩ ∈ GW := gw_s (List.mem_of_getElem? (i := 12) rfl) rfl
theorem gws_13 : Cond.selects "NightValley" ⟨"NightValley", "isShaded", "(LNightValley$Place;LNightValley$Place;)Z"⟩ ⟨"NightValley", "isShaded", "(LNightValley$Place;LNightValley$Place;)Z"⟩ ∈ GW := gw_s (List.mem_of_getElem? (i := 13) rfl) rfl
theorem gws_14 : Cond.selects "NightValley$Place" ⟨"NightValley$Place", "isNearLine", "(LNightValley$Place;LNightValley$Place;)Z"⟩ ⟨"NightValley$Place", "isNearLine", "(LNightValley$Place;LNightValley$Place;)Z"⟩ ∈ GW := gw_s (List.mem_of_getElem? (i := 14) rfl) rfl
theorem gws_15 : Cond.selects "NightValley" ⟨"NightValley", "airFactor", "()I"⟩ ⟨"NightValley", "airFactor", "()I"⟩ ∈ GW := gw_s (List.mem_of_getElem? (i := 15) rfl) rfl
theorem gws_16 : Cond.selects "java/util/ArrayList" ⟨"java/util/ArrayList", "fastRemove", "([Ljava/lang/Object;I)V"⟩ ⟨"java/util/ArrayList", "fastRemove", "([Ljava/lang/Object;I)V"⟩ ∈ GW := gw_s (List.mem_of_getElem? (i := 16) rfl) rfl
theorem gws_17 : Cond.selects "NightValley" ⟨"NightValley", "burningLampsOf", "(LNightValley$Village;)I"⟩ ⟨"NightValley", "burningLampsOf", "(LNightValley$Village;)I"⟩ ∈ GW := gw_s (List.mem_of_getElem? (i := 17) rfl) rfl
theorem gws_18 : Cond.selects "NightValley$Walk" ⟨"NightValley$Walk", "reach", "(III)V"⟩ ⟨"NightValley$Walk", "reach", "(III)V"⟩ ∈ GW := gw_s (List.mem_of_getElem? (i := 18) rfl) rfl
theorem gws_19 : Cond.selects "NightValley$Walk" ⟨"NightValley$Walk", "goOn", "(II)V"⟩ ⟨"NightValley$Walk", "goOn", "(II)V"⟩ ∈ GW := gw_s (List.mem_of_getElem? (i := 19) rfl) rfl
theorem gws_20 : Cond.selects "NightValley" ⟨"NightValley", "passesAt", "(I)I"⟩ ⟨"NightValley", "passesAt", "(I)I"⟩ ∈ GW := gw_s (List.mem_of_getElem? (i := 20) rfl) rfl
theorem gws_21 : Cond.selects "NightValley" ⟨"NightValley", "planCost", "(LNightValley$Lamp;)I"⟩ ⟨"NightValley", "planCost", "(LNightValley$Lamp;)I"⟩ ∈ GW := gw_s (List.mem_of_getElem? (i := 21) rfl) rfl
theorem gws_22 : Cond.selects "NightValley$Choice" ⟨"NightValley$Choice", "sumOver", "(I[I)I"⟩ ⟨"NightValley$Choice", "sumOver", "(I[I)I"⟩ ∈ GW := gw_s (List.mem_of_getElem? (i := 22) rfl) rfl
theorem gws_23 : Cond.selects "NightValleyModel" ⟨"NightValleyModel", "fails", "(I)Z"⟩ ⟨"NightValleyModel", "fails", "(I)Z"⟩ ∈ GW := gw_s (List.mem_of_getElem? (i := 23) rfl) rfl
theorem gws_24 : Cond.selects "NightValleyModel" ⟨"NightValleyModel", "burns", "(I)Z"⟩ ⟨"NightValleyModel", "burns", "(I)Z"⟩ ∈ GW := gw_s (List.mem_of_getElem? (i := 24) rfl) rfl
theorem gws_25 : Cond.selects "NightValleyModel" ⟨"NightValleyModel", "isVillage", "(I)Z"⟩ ⟨"NightValleyModel", "isVillage", "(I)Z"⟩ ∈ GW := gw_s (List.mem_of_getElem? (i := 25) rfl) rfl
theorem gws_26 : Cond.selects "NightValleyModel" ⟨"NightValleyModel", "lampsOf", "(I)I"⟩ ⟨"NightValleyModel", "lampsOf", "(I)I"⟩ ∈ GW := gw_s (List.mem_of_getElem? (i := 26) rfl) rfl
theorem gws_27 : Cond.selects "NightValleyModel" ⟨"NightValleyModel", "isLamp", "(I)Z"⟩ ⟨"NightValleyModel", "isLamp", "(I)Z"⟩ ∈ GW := gw_s (List.mem_of_getElem? (i := 27) rfl) rfl
theorem gws_28 : Cond.selects "NightValleyModel" ⟨"NightValleyModel", "isBound", "(I)Z"⟩ ⟨"NightValleyModel", "isBound", "(I)Z"⟩ ∈ GW := gw_s (List.mem_of_getElem? (i := 28) rfl) rfl
theorem gws_29 : Cond.selects "NightValleyModel" ⟨"NightValleyModel", "isUnlawful", "(I)Z"⟩ ⟨"NightValleyModel", "isUnlawful", "(I)Z"⟩ ∈ GW := gw_s (List.mem_of_getElem? (i := 29) rfl) rfl
theorem gws_30 : Cond.selects "NightValleyModel" ⟨"NightValleyModel", "isMeter", "(I)Z"⟩ ⟨"NightValleyModel", "isMeter", "(I)Z"⟩ ∈ GW := gw_s (List.mem_of_getElem? (i := 30) rfl) rfl
theorem gws_31 : Cond.selects "NightValleyModel" ⟨"NightValleyModel", "glowOf", "(I)I"⟩ ⟨"NightValleyModel", "glowOf", "(I)I"⟩ ∈ GW := gw_s (List.mem_of_getElem? (i := 31) rfl) rfl
theorem gws_32 : Cond.selects "NightValleyModel" ⟨"NightValleyModel", "given", "(II)I"⟩ ⟨"NightValleyModel", "given", "(II)I"⟩ ∈ GW := gw_s (List.mem_of_getElem? (i := 32) rfl) rfl
theorem gws_33 : Cond.selects "NightValleyModel" ⟨"NightValleyModel", "light", "(I)I"⟩ ⟨"NightValleyModel", "light", "(I)I"⟩ ∈ GW := gw_s (List.mem_of_getElem? (i := 33) rfl) rfl
theorem gws_34 : Cond.selects "NightValleyModel" ⟨"NightValleyModel", "distance", "(II)I"⟩ ⟨"NightValleyModel", "distance", "(II)I"⟩ ∈ GW := gw_s (List.mem_of_getElem? (i := 34) rfl) rfl
theorem gws_35 : Cond.selects "NightValleyModel" ⟨"NightValleyModel", "isShaded", "(II)Z"⟩ ⟨"NightValleyModel", "isShaded", "(II)Z"⟩ ∈ GW := gw_s (List.mem_of_getElem? (i := 35) rfl) rfl
theorem gws_36 : Cond.selects "NightValleyModel" ⟨"NightValleyModel", "corrected", "(II)I"⟩ ⟨"NightValleyModel", "corrected", "(II)I"⟩ ∈ GW := gw_s (List.mem_of_getElem? (i := 36) rfl) rfl
theorem gws_37 : Cond.selects "NightValleyModel" ⟨"NightValleyModel", "direction", "(II)I"⟩ ⟨"NightValleyModel", "direction", "(II)I"⟩ ∈ GW := gw_s (List.mem_of_getElem? (i := 37) rfl) rfl
theorem gws_38 : Cond.selects "NightValleyModel" ⟨"NightValleyModel", "groundOf", "(I)I"⟩ ⟨"NightValleyModel", "groundOf", "(I)I"⟩ ∈ GW := gw_s (List.mem_of_getElem? (i := 38) rfl) rfl
theorem gw_1_0 : Cond.initialized "NightValleyLaw" ∈ GW := gw_1 (List.mem_of_getElem? (i := 0) rfl) rfl
theorem gw_1_1 : Cond.initialized "NightValley" ∈ GW := gw_1 (List.mem_of_getElem? (i := 1) rfl) rfl
theorem gw_1_2 : Cond.initialized "java/util/AbstractCollection" ∈ GW := gw_1 (List.mem_of_getElem? (i := 2) rfl) rfl
theorem gw_1_3 : Cond.initialized "java/util/AbstractList" ∈ GW := gw_1 (List.mem_of_getElem? (i := 3) rfl) rfl
theorem gw_1_4 : Cond.initialized "java/util/ArrayList" ∈ GW := gw_1 (List.mem_of_getElem? (i := 4) rfl) rfl
theorem gw_1_5 : Cond.initialized "NightValley$Label" ∈ GW := gw_1 (List.mem_of_getElem? (i := 5) rfl) rfl
theorem gw_1_6 : Cond.initialized "NightValley$Walk" ∈ GW := gw_1 (List.mem_of_getElem? (i := 6) rfl) rfl
theorem gw_1_7 : Cond.initialized "NightValley$Choice" ∈ GW := gw_1 (List.mem_of_getElem? (i := 7) rfl) rfl
theorem gw_1_8 : Cond.initialized "NightValley$Zone" ∈ GW := gw_1 (List.mem_of_getElem? (i := 8) rfl) rfl
theorem gw_1_9 : Cond.initialized "jdk/internal/util/ArraysSupport" ∈ GW := gw_1 (List.mem_of_getElem? (i := 9) rfl) rfl
theorem gw_1_10 : Cond.initialized "java/lang/Math" ∈ GW := gw_1 (List.mem_of_getElem? (i := 10) rfl) rfl
theorem gw_1_11 : Cond.initialized "java/util/Arrays" ∈ GW := gw_1 (List.mem_of_getElem? (i := 11) rfl) rfl
theorem gw_1_12 : Cond.initialized "java/lang/System" ∈ GW := gw_1 (List.mem_of_getElem? (i := 12) rfl) rfl
theorem gw_1_13 : Cond.initialized "NightValley$Place" ∈ GW := gw_1 (List.mem_of_getElem? (i := 13) rfl) rfl
theorem gw_1_14 : Cond.initialized "NightValleyModel" ∈ GW := gw_1 (List.mem_of_getElem? (i := 14) rfl) rfl
theorem gw_1_15 : Cond.initialized "java/lang/Throwable" ∈ GW := gw_1 (List.mem_of_getElem? (i := 15) rfl) rfl
theorem gw_1_16 : Cond.initialized "java/lang/Exception" ∈ GW := gw_1 (List.mem_of_getElem? (i := 16) rfl) rfl
theorem gw_1_17 : Cond.initialized "java/lang/RuntimeException" ∈ GW := gw_1 (List.mem_of_getElem? (i := 17) rfl) rfl
theorem gw_1_18 : Cond.initialized "java/lang/IndexOutOfBoundsException" ∈ GW := gw_1 (List.mem_of_getElem? (i := 18) rfl) rfl
theorem gw_1_19 : Cond.initialized "java/util/Objects" ∈ GW := gw_1 (List.mem_of_getElem? (i := 19) rfl) rfl
theorem gw_1_20 : Cond.initialized "jdk/internal/util/Preconditions" ∈ GW := gw_1 (List.mem_of_getElem? (i := 20) rfl) rfl
theorem gw_1_21 : Cond.initialized "java/lang/IllegalArgumentException" ∈ GW := gw_1 (List.mem_of_getElem? (i := 21) rfl) rfl
theorem gw_1_22 : Cond.initialized "java/lang/IllegalStateException" ∈ GW := gw_1 (List.mem_of_getElem? (i := 22) rfl) rfl
theorem gw_1_23 : Cond.initialized "NightValley$Village" ∈ GW := gw_1 (List.mem_of_getElem? (i := 23) rfl) rfl
theorem gw_1_24 : Cond.initialized "NightValley$Lamp" ∈ GW := gw_1 (List.mem_of_getElem? (i := 24) rfl) rfl
theorem gw_1_25 : Cond.initialized "NightValley$Meter" ∈ GW := gw_1 (List.mem_of_getElem? (i := 25) rfl) rfl
theorem gw_1_26 : Cond.initialized "NightValley$Reading" ∈ GW := gw_1 (List.mem_of_getElem? (i := 26) rfl) rfl
theorem gw_1_27 : Cond.initialized "NightValley$Satellite" ∈ GW := gw_1 (List.mem_of_getElem? (i := 27) rfl) rfl
theorem gw_1_28 : Cond.classLink "NightValleyLaw" 8 "NightValley" ∈ GW := gw_1 (List.mem_of_getElem? (i := 28) rfl) rfl
theorem gw_1_29 : Cond.instantiable "NightValley" 11 ∈ GW := gw_1 (List.mem_of_getElem? (i := 29) rfl) rfl
theorem gw_1_30 : Cond.methodLink "NightValleyLaw" 114 ⟨"NightValley", "<init>", "()V"⟩ ∈ GW := gw_1 (List.mem_of_getElem? (i := 30) rfl) rfl
theorem gw_1_31 : Cond.instanceMethod ⟨"NightValley", "<init>", "()V"⟩ ∈ GW := gw_1 (List.mem_of_getElem? (i := 31) rfl) rfl
theorem gw_1_32 : Cond.code ⟨"NightValley", "<init>", "()V"⟩ prog_1_method_1_code 3 (Option.none : Option FieldType) ∈ GW := gw_1 (List.mem_of_getElem? (i := 32) rfl) rfl
theorem gw_1_33 : Cond.methodLink "NightValley" 3 ⟨"java/lang/Object", "<init>", "()V"⟩ ∈ GW := gw_1 (List.mem_of_getElem? (i := 33) rfl) rfl
theorem gw_1_34 : Cond.instanceMethod ⟨"java/lang/Object", "<init>", "()V"⟩ ∈ GW := gw_1 (List.mem_of_getElem? (i := 34) rfl) rfl
theorem gw_1_35 : Cond.code ⟨"java/lang/Object", "<init>", "()V"⟩ object_method_1_code 1 (Option.none : Option FieldType) ∈ GW := gw_1 (List.mem_of_getElem? (i := 35) rfl) rfl
theorem gw_1_36 : Cond.classLink "NightValley" 9 "java/util/ArrayList" ∈ GW := gw_1 (List.mem_of_getElem? (i := 36) rfl) rfl
theorem gw_1_37 : Cond.instantiable "java/util/ArrayList" 3 ∈ GW := gw_1 (List.mem_of_getElem? (i := 37) rfl) rfl
theorem gw_1_38 : Cond.methodLink "NightValley" 11 ⟨"java/util/ArrayList", "<init>", "()V"⟩ ∈ GW := gw_1 (List.mem_of_getElem? (i := 38) rfl) rfl
theorem gw_1_39 : Cond.instanceMethod ⟨"java/util/ArrayList", "<init>", "()V"⟩ ∈ GW := gw_1 (List.mem_of_getElem? (i := 39) rfl) rfl
theorem gw_1_40 : Cond.code ⟨"java/util/ArrayList", "<init>", "()V"⟩ prog_27_method_2_code 1 (Option.none : Option FieldType) ∈ GW := gw_1 (List.mem_of_getElem? (i := 40) rfl) rfl
theorem gw_1_41 : Cond.methodLink "java/util/ArrayList" 1 ⟨"java/util/AbstractList", "<init>", "()V"⟩ ∈ GW := gw_1 (List.mem_of_getElem? (i := 41) rfl) rfl
theorem gw_1_42 : Cond.instanceMethod ⟨"java/util/AbstractList", "<init>", "()V"⟩ ∈ GW := gw_1 (List.mem_of_getElem? (i := 42) rfl) rfl
theorem gw_1_43 : Cond.code ⟨"java/util/AbstractList", "<init>", "()V"⟩ prog_26_method_1_code 1 (Option.none : Option FieldType) ∈ GW := gw_1 (List.mem_of_getElem? (i := 43) rfl) rfl
theorem gw_1_44 : Cond.methodLink "java/util/AbstractList" 1 ⟨"java/util/AbstractCollection", "<init>", "()V"⟩ ∈ GW := gw_1 (List.mem_of_getElem? (i := 44) rfl) rfl
theorem gw_1_45 : Cond.instanceMethod ⟨"java/util/AbstractCollection", "<init>", "()V"⟩ ∈ GW := gw_1 (List.mem_of_getElem? (i := 45) rfl) rfl
theorem gw_1_46 : Cond.code ⟨"java/util/AbstractCollection", "<init>", "()V"⟩ prog_25_method_1_code 1 (Option.none : Option FieldType) ∈ GW := gw_1 (List.mem_of_getElem? (i := 46) rfl) rfl
theorem gw_1_47 : Cond.methodLink "java/util/AbstractCollection" 1 ⟨"java/lang/Object", "<init>", "()V"⟩ ∈ GW := gw_1 (List.mem_of_getElem? (i := 47) rfl) rfl
theorem gw_1_48 : Cond.fieldLink "java/util/ArrayList" 39 "java/util/ArrayList" "DEFAULTCAPACITY_EMPTY_ELEMENTDATA" "[Ljava/lang/Object;" ∈ GW := gw_1 (List.mem_of_getElem? (i := 48) rfl) rfl
theorem gw_1_50 : Cond.fieldLink "java/util/ArrayList" 9 "java/util/ArrayList" "elementData" "[Ljava/lang/Object;" ∈ GW := gw_1 (List.mem_of_getElem? (i := 50) rfl) rfl
theorem gw_1_51 : Cond.fieldLink "java/util/ArrayList" 48 "java/util/ArrayList" "size" "I" ∈ GW := gw_1 (List.mem_of_getElem? (i := 51) rfl) rfl
theorem gw_1_52 : Cond.fieldLink "java/util/AbstractList" 7 "java/util/AbstractList" "modCount" "I" ∈ GW := gw_1 (List.mem_of_getElem? (i := 52) rfl) rfl
theorem gw_1_53 : Cond.fieldLink "java/util/ArrayList" 63 "java/util/ArrayList" "modCount" "I" ∈ GW := gw_1 (List.mem_of_getElem? (i := 53) rfl) rfl
theorem gw_1_54 : Cond.sameField "java/util/ArrayList" "java/util/AbstractList" "modCount" "I" ∈ GW := gw_1 (List.mem_of_getElem? (i := 54) rfl) rfl
theorem gw_1_55 : Cond.lays "java/util/ArrayList" "java/util/ArrayList" "elementData" "[Ljava/lang/Object;" ∈ GW := gw_1 (List.mem_of_getElem? (i := 55) rfl) rfl
theorem gw_1_56 : Cond.soleField "java/util/ArrayList" "elementData" ∈ GW := gw_1 (List.mem_of_getElem? (i := 56) rfl) rfl
theorem gw_1_57 : Cond.lays "java/util/ArrayList" "java/util/ArrayList" "size" "I" ∈ GW := gw_1 (List.mem_of_getElem? (i := 57) rfl) rfl
theorem gw_1_58 : Cond.soleField "java/util/ArrayList" "size" ∈ GW := gw_1 (List.mem_of_getElem? (i := 58) rfl) rfl
theorem gw_1_59 : Cond.lays "java/util/ArrayList" "java/util/AbstractList" "modCount" "I" ∈ GW := gw_1 (List.mem_of_getElem? (i := 59) rfl) rfl
theorem gw_1_60 : Cond.soleField "java/util/AbstractList" "modCount" ∈ GW := gw_1 (List.mem_of_getElem? (i := 60) rfl) rfl
theorem gw_1_61 : Cond.superclass "java/util/ArrayList" "java/util/AbstractList" ∈ GW := gw_1 (List.mem_of_getElem? (i := 61) rfl) rfl
theorem gw_1_62 : Cond.classLink "NightValley" 31 "NightValley$Label" ∈ GW := gw_1 (List.mem_of_getElem? (i := 62) rfl) rfl
theorem gw_1_63 : Cond.instantiable "NightValley$Label" 3 ∈ GW := gw_1 (List.mem_of_getElem? (i := 63) rfl) rfl
theorem gw_1_65 : Cond.instanceMethod ⟨"NightValley$Label", "<init>", "()V"⟩ ∈ GW := gw_1 (List.mem_of_getElem? (i := 65) rfl) rfl
theorem gw_1_66 : Cond.code ⟨"NightValley$Label", "<init>", "()V"⟩ prog_3_method_1_code 1 (Option.none : Option FieldType) ∈ GW := gw_1 (List.mem_of_getElem? (i := 66) rfl) rfl
theorem gw_1_67 : Cond.methodLink "NightValley$Label" 1 ⟨"java/lang/Object", "<init>", "()V"⟩ ∈ GW := gw_1 (List.mem_of_getElem? (i := 67) rfl) rfl
theorem gw_1_68 : Cond.fieldLink "NightValley$Label" 7 "NightValley$Label" "held" "Z" ∈ GW := gw_1 (List.mem_of_getElem? (i := 68) rfl) rfl
theorem gw_1_69 : Cond.fieldLink "NightValley" 317 "NightValley$Label" "held" "Z" ∈ GW := gw_1 (List.mem_of_getElem? (i := 69) rfl) rfl
theorem gw_1_70 : Cond.fieldLink "NightValley$Label" 13 "NightValley$Label" "successes" "I" ∈ GW := gw_1 (List.mem_of_getElem? (i := 70) rfl) rfl
theorem gw_1_71 : Cond.fieldLink "NightValley$Label" 17 "NightValley$Label" "failures" "I" ∈ GW := gw_1 (List.mem_of_getElem? (i := 71) rfl) rfl
theorem gw_1_72 : Cond.lays "NightValley$Label" "NightValley$Label" "held" "Z" ∈ GW := gw_1 (List.mem_of_getElem? (i := 72) rfl) rfl
theorem gw_1_73 : Cond.soleField "NightValley$Label" "held" ∈ GW := gw_1 (List.mem_of_getElem? (i := 73) rfl) rfl
theorem gw_1_74 : Cond.lays "NightValley$Label" "NightValley$Label" "successes" "I" ∈ GW := gw_1 (List.mem_of_getElem? (i := 74) rfl) rfl
theorem gw_1_75 : Cond.soleField "NightValley$Label" "successes" ∈ GW := gw_1 (List.mem_of_getElem? (i := 75) rfl) rfl
theorem gw_1_76 : Cond.lays "NightValley$Label" "NightValley$Label" "failures" "I" ∈ GW := gw_1 (List.mem_of_getElem? (i := 76) rfl) rfl
theorem gw_1_77 : Cond.soleField "NightValley$Label" "failures" ∈ GW := gw_1 (List.mem_of_getElem? (i := 77) rfl) rfl
theorem gw_1_78 : Cond.superclass "NightValley$Label" "java/lang/Object" ∈ GW := gw_1 (List.mem_of_getElem? (i := 78) rfl) rfl
theorem gw_1_79 : Cond.classLink "NightValley" 38 "NightValley$Walk" ∈ GW := gw_1 (List.mem_of_getElem? (i := 79) rfl) rfl
theorem gw_1_80 : Cond.instantiable "NightValley$Walk" 4 ∈ GW := gw_1 (List.mem_of_getElem? (i := 80) rfl) rfl
theorem gw_1_82 : Cond.instanceMethod ⟨"NightValley$Walk", "<init>", "()V"⟩ ∈ GW := gw_1 (List.mem_of_getElem? (i := 82) rfl) rfl
theorem gw_1_83 : Cond.code ⟨"NightValley$Walk", "<init>", "()V"⟩ prog_10_method_1_code 1 (Option.none : Option FieldType) ∈ GW := gw_1 (List.mem_of_getElem? (i := 83) rfl) rfl
theorem gw_1_84 : Cond.methodLink "NightValley$Walk" 3 ⟨"java/lang/Object", "<init>", "()V"⟩ ∈ GW := gw_1 (List.mem_of_getElem? (i := 84) rfl) rfl
theorem gw_1_85 : Cond.fieldLink "NightValley$Walk" 9 "NightValley$Walk" "grounds" "[I" ∈ GW := gw_1 (List.mem_of_getElem? (i := 85) rfl) rfl
theorem gw_1_86 : Cond.fieldLink "NightValley$Walk" 15 "NightValley$Walk" "steps" "[I" ∈ GW := gw_1 (List.mem_of_getElem? (i := 86) rfl) rfl
theorem gw_1_87 : Cond.fieldLink "NightValley$Walk" 18 "NightValley$Walk" "reached" "[I" ∈ GW := gw_1 (List.mem_of_getElem? (i := 87) rfl) rfl
theorem gw_1_88 : Cond.fieldLink "NightValley$Walk" 40 "NightValley$Walk" "reachedCount" "I" ∈ GW := gw_1 (List.mem_of_getElem? (i := 88) rfl) rfl
theorem gw_1_89 : Cond.laysFinal "NightValley$Walk" "NightValley$Walk" "grounds" "[I" ∈ GW := gw_1 (List.mem_of_getElem? (i := 89) rfl) rfl
theorem gw_1_90 : Cond.soleField "NightValley$Walk" "grounds" ∈ GW := gw_1 (List.mem_of_getElem? (i := 90) rfl) rfl
theorem gw_1_91 : Cond.laysFinal "NightValley$Walk" "NightValley$Walk" "steps" "[I" ∈ GW := gw_1 (List.mem_of_getElem? (i := 91) rfl) rfl
theorem gw_1_92 : Cond.soleField "NightValley$Walk" "steps" ∈ GW := gw_1 (List.mem_of_getElem? (i := 92) rfl) rfl
theorem gw_1_93 : Cond.laysFinal "NightValley$Walk" "NightValley$Walk" "reached" "[I" ∈ GW := gw_1 (List.mem_of_getElem? (i := 93) rfl) rfl
theorem gw_1_94 : Cond.soleField "NightValley$Walk" "reached" ∈ GW := gw_1 (List.mem_of_getElem? (i := 94) rfl) rfl
theorem gw_1_95 : Cond.lays "NightValley$Walk" "NightValley$Walk" "reachedCount" "I" ∈ GW := gw_1 (List.mem_of_getElem? (i := 95) rfl) rfl
theorem gw_1_96 : Cond.soleField "NightValley$Walk" "reachedCount" ∈ GW := gw_1 (List.mem_of_getElem? (i := 96) rfl) rfl
theorem gw_1_97 : Cond.superclass "NightValley$Walk" "java/lang/Object" ∈ GW := gw_1 (List.mem_of_getElem? (i := 97) rfl) rfl
theorem gw_1_98 : Cond.arrayClass FieldType.int ∈ GW := gw_1 (List.mem_of_getElem? (i := 98) rfl) rfl
theorem gw_1_99 : Cond.classLink "NightValley" 45 "NightValley$Choice" ∈ GW := gw_1 (List.mem_of_getElem? (i := 99) rfl) rfl
theorem gw_1_100 : Cond.instantiable "NightValley$Choice" 3 ∈ GW := gw_1 (List.mem_of_getElem? (i := 100) rfl) rfl
theorem gw_1_102 : Cond.instanceMethod ⟨"NightValley$Choice", "<init>", "()V"⟩ ∈ GW := gw_1 (List.mem_of_getElem? (i := 102) rfl) rfl
theorem gw_1_103 : Cond.code ⟨"NightValley$Choice", "<init>", "()V"⟩ prog_2_method_1_code 1 (Option.none : Option FieldType) ∈ GW := gw_1 (List.mem_of_getElem? (i := 103) rfl) rfl
theorem gw_1_104 : Cond.methodLink "NightValley$Choice" 3 ⟨"java/lang/Object", "<init>", "()V"⟩ ∈ GW := gw_1 (List.mem_of_getElem? (i := 104) rfl) rfl
theorem gw_1_105 : Cond.fieldLink "NightValley$Choice" 9 "NightValley$Choice" "costs" "[I" ∈ GW := gw_1 (List.mem_of_getElem? (i := 105) rfl) rfl
theorem gw_1_106 : Cond.fieldLink "NightValley$Choice" 15 "NightValley$Choice" "spares" "[I" ∈ GW := gw_1 (List.mem_of_getElem? (i := 106) rfl) rfl
theorem gw_1_107 : Cond.fieldLink "NightValley$Choice" 18 "NightValley$Choice" "count" "I" ∈ GW := gw_1 (List.mem_of_getElem? (i := 107) rfl) rfl
theorem gw_1_108 : Cond.laysFinal "NightValley$Choice" "NightValley$Choice" "costs" "[I" ∈ GW := gw_1 (List.mem_of_getElem? (i := 108) rfl) rfl
theorem gw_1_109 : Cond.soleField "NightValley$Choice" "costs" ∈ GW := gw_1 (List.mem_of_getElem? (i := 109) rfl) rfl
theorem gw_1_110 : Cond.laysFinal "NightValley$Choice" "NightValley$Choice" "spares" "[I" ∈ GW := gw_1 (List.mem_of_getElem? (i := 110) rfl) rfl
theorem gw_1_111 : Cond.soleField "NightValley$Choice" "spares" ∈ GW := gw_1 (List.mem_of_getElem? (i := 111) rfl) rfl
theorem gw_1_112 : Cond.lays "NightValley$Choice" "NightValley$Choice" "count" "I" ∈ GW := gw_1 (List.mem_of_getElem? (i := 112) rfl) rfl
theorem gw_1_113 : Cond.soleField "NightValley$Choice" "count" ∈ GW := gw_1 (List.mem_of_getElem? (i := 113) rfl) rfl
theorem gw_1_114 : Cond.superclass "NightValley$Choice" "java/lang/Object" ∈ GW := gw_1 (List.mem_of_getElem? (i := 114) rfl) rfl
theorem gw_1_115 : Cond.classLink "NightValley" 52 "NightValley$Zone" ∈ GW := gw_1 (List.mem_of_getElem? (i := 115) rfl) rfl
theorem gw_1_116 : Cond.instantiable "NightValley$Zone" 6 ∈ GW := gw_1 (List.mem_of_getElem? (i := 116) rfl) rfl
theorem gw_1_117 : Cond.methodLink "NightValley" 54 ⟨"NightValley$Zone", "<init>", "(I)V"⟩ ∈ GW := gw_1 (List.mem_of_getElem? (i := 117) rfl) rfl
theorem gw_1_118 : Cond.instanceMethod ⟨"NightValley$Zone", "<init>", "(I)V"⟩ ∈ GW := gw_1 (List.mem_of_getElem? (i := 118) rfl) rfl
theorem gw_1_119 : Cond.code ⟨"NightValley$Zone", "<init>", "(I)V"⟩ prog_11_method_1_code 2 (Option.none : Option FieldType) ∈ GW := gw_1 (List.mem_of_getElem? (i := 119) rfl) rfl
theorem gw_1_120 : Cond.methodLink "NightValley$Zone" 3 ⟨"java/lang/Object", "<init>", "()V"⟩ ∈ GW := gw_1 (List.mem_of_getElem? (i := 120) rfl) rfl
theorem gw_1_121 : Cond.fieldLink "NightValley$Zone" 22 "NightValley$Zone" "number" "I" ∈ GW := gw_1 (List.mem_of_getElem? (i := 121) rfl) rfl
theorem gw_1_122 : Cond.fieldLink "NightValley" 82 "NightValley$Zone" "number" "I" ∈ GW := gw_1 (List.mem_of_getElem? (i := 122) rfl) rfl
theorem gw_1_123 : Cond.fieldLink "NightValley$Zone" 9 "NightValley$Zone" "feasts" "[Z" ∈ GW := gw_1 (List.mem_of_getElem? (i := 123) rfl) rfl
theorem gw_1_124 : Cond.fieldLink "NightValley$Zone" 25 "NightValley$Zone" "feastDays" "I" ∈ GW := gw_1 (List.mem_of_getElem? (i := 124) rfl) rfl
theorem gw_1_125 : Cond.fieldLink "NightValley" 102 "NightValley$Zone" "feastDays" "I" ∈ GW := gw_1 (List.mem_of_getElem? (i := 125) rfl) rfl
theorem gw_1_126 : Cond.fieldLink "NightValley$Zone" 15 "NightValley$Zone" "curfew" "I" ∈ GW := gw_1 (List.mem_of_getElem? (i := 126) rfl) rfl
theorem gw_1_127 : Cond.fieldLink "NightValley" 90 "NightValley$Zone" "curfew" "I" ∈ GW := gw_1 (List.mem_of_getElem? (i := 127) rfl) rfl
theorem gw_1_128 : Cond.fieldLink "NightValley$Zone" 19 "NightValley$Zone" "greatestColour" "I" ∈ GW := gw_1 (List.mem_of_getElem? (i := 128) rfl) rfl
theorem gw_1_129 : Cond.fieldLink "NightValley" 93 "NightValley$Zone" "greatestColour" "I" ∈ GW := gw_1 (List.mem_of_getElem? (i := 129) rfl) rfl
theorem gw_1_130 : Cond.fieldLink "NightValley$Lamp" 61 "NightValley$Zone" "greatestColour" "I" ∈ GW := gw_1 (List.mem_of_getElem? (i := 130) rfl) rfl
theorem gw_1_131 : Cond.fieldLink "NightValley" 96 "NightValley$Zone" "leastShield" "I" ∈ GW := gw_1 (List.mem_of_getElem? (i := 131) rfl) rfl
theorem gw_1_132 : Cond.fieldLink "NightValley$Lamp" 66 "NightValley$Zone" "leastShield" "I" ∈ GW := gw_1 (List.mem_of_getElem? (i := 132) rfl) rfl
theorem gw_1_133 : Cond.laysFinal "NightValley$Zone" "NightValley$Zone" "number" "I" ∈ GW := gw_1 (List.mem_of_getElem? (i := 133) rfl) rfl
theorem gw_1_134 : Cond.soleField "NightValley$Zone" "number" ∈ GW := gw_1 (List.mem_of_getElem? (i := 134) rfl) rfl
theorem gw_1_135 : Cond.laysFinal "NightValley$Zone" "NightValley$Zone" "feasts" "[Z" ∈ GW := gw_1 (List.mem_of_getElem? (i := 135) rfl) rfl
theorem gw_1_136 : Cond.soleField "NightValley$Zone" "feasts" ∈ GW := gw_1 (List.mem_of_getElem? (i := 136) rfl) rfl
theorem gw_1_137 : Cond.lays "NightValley$Zone" "NightValley$Zone" "feastDays" "I" ∈ GW := gw_1 (List.mem_of_getElem? (i := 137) rfl) rfl
theorem gw_1_138 : Cond.soleField "NightValley$Zone" "feastDays" ∈ GW := gw_1 (List.mem_of_getElem? (i := 138) rfl) rfl
theorem gw_1_139 : Cond.lays "NightValley$Zone" "NightValley$Zone" "curfew" "I" ∈ GW := gw_1 (List.mem_of_getElem? (i := 139) rfl) rfl
theorem gw_1_140 : Cond.soleField "NightValley$Zone" "curfew" ∈ GW := gw_1 (List.mem_of_getElem? (i := 140) rfl) rfl
theorem gw_1_141 : Cond.lays "NightValley$Zone" "NightValley$Zone" "greatestColour" "I" ∈ GW := gw_1 (List.mem_of_getElem? (i := 141) rfl) rfl
theorem gw_1_142 : Cond.soleField "NightValley$Zone" "greatestColour" ∈ GW := gw_1 (List.mem_of_getElem? (i := 142) rfl) rfl
theorem gw_1_143 : Cond.lays "NightValley$Zone" "NightValley$Zone" "leastShield" "I" ∈ GW := gw_1 (List.mem_of_getElem? (i := 143) rfl) rfl
theorem gw_1_144 : Cond.soleField "NightValley$Zone" "leastShield" ∈ GW := gw_1 (List.mem_of_getElem? (i := 144) rfl) rfl
theorem gw_1_145 : Cond.superclass "NightValley$Zone" "java/lang/Object" ∈ GW := gw_1 (List.mem_of_getElem? (i := 145) rfl) rfl
theorem gw_1_146 : Cond.arrayClass FieldType.boolean ∈ GW := gw_1 (List.mem_of_getElem? (i := 146) rfl) rfl
theorem gw_1_147 : Cond.methodLink "NightValley" 57 ⟨"java/util/ArrayList", "add", "(Ljava/lang/Object;)Z"⟩ ∈ GW := gw_1 (List.mem_of_getElem? (i := 147) rfl) rfl
theorem gw_1_148 : Cond.instanceMethod ⟨"java/util/ArrayList", "add", "(Ljava/lang/Object;)Z"⟩ ∈ GW := gw_1 (List.mem_of_getElem? (i := 148) rfl) rfl
theorem gw_1_149 : Cond.selects "java/util/ArrayList" ⟨"java/util/ArrayList", "add", "(Ljava/lang/Object;)Z"⟩ ⟨"java/util/ArrayList", "add", "(Ljava/lang/Object;)Z"⟩ ∈ GW := gw_1 (List.mem_of_getElem? (i := 149) rfl) rfl
theorem gw_1_150 : Cond.code ⟨"java/util/ArrayList", "add", "(Ljava/lang/Object;)Z"⟩ prog_27_method_25_code 2 (Option.some FieldType.boolean) ∈ GW := gw_1 (List.mem_of_getElem? (i := 150) rfl) rfl
theorem gw_1_151 : Cond.methodLink "java/util/ArrayList" 131 ⟨"java/util/ArrayList", "add", "(Ljava/lang/Object;[Ljava/lang/Object;I)V"⟩ ∈ GW := gw_1 (List.mem_of_getElem? (i := 151) rfl) rfl
theorem gw_1_153 : Cond.instanceMethod ⟨"java/util/ArrayList", "add", "(Ljava/lang/Object;[Ljava/lang/Object;I)V"⟩ ∈ GW := gw_1 (List.mem_of_getElem? (i := 153) rfl) rfl
theorem gw_1_154 : Cond.code ⟨"java/util/ArrayList", "add", "(Ljava/lang/Object;[Ljava/lang/Object;I)V"⟩ prog_27_method_24_code 4 (Option.none : Option FieldType) ∈ GW := gw_1 (List.mem_of_getElem? (i := 154) rfl) rfl
theorem gw_1_155 : Cond.methodLink "java/util/ArrayList" 129 ⟨"java/util/ArrayList", "grow", "()[Ljava/lang/Object;"⟩ ∈ GW := gw_1 (List.mem_of_getElem? (i := 155) rfl) rfl
theorem gw_1_157 : Cond.instanceMethod ⟨"java/util/ArrayList", "grow", "()[Ljava/lang/Object;"⟩ ∈ GW := gw_1 (List.mem_of_getElem? (i := 157) rfl) rfl
theorem gw_1_158 : Cond.code ⟨"java/util/ArrayList", "grow", "()[Ljava/lang/Object;"⟩ prog_27_method_7_code 1 (Option.some (FieldType.array (FieldType.object "java/lang/Object"))) ∈ GW := gw_1 (List.mem_of_getElem? (i := 158) rfl) rfl
theorem gw_1_159 : Cond.methodLink "java/util/ArrayList" 69 ⟨"java/util/ArrayList", "grow", "(I)[Ljava/lang/Object;"⟩ ∈ GW := gw_1 (List.mem_of_getElem? (i := 159) rfl) rfl
theorem gw_1_161 : Cond.instanceMethod ⟨"java/util/ArrayList", "grow", "(I)[Ljava/lang/Object;"⟩ ∈ GW := gw_1 (List.mem_of_getElem? (i := 161) rfl) rfl
theorem gw_1_162 : Cond.code ⟨"java/util/ArrayList", "grow", "(I)[Ljava/lang/Object;"⟩ prog_27_method_6_code 4 (Option.some (FieldType.array (FieldType.object "java/lang/Object"))) ∈ GW := gw_1 (List.mem_of_getElem? (i := 162) rfl) rfl
theorem gw_1_163 : Cond.methodLink "java/util/ArrayList" 73 ⟨"jdk/internal/util/ArraysSupport", "newLength", "(III)I"⟩ ∈ GW := gw_1 (List.mem_of_getElem? (i := 163) rfl) rfl
theorem gw_1_164 : Cond.static ⟨"jdk/internal/util/ArraysSupport", "newLength", "(III)I"⟩ ∈ GW := gw_1 (List.mem_of_getElem? (i := 164) rfl) rfl
theorem gw_1_165 : Cond.code ⟨"jdk/internal/util/ArraysSupport", "newLength", "(III)I"⟩ prog_34_method_27_code 4 (Option.some FieldType.int) ∈ GW := gw_1 (List.mem_of_getElem? (i := 165) rfl) rfl
theorem gw_1_166 : Cond.methodLink "jdk/internal/util/ArraysSupport" 194 ⟨"java/lang/Math", "max", "(II)I"⟩ ∈ GW := gw_1 (List.mem_of_getElem? (i := 166) rfl) rfl
theorem gw_1_167 : Cond.static ⟨"java/lang/Math", "max", "(II)I"⟩ ∈ GW := gw_1 (List.mem_of_getElem? (i := 167) rfl) rfl
theorem gw_1_168 : Cond.code ⟨"java/lang/Math", "max", "(II)I"⟩ prog_21_method_65_code 2 (Option.some FieldType.int) ∈ GW := gw_1 (List.mem_of_getElem? (i := 168) rfl) rfl
theorem gw_1_169 : Cond.constant "jdk/internal/util/ArraysSupport" 200 (2147483639 : Int32) ∈ GW := gw_1 (List.mem_of_getElem? (i := 169) rfl) rfl
theorem gw_1_170 : Cond.methodLink "jdk/internal/util/ArraysSupport" 201 ⟨"jdk/internal/util/ArraysSupport", "hugeLength", "(II)I"⟩ ∈ GW := gw_1 (List.mem_of_getElem? (i := 170) rfl) rfl
theorem gw_1_171 : Cond.static ⟨"jdk/internal/util/ArraysSupport", "hugeLength", "(II)I"⟩ ∈ GW := gw_1 (List.mem_of_getElem? (i := 171) rfl) rfl
theorem gw_1_172 : Cond.code ⟨"jdk/internal/util/ArraysSupport", "hugeLength", "(II)I"⟩ prog_34_method_28_code 3 (Option.some FieldType.int) ∈ GW := gw_1 (List.mem_of_getElem? (i := 172) rfl) rfl
theorem gw_1_173 : Cond.methodLink "java/util/ArrayList" 66 ⟨"java/util/Arrays", "copyOf", "([Ljava/lang/Object;I)[Ljava/lang/Object;"⟩ ∈ GW := gw_1 (List.mem_of_getElem? (i := 173) rfl) rfl
theorem gw_1_174 : Cond.static ⟨"java/util/Arrays", "copyOf", "([Ljava/lang/Object;I)[Ljava/lang/Object;"⟩ ∈ GW := gw_1 (List.mem_of_getElem? (i := 174) rfl) rfl
theorem gw_1_175 : Cond.code ⟨"java/util/Arrays", "copyOf", "([Ljava/lang/Object;I)[Ljava/lang/Object;"⟩ prog_28_method_119_code 2 (Option.some (FieldType.array (FieldType.object "java/lang/Object"))) ∈ GW := gw_1 (List.mem_of_getElem? (i := 175) rfl) rfl
theorem gw_1_176 : Cond.methodLink "java/util/Arrays" 86 ⟨"java/lang/Object", "getClass", "()Ljava/lang/Class;"⟩ ∈ GW := gw_1 (List.mem_of_getElem? (i := 176) rfl) rfl
theorem gw_1_177 : Cond.instanceMethod ⟨"java/lang/Object", "getClass", "()Ljava/lang/Class;"⟩ ∈ GW := gw_1 (List.mem_of_getElem? (i := 177) rfl) rfl
theorem gw_1_178 : Cond.sameMethod "java/lang/Object" "java/lang/Object" "getClass" "()Ljava/lang/Class;" ∈ GW := gw_1 (List.mem_of_getElem? (i := 178) rfl) rfl
theorem gw_1_179 : Cond.selects "NightValley" ⟨"java/lang/Object", "getClass", "()Ljava/lang/Class;"⟩ ⟨"java/lang/Object", "getClass", "()Ljava/lang/Class;"⟩ ∈ GW := gw_1 (List.mem_of_getElem? (i := 179) rfl) rfl
theorem gw_1_180 : Cond.selects "NightValley$Choice" ⟨"java/lang/Object", "getClass", "()Ljava/lang/Class;"⟩ ⟨"java/lang/Object", "getClass", "()Ljava/lang/Class;"⟩ ∈ GW := gw_1 (List.mem_of_getElem? (i := 180) rfl) rfl
theorem gw_1_181 : Cond.selects "NightValley$Label" ⟨"java/lang/Object", "getClass", "()Ljava/lang/Class;"⟩ ⟨"java/lang/Object", "getClass", "()Ljava/lang/Class;"⟩ ∈ GW := gw_1 (List.mem_of_getElem? (i := 181) rfl) rfl
theorem gw_1_182 : Cond.selects "NightValley$Lamp" ⟨"java/lang/Object", "getClass", "()Ljava/lang/Class;"⟩ ⟨"java/lang/Object", "getClass", "()Ljava/lang/Class;"⟩ ∈ GW := gw_1 (List.mem_of_getElem? (i := 182) rfl) rfl
theorem gw_1_183 : Cond.selects "NightValley$Meter" ⟨"java/lang/Object", "getClass", "()Ljava/lang/Class;"⟩ ⟨"java/lang/Object", "getClass", "()Ljava/lang/Class;"⟩ ∈ GW := gw_1 (List.mem_of_getElem? (i := 183) rfl) rfl
theorem gw_1_184 : Cond.selects "NightValley$Place" ⟨"java/lang/Object", "getClass", "()Ljava/lang/Class;"⟩ ⟨"java/lang/Object", "getClass", "()Ljava/lang/Class;"⟩ ∈ GW := gw_1 (List.mem_of_getElem? (i := 184) rfl) rfl
theorem gw_1_185 : Cond.selects "NightValley$Reading" ⟨"java/lang/Object", "getClass", "()Ljava/lang/Class;"⟩ ⟨"java/lang/Object", "getClass", "()Ljava/lang/Class;"⟩ ∈ GW := gw_1 (List.mem_of_getElem? (i := 185) rfl) rfl
theorem gw_1_186 : Cond.selects "NightValley$Satellite" ⟨"java/lang/Object", "getClass", "()Ljava/lang/Class;"⟩ ⟨"java/lang/Object", "getClass", "()Ljava/lang/Class;"⟩ ∈ GW := gw_1 (List.mem_of_getElem? (i := 186) rfl) rfl
theorem gw_1_187 : Cond.selects "NightValley$Village" ⟨"java/lang/Object", "getClass", "()Ljava/lang/Class;"⟩ ⟨"java/lang/Object", "getClass", "()Ljava/lang/Class;"⟩ ∈ GW := gw_1 (List.mem_of_getElem? (i := 187) rfl) rfl
theorem gw_1_188 : Cond.selects "NightValley$Walk" ⟨"java/lang/Object", "getClass", "()Ljava/lang/Class;"⟩ ⟨"java/lang/Object", "getClass", "()Ljava/lang/Class;"⟩ ∈ GW := gw_1 (List.mem_of_getElem? (i := 188) rfl) rfl
theorem gw_1_189 : Cond.selects "NightValley$Zone" ⟨"java/lang/Object", "getClass", "()Ljava/lang/Class;"⟩ ⟨"java/lang/Object", "getClass", "()Ljava/lang/Class;"⟩ ∈ GW := gw_1 (List.mem_of_getElem? (i := 189) rfl) rfl
theorem gw_1_190 : Cond.selects "NightValleyModel" ⟨"java/lang/Object", "getClass", "()Ljava/lang/Class;"⟩ ⟨"java/lang/Object", "getClass", "()Ljava/lang/Class;"⟩ ∈ GW := gw_1 (List.mem_of_getElem? (i := 190) rfl) rfl
theorem gw_1_191 : Cond.selects "java/lang/IllegalArgumentException" ⟨"java/lang/Object", "getClass", "()Ljava/lang/Class;"⟩ ⟨"java/lang/Object", "getClass", "()Ljava/lang/Class;"⟩ ∈ GW := gw_1 (List.mem_of_getElem? (i := 191) rfl) rfl
theorem gw_1_192 : Cond.selects "java/lang/IllegalStateException" ⟨"java/lang/Object", "getClass", "()Ljava/lang/Class;"⟩ ⟨"java/lang/Object", "getClass", "()Ljava/lang/Class;"⟩ ∈ GW := gw_1 (List.mem_of_getElem? (i := 192) rfl) rfl
theorem gw_1_193 : Cond.selects "java/lang/IndexOutOfBoundsException" ⟨"java/lang/Object", "getClass", "()Ljava/lang/Class;"⟩ ⟨"java/lang/Object", "getClass", "()Ljava/lang/Class;"⟩ ∈ GW := gw_1 (List.mem_of_getElem? (i := 193) rfl) rfl
theorem gw_1_194 : Cond.selects "java/util/ArrayList" ⟨"java/lang/Object", "getClass", "()Ljava/lang/Class;"⟩ ⟨"java/lang/Object", "getClass", "()Ljava/lang/Class;"⟩ ∈ GW := gw_1 (List.mem_of_getElem? (i := 194) rfl) rfl
theorem gw_1_195 : Cond.native ⟨"java/lang/Object", "getClass", "()Ljava/lang/Class;"⟩ ∈ GW := gw_1 (List.mem_of_getElem? (i := 195) rfl) rfl
theorem gw_1_196 : Cond.methodLink "java/util/Arrays" 300 ⟨"java/util/Arrays", "copyOf", "([Ljava/lang/Object;ILjava/lang/Class;)[Ljava/lang/Object;"⟩ ∈ GW := gw_1 (List.mem_of_getElem? (i := 196) rfl) rfl
theorem gw_1_197 : Cond.static ⟨"java/util/Arrays", "copyOf", "([Ljava/lang/Object;ILjava/lang/Class;)[Ljava/lang/Object;"⟩ ∈ GW := gw_1 (List.mem_of_getElem? (i := 197) rfl) rfl
theorem gw_1_198 : Cond.code ⟨"java/util/Arrays", "copyOf", "([Ljava/lang/Object;ILjava/lang/Class;)[Ljava/lang/Object;"⟩ prog_28_method_120_code 4 (Option.some (FieldType.array (FieldType.object "java/lang/Object"))) ∈ GW := gw_1 (List.mem_of_getElem? (i := 198) rfl) rfl
theorem gw_1_199 : Cond.classLink "java/util/Arrays" 110 "[Ljava/lang/Object;" ∈ GW := gw_1 (List.mem_of_getElem? (i := 199) rfl) rfl
theorem gw_1_201 : Cond.classLink "java/util/Arrays" 2 "java/lang/Object" ∈ GW := gw_1 (List.mem_of_getElem? (i := 201) rfl) rfl
theorem gw_1_202 : Cond.methodLink "java/util/Arrays" 304 ⟨"java/lang/Math", "min", "(II)I"⟩ ∈ GW := gw_1 (List.mem_of_getElem? (i := 202) rfl) rfl
theorem gw_1_203 : Cond.static ⟨"java/lang/Math", "min", "(II)I"⟩ ∈ GW := gw_1 (List.mem_of_getElem? (i := 203) rfl) rfl
theorem gw_1_204 : Cond.code ⟨"java/lang/Math", "min", "(II)I"⟩ prog_21_method_69_code 2 (Option.some FieldType.int) ∈ GW := gw_1 (List.mem_of_getElem? (i := 204) rfl) rfl
theorem gw_1_205 : Cond.methodLink "java/util/Arrays" 150 ⟨"java/lang/System", "arraycopy", "(Ljava/lang/Object;ILjava/lang/Object;II)V"⟩ ∈ GW := gw_1 (List.mem_of_getElem? (i := 205) rfl) rfl
theorem gw_1_206 : Cond.static ⟨"java/lang/System", "arraycopy", "(Ljava/lang/Object;ILjava/lang/Object;II)V"⟩ ∈ GW := gw_1 (List.mem_of_getElem? (i := 206) rfl) rfl
theorem gw_1_207 : Cond.native ⟨"java/lang/System", "arraycopy", "(Ljava/lang/Object;ILjava/lang/Object;II)V"⟩ ∈ GW := gw_1 (List.mem_of_getElem? (i := 207) rfl) rfl
theorem gw_1_208 : Cond.methodLink "java/util/ArrayList" 79 ⟨"java/lang/Math", "max", "(II)I"⟩ ∈ GW := gw_1 (List.mem_of_getElem? (i := 208) rfl) rfl
theorem gw_1_209 : Cond.classLink "java/util/ArrayList" 7 "java/lang/Object" ∈ GW := gw_1 (List.mem_of_getElem? (i := 209) rfl) rfl
theorem gw_1_210 : Cond.classLink "NightValley" 61 "NightValley$Place" ∈ GW := gw_1 (List.mem_of_getElem? (i := 210) rfl) rfl
theorem gw_1_211 : Cond.instantiable "NightValley$Place" 4 ∈ GW := gw_1 (List.mem_of_getElem? (i := 211) rfl) rfl
theorem gw_1_212 : Cond.methodLink "NightValley" 63 ⟨"NightValley$Place", "<init>", "(ILNightValley$Zone;)V"⟩ ∈ GW := gw_1 (List.mem_of_getElem? (i := 212) rfl) rfl
theorem gw_1_213 : Cond.instanceMethod ⟨"NightValley$Place", "<init>", "(ILNightValley$Zone;)V"⟩ ∈ GW := gw_1 (List.mem_of_getElem? (i := 213) rfl) rfl
theorem gw_1_214 : Cond.code ⟨"NightValley$Place", "<init>", "(ILNightValley$Zone;)V"⟩ prog_6_method_1_code 3 (Option.none : Option FieldType) ∈ GW := gw_1 (List.mem_of_getElem? (i := 214) rfl) rfl
theorem gw_1_215 : Cond.methodLink "NightValley$Place" 3 ⟨"java/lang/Object", "<init>", "()V"⟩ ∈ GW := gw_1 (List.mem_of_getElem? (i := 215) rfl) rfl
theorem gw_1_216 : Cond.fieldLink "NightValley$Place" 9 "NightValley$Place" "x" "I" ∈ GW := gw_1 (List.mem_of_getElem? (i := 216) rfl) rfl
theorem gw_1_217 : Cond.fieldLink "NightValley$Walk" 27 "NightValley$Place" "x" "I" ∈ GW := gw_1 (List.mem_of_getElem? (i := 217) rfl) rfl
theorem gw_1_218 : Cond.fieldLink "NightValley" 277 "NightValley$Place" "x" "I" ∈ GW := gw_1 (List.mem_of_getElem? (i := 218) rfl) rfl
theorem gw_1_219 : Cond.fieldLink "NightValley$Place" 15 "NightValley$Place" "y" "I" ∈ GW := gw_1 (List.mem_of_getElem? (i := 219) rfl) rfl
theorem gw_1_220 : Cond.fieldLink "NightValley$Walk" 33 "NightValley$Place" "y" "I" ∈ GW := gw_1 (List.mem_of_getElem? (i := 220) rfl) rfl
theorem gw_1_221 : Cond.fieldLink "NightValley" 280 "NightValley$Place" "y" "I" ∈ GW := gw_1 (List.mem_of_getElem? (i := 221) rfl) rfl
theorem gw_1_222 : Cond.fieldLink "NightValley$Place" 18 "NightValley$Place" "zone" "LNightValley$Zone;" ∈ GW := gw_1 (List.mem_of_getElem? (i := 222) rfl) rfl
theorem gw_1_223 : Cond.fieldLink "NightValley" 78 "NightValley$Place" "zone" "LNightValley$Zone;" ∈ GW := gw_1 (List.mem_of_getElem? (i := 223) rfl) rfl
theorem gw_1_224 : Cond.fieldLink "NightValley$Lamp" 55 "NightValley$Place" "zone" "LNightValley$Zone;" ∈ GW := gw_1 (List.mem_of_getElem? (i := 224) rfl) rfl
theorem gw_1_225 : Cond.fieldLink "NightValley$Place" 22 "NightValley$Place" "ridge" "Z" ∈ GW := gw_1 (List.mem_of_getElem? (i := 225) rfl) rfl
theorem gw_1_226 : Cond.fieldLink "NightValley" 70 "NightValley$Place" "ridge" "Z" ∈ GW := gw_1 (List.mem_of_getElem? (i := 226) rfl) rfl
theorem gw_1_227 : Cond.laysFinal "NightValley$Place" "NightValley$Place" "x" "I" ∈ GW := gw_1 (List.mem_of_getElem? (i := 227) rfl) rfl
theorem gw_1_228 : Cond.soleField "NightValley$Place" "x" ∈ GW := gw_1 (List.mem_of_getElem? (i := 228) rfl) rfl
theorem gw_1_229 : Cond.laysFinal "NightValley$Place" "NightValley$Place" "y" "I" ∈ GW := gw_1 (List.mem_of_getElem? (i := 229) rfl) rfl
theorem gw_1_230 : Cond.soleField "NightValley$Place" "y" ∈ GW := gw_1 (List.mem_of_getElem? (i := 230) rfl) rfl
theorem gw_1_231 : Cond.lays "NightValley$Place" "NightValley$Place" "zone" "LNightValley$Zone;" ∈ GW := gw_1 (List.mem_of_getElem? (i := 231) rfl) rfl
theorem gw_1_232 : Cond.soleField "NightValley$Place" "zone" ∈ GW := gw_1 (List.mem_of_getElem? (i := 232) rfl) rfl
theorem gw_1_233 : Cond.lays "NightValley$Place" "NightValley$Place" "ridge" "Z" ∈ GW := gw_1 (List.mem_of_getElem? (i := 233) rfl) rfl
theorem gw_1_234 : Cond.soleField "NightValley$Place" "ridge" ∈ GW := gw_1 (List.mem_of_getElem? (i := 234) rfl) rfl
theorem gw_1_235 : Cond.superclass "NightValley$Place" "java/lang/Object" ∈ GW := gw_1 (List.mem_of_getElem? (i := 235) rfl) rfl
theorem gw_1_236 : Cond.fieldLink "NightValley" 12 "NightValley" "zones" "Ljava/util/ArrayList;" ∈ GW := gw_1 (List.mem_of_getElem? (i := 236) rfl) rfl
theorem gw_1_237 : Cond.fieldLink "NightValley" 16 "NightValley" "places" "Ljava/util/ArrayList;" ∈ GW := gw_1 (List.mem_of_getElem? (i := 237) rfl) rfl
theorem gw_1_238 : Cond.fieldLink "NightValley" 19 "NightValley" "villages" "Ljava/util/ArrayList;" ∈ GW := gw_1 (List.mem_of_getElem? (i := 238) rfl) rfl
theorem gw_1_239 : Cond.fieldLink "NightValley" 22 "NightValley" "lamps" "Ljava/util/ArrayList;" ∈ GW := gw_1 (List.mem_of_getElem? (i := 239) rfl) rfl
theorem gw_2_0 : Cond.fieldLink "NightValley" 25 "NightValley" "meters" "Ljava/util/ArrayList;" ∈ GW := gw_2 (List.mem_of_getElem? (i := 0) rfl) rfl
theorem gw_2_1 : Cond.fieldLink "NightValley" 28 "NightValley" "satellites" "Ljava/util/ArrayList;" ∈ GW := gw_2 (List.mem_of_getElem? (i := 1) rfl) rfl
theorem gw_2_2 : Cond.fieldLink "NightValley" 34 "NightValley" "label" "LNightValley$Label;" ∈ GW := gw_2 (List.mem_of_getElem? (i := 2) rfl) rfl
theorem gw_2_3 : Cond.fieldLink "NightValley" 41 "NightValley" "walk" "LNightValley$Walk;" ∈ GW := gw_2 (List.mem_of_getElem? (i := 3) rfl) rfl
theorem gw_2_4 : Cond.fieldLink "NightValley" 48 "NightValley" "choice" "LNightValley$Choice;" ∈ GW := gw_2 (List.mem_of_getElem? (i := 4) rfl) rfl
theorem gw_2_5 : Cond.fieldLink "NightValley" 108 "NightValley" "time" "I" ∈ GW := gw_2 (List.mem_of_getElem? (i := 5) rfl) rfl
theorem gw_2_6 : Cond.fieldLink "NightValley" 105 "NightValley" "air" "I" ∈ GW := gw_2 (List.mem_of_getElem? (i := 6) rfl) rfl
theorem gw_2_7 : Cond.laysFinal "NightValley" "NightValley" "zones" "Ljava/util/ArrayList;" ∈ GW := gw_2 (List.mem_of_getElem? (i := 7) rfl) rfl
theorem gw_2_8 : Cond.soleField "NightValley" "zones" ∈ GW := gw_2 (List.mem_of_getElem? (i := 8) rfl) rfl
theorem gw_2_9 : Cond.laysFinal "NightValley" "NightValley" "places" "Ljava/util/ArrayList;" ∈ GW := gw_2 (List.mem_of_getElem? (i := 9) rfl) rfl
theorem gw_2_10 : Cond.soleField "NightValley" "places" ∈ GW := gw_2 (List.mem_of_getElem? (i := 10) rfl) rfl
theorem gw_2_11 : Cond.laysFinal "NightValley" "NightValley" "villages" "Ljava/util/ArrayList;" ∈ GW := gw_2 (List.mem_of_getElem? (i := 11) rfl) rfl
theorem gw_2_12 : Cond.soleField "NightValley" "villages" ∈ GW := gw_2 (List.mem_of_getElem? (i := 12) rfl) rfl
theorem gw_2_13 : Cond.laysFinal "NightValley" "NightValley" "lamps" "Ljava/util/ArrayList;" ∈ GW := gw_2 (List.mem_of_getElem? (i := 13) rfl) rfl
theorem gw_2_14 : Cond.soleField "NightValley" "lamps" ∈ GW := gw_2 (List.mem_of_getElem? (i := 14) rfl) rfl
theorem gw_2_15 : Cond.laysFinal "NightValley" "NightValley" "meters" "Ljava/util/ArrayList;" ∈ GW := gw_2 (List.mem_of_getElem? (i := 15) rfl) rfl
theorem gw_2_16 : Cond.soleField "NightValley" "meters" ∈ GW := gw_2 (List.mem_of_getElem? (i := 16) rfl) rfl
theorem gw_2_17 : Cond.laysFinal "NightValley" "NightValley" "satellites" "Ljava/util/ArrayList;" ∈ GW := gw_2 (List.mem_of_getElem? (i := 17) rfl) rfl
theorem gw_2_18 : Cond.soleField "NightValley" "satellites" ∈ GW := gw_2 (List.mem_of_getElem? (i := 18) rfl) rfl
theorem gw_2_19 : Cond.laysFinal "NightValley" "NightValley" "label" "LNightValley$Label;" ∈ GW := gw_2 (List.mem_of_getElem? (i := 19) rfl) rfl
theorem gw_2_20 : Cond.soleField "NightValley" "label" ∈ GW := gw_2 (List.mem_of_getElem? (i := 20) rfl) rfl
theorem gw_2_21 : Cond.laysFinal "NightValley" "NightValley" "walk" "LNightValley$Walk;" ∈ GW := gw_2 (List.mem_of_getElem? (i := 21) rfl) rfl
theorem gw_2_22 : Cond.soleField "NightValley" "walk" ∈ GW := gw_2 (List.mem_of_getElem? (i := 22) rfl) rfl
theorem gw_2_23 : Cond.laysFinal "NightValley" "NightValley" "choice" "LNightValley$Choice;" ∈ GW := gw_2 (List.mem_of_getElem? (i := 23) rfl) rfl
theorem gw_2_24 : Cond.soleField "NightValley" "choice" ∈ GW := gw_2 (List.mem_of_getElem? (i := 24) rfl) rfl
theorem gw_2_25 : Cond.lays "NightValley" "NightValley" "time" "I" ∈ GW := gw_2 (List.mem_of_getElem? (i := 25) rfl) rfl
theorem gw_2_26 : Cond.soleField "NightValley" "time" ∈ GW := gw_2 (List.mem_of_getElem? (i := 26) rfl) rfl
theorem gw_2_27 : Cond.lays "NightValley" "NightValley" "air" "I" ∈ GW := gw_2 (List.mem_of_getElem? (i := 27) rfl) rfl
theorem gw_2_28 : Cond.soleField "NightValley" "air" ∈ GW := gw_2 (List.mem_of_getElem? (i := 28) rfl) rfl
theorem gw_2_29 : Cond.superclass "NightValley" "java/lang/Object" ∈ GW := gw_2 (List.mem_of_getElem? (i := 29) rfl) rfl
theorem gw_2_30 : Cond.methodLink "NightValleyLaw" 185 ⟨"NightValley", "time", "()I"⟩ ∈ GW := gw_2 (List.mem_of_getElem? (i := 30) rfl) rfl
theorem gw_2_31 : Cond.instanceMethod ⟨"NightValley", "time", "()I"⟩ ∈ GW := gw_2 (List.mem_of_getElem? (i := 31) rfl) rfl
theorem gw_2_32 : Cond.selects "NightValley" ⟨"NightValley", "time", "()I"⟩ ⟨"NightValley", "time", "()I"⟩ ∈ GW := gw_2 (List.mem_of_getElem? (i := 32) rfl) rfl
theorem gw_2_33 : Cond.code ⟨"NightValley", "time", "()I"⟩ prog_1_method_20_code 1 (Option.some FieldType.int) ∈ GW := gw_2 (List.mem_of_getElem? (i := 33) rfl) rfl
theorem gw_2_34 : Cond.methodLink "NightValleyLaw" 216 ⟨"NightValley", "isHeld", "()Z"⟩ ∈ GW := gw_2 (List.mem_of_getElem? (i := 34) rfl) rfl
theorem gw_2_35 : Cond.instanceMethod ⟨"NightValley", "isHeld", "()Z"⟩ ∈ GW := gw_2 (List.mem_of_getElem? (i := 35) rfl) rfl
theorem gw_2_36 : Cond.selects "NightValley" ⟨"NightValley", "isHeld", "()Z"⟩ ⟨"NightValley", "isHeld", "()Z"⟩ ∈ GW := gw_2 (List.mem_of_getElem? (i := 36) rfl) rfl
theorem gw_2_37 : Cond.code ⟨"NightValley", "isHeld", "()Z"⟩ prog_1_method_30_code 1 (Option.some FieldType.boolean) ∈ GW := gw_2 (List.mem_of_getElem? (i := 37) rfl) rfl
theorem gw_2_38 : Cond.methodLink "NightValleyLaw" 118 ⟨"NightValleyLaw", "ridge", "(LNightValley;IZ[J)I"⟩ ∈ GW := gw_2 (List.mem_of_getElem? (i := 38) rfl) rfl
theorem gw_2_39 : Cond.static ⟨"NightValleyLaw", "ridge", "(LNightValley;IZ[J)I"⟩ ∈ GW := gw_2 (List.mem_of_getElem? (i := 39) rfl) rfl
theorem gw_2_40 : Cond.codeWith ⟨"NightValleyLaw", "ridge", "(LNightValley;IZ[J)I"⟩ method_3_code 5 (Option.some FieldType.int) [(0, 17, 20, 13)] ∈ GW := gw_2 (List.mem_of_getElem? (i := 40) rfl) rfl
theorem gw_2_41 : Cond.classLink "NightValleyLaw" 13 "java/lang/IndexOutOfBoundsException" ∈ GW := gw_2 (List.mem_of_getElem? (i := 41) rfl) rfl
theorem gw_2_42 : Cond.methodLink "NightValleyLaw" 7 ⟨"NightValley", "ridge", "(IZ)Z"⟩ ∈ GW := gw_2 (List.mem_of_getElem? (i := 42) rfl) rfl
theorem gw_2_43 : Cond.instanceMethod ⟨"NightValley", "ridge", "(IZ)Z"⟩ ∈ GW := gw_2 (List.mem_of_getElem? (i := 43) rfl) rfl
theorem gw_2_44 : Cond.selects "NightValley" ⟨"NightValley", "ridge", "(IZ)Z"⟩ ⟨"NightValley", "ridge", "(IZ)Z"⟩ ∈ GW := gw_2 (List.mem_of_getElem? (i := 44) rfl) rfl
theorem gw_2_45 : Cond.code ⟨"NightValley", "ridge", "(IZ)Z"⟩ prog_1_method_2_code 5 (Option.some FieldType.boolean) ∈ GW := gw_2 (List.mem_of_getElem? (i := 45) rfl) rfl
theorem gw_2_46 : Cond.methodLink "NightValley" 66 ⟨"NightValley", "placeOf", "(I)LNightValley$Place;"⟩ ∈ GW := gw_2 (List.mem_of_getElem? (i := 46) rfl) rfl
theorem gw_2_48 : Cond.instanceMethod ⟨"NightValley", "placeOf", "(I)LNightValley$Place;"⟩ ∈ GW := gw_2 (List.mem_of_getElem? (i := 48) rfl) rfl
theorem gw_2_49 : Cond.code ⟨"NightValley", "placeOf", "(I)LNightValley$Place;"⟩ prog_1_method_37_code 2 (Option.some (FieldType.object "NightValley$Place")) ∈ GW := gw_2 (List.mem_of_getElem? (i := 49) rfl) rfl
theorem gw_2_50 : Cond.methodLink "NightValley" 118 ⟨"java/util/ArrayList", "size", "()I"⟩ ∈ GW := gw_2 (List.mem_of_getElem? (i := 50) rfl) rfl
theorem gw_2_51 : Cond.instanceMethod ⟨"java/util/ArrayList", "size", "()I"⟩ ∈ GW := gw_2 (List.mem_of_getElem? (i := 51) rfl) rfl
theorem gw_2_52 : Cond.selects "java/util/ArrayList" ⟨"java/util/ArrayList", "size", "()I"⟩ ⟨"java/util/ArrayList", "size", "()I"⟩ ∈ GW := gw_2 (List.mem_of_getElem? (i := 52) rfl) rfl
theorem gw_2_53 : Cond.code ⟨"java/util/ArrayList", "size", "()I"⟩ prog_27_method_8_code 1 (Option.some FieldType.int) ∈ GW := gw_2 (List.mem_of_getElem? (i := 53) rfl) rfl
theorem gw_2_54 : Cond.methodLink "NightValley" 287 ⟨"NightValley", "needNumber", "(II)V"⟩ ∈ GW := gw_2 (List.mem_of_getElem? (i := 54) rfl) rfl
theorem gw_2_55 : Cond.static ⟨"NightValley", "needNumber", "(II)V"⟩ ∈ GW := gw_2 (List.mem_of_getElem? (i := 55) rfl) rfl
theorem gw_2_56 : Cond.code ⟨"NightValley", "needNumber", "(II)V"⟩ prog_1_method_34_code 2 (Option.none : Option FieldType) ∈ GW := gw_2 (List.mem_of_getElem? (i := 56) rfl) rfl
theorem gw_2_57 : Cond.classLink "NightValley" 339 "java/lang/IndexOutOfBoundsException" ∈ GW := gw_2 (List.mem_of_getElem? (i := 57) rfl) rfl
theorem gw_2_58 : Cond.instantiable "java/lang/IndexOutOfBoundsException" 6 ∈ GW := gw_2 (List.mem_of_getElem? (i := 58) rfl) rfl
theorem gw_2_66 : Cond.selects "java/lang/IndexOutOfBoundsException" ⟨"java/lang/Throwable", "fillInStackTrace", "(I)Ljava/lang/Throwable;"⟩ ⟨"java/lang/Throwable", "fillInStackTrace", "(I)Ljava/lang/Throwable;"⟩ ∈ GW := gw_2 (List.mem_of_getElem? (i := 66) rfl) rfl
theorem gw_2_67 : Cond.selects "java/lang/IndexOutOfBoundsException" ⟨"java/lang/Throwable", "fillInStackTrace", "()Ljava/lang/Throwable;"⟩ ⟨"java/lang/Throwable", "fillInStackTrace", "()Ljava/lang/Throwable;"⟩ ∈ GW := gw_2 (List.mem_of_getElem? (i := 67) rfl) rfl
theorem gw_2_68 : Cond.lays "java/lang/IndexOutOfBoundsException" "java/lang/Throwable" "cause" "Ljava/lang/Throwable;" ∈ GW := gw_2 (List.mem_of_getElem? (i := 68) rfl) rfl
theorem gw_2_69 : Cond.lays "java/lang/Throwable" "java/lang/Throwable" "cause" "Ljava/lang/Throwable;" ∈ GW := gw_2 (List.mem_of_getElem? (i := 69) rfl) rfl
theorem gw_2_70 : Cond.lays "java/lang/IndexOutOfBoundsException" "java/lang/Throwable" "stackTrace" "[Ljava/lang/StackTraceElement;" ∈ GW := gw_2 (List.mem_of_getElem? (i := 70) rfl) rfl
theorem gw_2_71 : Cond.lays "java/lang/Throwable" "java/lang/Throwable" "stackTrace" "[Ljava/lang/StackTraceElement;" ∈ GW := gw_2 (List.mem_of_getElem? (i := 71) rfl) rfl
theorem gw_2_72 : Cond.lays "java/lang/IndexOutOfBoundsException" "java/lang/Throwable" "suppressedExceptions" "Ljava/util/List;" ∈ GW := gw_2 (List.mem_of_getElem? (i := 72) rfl) rfl
theorem gw_2_73 : Cond.lays "java/lang/Throwable" "java/lang/Throwable" "suppressedExceptions" "Ljava/util/List;" ∈ GW := gw_2 (List.mem_of_getElem? (i := 73) rfl) rfl
theorem gw_2_74 : Cond.lays "java/lang/IndexOutOfBoundsException" "java/lang/Throwable" "detailMessage" "Ljava/lang/String;" ∈ GW := gw_2 (List.mem_of_getElem? (i := 74) rfl) rfl
theorem gw_2_75 : Cond.lays "java/lang/Throwable" "java/lang/Throwable" "detailMessage" "Ljava/lang/String;" ∈ GW := gw_2 (List.mem_of_getElem? (i := 75) rfl) rfl
theorem gw_2_76 : Cond.lays "java/lang/IndexOutOfBoundsException" "java/lang/Throwable" "backtrace" "Ljava/lang/Object;" ∈ GW := gw_2 (List.mem_of_getElem? (i := 76) rfl) rfl
theorem gw_2_77 : Cond.lays "java/lang/Throwable" "java/lang/Throwable" "backtrace" "Ljava/lang/Object;" ∈ GW := gw_2 (List.mem_of_getElem? (i := 77) rfl) rfl
theorem gw_2_78 : Cond.fieldLink "java/lang/Throwable" 198 "java/lang/Throwable" "backtrace" "Ljava/lang/Object;" ∈ GW := gw_2 (List.mem_of_getElem? (i := 78) rfl) rfl
theorem gw_2_79 : Cond.superclass "java/lang/Throwable" "java/lang/Object" ∈ GW := gw_2 (List.mem_of_getElem? (i := 79) rfl) rfl
theorem gw_2_80 : Cond.instanceMethod ⟨"java/lang/Throwable", "<init>", "()V"⟩ ∈ GW := gw_2 (List.mem_of_getElem? (i := 80) rfl) rfl
theorem gw_2_81 : Cond.code ⟨"java/lang/Throwable", "<init>", "()V"⟩ prog_24_method_1_code 1 (Option.none : Option FieldType) ∈ GW := gw_2 (List.mem_of_getElem? (i := 81) rfl) rfl
theorem gw_2_82 : Cond.methodLink "java/lang/Throwable" 1 ⟨"java/lang/Object", "<init>", "()V"⟩ ∈ GW := gw_2 (List.mem_of_getElem? (i := 82) rfl) rfl
theorem gw_2_83 : Cond.fieldLink "java/lang/Throwable" 13 "java/lang/Throwable" "UNASSIGNED_STACK" "[Ljava/lang/StackTraceElement;" ∈ GW := gw_2 (List.mem_of_getElem? (i := 83) rfl) rfl
theorem gw_2_85 : Cond.fieldLink "java/lang/Throwable" 20 "java/lang/Throwable" "SUPPRESSED_SENTINEL" "Ljava/util/List;" ∈ GW := gw_2 (List.mem_of_getElem? (i := 85) rfl) rfl
theorem gw_2_87 : Cond.methodLink "java/lang/Throwable" 27 ⟨"java/lang/Throwable", "fillInStackTrace", "()Ljava/lang/Throwable;"⟩ ∈ GW := gw_2 (List.mem_of_getElem? (i := 87) rfl) rfl
theorem gw_2_88 : Cond.instanceMethod ⟨"java/lang/Throwable", "fillInStackTrace", "()Ljava/lang/Throwable;"⟩ ∈ GW := gw_2 (List.mem_of_getElem? (i := 88) rfl) rfl
theorem gw_2_89 : Cond.sameMethod "java/lang/Throwable" "java/lang/Throwable" "fillInStackTrace" "()Ljava/lang/Throwable;" ∈ GW := gw_2 (List.mem_of_getElem? (i := 89) rfl) rfl
theorem gw_2_90 : Cond.selects "java/lang/IllegalArgumentException" ⟨"java/lang/Throwable", "fillInStackTrace", "()Ljava/lang/Throwable;"⟩ ⟨"java/lang/Throwable", "fillInStackTrace", "()Ljava/lang/Throwable;"⟩ ∈ GW := gw_2 (List.mem_of_getElem? (i := 90) rfl) rfl
theorem gw_2_91 : Cond.selects "java/lang/IllegalStateException" ⟨"java/lang/Throwable", "fillInStackTrace", "()Ljava/lang/Throwable;"⟩ ⟨"java/lang/Throwable", "fillInStackTrace", "()Ljava/lang/Throwable;"⟩ ∈ GW := gw_2 (List.mem_of_getElem? (i := 91) rfl) rfl
theorem gw_2_92 : Cond.codeSync ⟨"java/lang/Throwable", "fillInStackTrace", "()Ljava/lang/Throwable;"⟩ prog_24_method_18_code 1 (Option.some (FieldType.object "java/lang/Throwable")) ∈ GW := gw_2 (List.mem_of_getElem? (i := 92) rfl) rfl
theorem gw_2_93 : Cond.methodLink "java/lang/Throwable" 202 ⟨"java/lang/Throwable", "fillInStackTrace", "(I)Ljava/lang/Throwable;"⟩ ∈ GW := gw_2 (List.mem_of_getElem? (i := 93) rfl) rfl
theorem gw_2_95 : Cond.instanceMethod ⟨"java/lang/Throwable", "fillInStackTrace", "(I)Ljava/lang/Throwable;"⟩ ∈ GW := gw_2 (List.mem_of_getElem? (i := 95) rfl) rfl
theorem gw_2_96 : Cond.instantiable "java/lang/Throwable" 6 ∈ GW := gw_2 (List.mem_of_getElem? (i := 96) rfl) rfl
theorem gw_2_97 : Cond.native ⟨"java/lang/Throwable", "fillInStackTrace", "(I)Ljava/lang/Throwable;"⟩ ∈ GW := gw_2 (List.mem_of_getElem? (i := 97) rfl) rfl
theorem gw_2_98 : Cond.methodLink "NightValley" 341 ⟨"java/lang/IndexOutOfBoundsException", "<init>", "()V"⟩ ∈ GW := gw_2 (List.mem_of_getElem? (i := 98) rfl) rfl
theorem gw_2_99 : Cond.instanceMethod ⟨"java/lang/IndexOutOfBoundsException", "<init>", "()V"⟩ ∈ GW := gw_2 (List.mem_of_getElem? (i := 99) rfl) rfl
theorem gw_2_100 : Cond.code ⟨"java/lang/IndexOutOfBoundsException", "<init>", "()V"⟩ prog_19_method_1_code 1 (Option.none : Option FieldType) ∈ GW := gw_2 (List.mem_of_getElem? (i := 100) rfl) rfl
theorem gw_2_101 : Cond.methodLink "java/lang/IndexOutOfBoundsException" 1 ⟨"java/lang/RuntimeException", "<init>", "()V"⟩ ∈ GW := gw_2 (List.mem_of_getElem? (i := 101) rfl) rfl
theorem gw_2_102 : Cond.instanceMethod ⟨"java/lang/RuntimeException", "<init>", "()V"⟩ ∈ GW := gw_2 (List.mem_of_getElem? (i := 102) rfl) rfl
theorem gw_2_103 : Cond.code ⟨"java/lang/RuntimeException", "<init>", "()V"⟩ prog_22_method_1_code 1 (Option.none : Option FieldType) ∈ GW := gw_2 (List.mem_of_getElem? (i := 103) rfl) rfl
theorem gw_2_104 : Cond.methodLink "java/lang/RuntimeException" 1 ⟨"java/lang/Exception", "<init>", "()V"⟩ ∈ GW := gw_2 (List.mem_of_getElem? (i := 104) rfl) rfl
theorem gw_2_105 : Cond.instanceMethod ⟨"java/lang/Exception", "<init>", "()V"⟩ ∈ GW := gw_2 (List.mem_of_getElem? (i := 105) rfl) rfl
theorem gw_2_106 : Cond.code ⟨"java/lang/Exception", "<init>", "()V"⟩ prog_16_method_1_code 1 (Option.none : Option FieldType) ∈ GW := gw_2 (List.mem_of_getElem? (i := 106) rfl) rfl
theorem gw_2_107 : Cond.methodLink "java/lang/Exception" 1 ⟨"java/lang/Throwable", "<init>", "()V"⟩ ∈ GW := gw_2 (List.mem_of_getElem? (i := 107) rfl) rfl
theorem gw_2_108 : Cond.fieldLink "java/lang/Throwable" 198 "java/lang/Throwable" "backtrace" "Ljava/lang/Object;" ∈ GW := gw_2 (List.mem_of_getElem? (i := 108) rfl) rfl
theorem gw_2_109 : Cond.fieldLink "java/lang/Throwable" 7 "java/lang/Throwable" "cause" "Ljava/lang/Throwable;" ∈ GW := gw_2 (List.mem_of_getElem? (i := 109) rfl) rfl
theorem gw_2_110 : Cond.fieldLink "java/lang/Throwable" 17 "java/lang/Throwable" "stackTrace" "[Ljava/lang/StackTraceElement;" ∈ GW := gw_2 (List.mem_of_getElem? (i := 110) rfl) rfl
theorem gw_2_111 : Cond.fieldLink "java/lang/Throwable" 24 "java/lang/Throwable" "suppressedExceptions" "Ljava/util/List;" ∈ GW := gw_2 (List.mem_of_getElem? (i := 111) rfl) rfl
theorem gw_2_112 : Cond.soleField "java/lang/Throwable" "backtrace" ∈ GW := gw_2 (List.mem_of_getElem? (i := 112) rfl) rfl
theorem gw_2_113 : Cond.soleField "java/lang/Throwable" "detailMessage" ∈ GW := gw_2 (List.mem_of_getElem? (i := 113) rfl) rfl
theorem gw_2_114 : Cond.soleField "java/lang/Throwable" "cause" ∈ GW := gw_2 (List.mem_of_getElem? (i := 114) rfl) rfl
theorem gw_2_115 : Cond.soleField "java/lang/Throwable" "stackTrace" ∈ GW := gw_2 (List.mem_of_getElem? (i := 115) rfl) rfl
theorem gw_2_116 : Cond.lays "java/lang/IndexOutOfBoundsException" "java/lang/Throwable" "depth" "I" ∈ GW := gw_2 (List.mem_of_getElem? (i := 116) rfl) rfl
theorem gw_2_117 : Cond.soleField "java/lang/Throwable" "depth" ∈ GW := gw_2 (List.mem_of_getElem? (i := 117) rfl) rfl
theorem gw_2_118 : Cond.soleField "java/lang/Throwable" "suppressedExceptions" ∈ GW := gw_2 (List.mem_of_getElem? (i := 118) rfl) rfl
theorem gw_2_119 : Cond.superclass "java/lang/IndexOutOfBoundsException" "java/lang/RuntimeException" ∈ GW := gw_2 (List.mem_of_getElem? (i := 119) rfl) rfl
theorem gw_2_120 : Cond.methodLink "NightValley" 191 ⟨"java/util/ArrayList", "get", "(I)Ljava/lang/Object;"⟩ ∈ GW := gw_2 (List.mem_of_getElem? (i := 120) rfl) rfl
theorem gw_2_121 : Cond.instanceMethod ⟨"java/util/ArrayList", "get", "(I)Ljava/lang/Object;"⟩ ∈ GW := gw_2 (List.mem_of_getElem? (i := 121) rfl) rfl
theorem gw_2_122 : Cond.selects "java/util/ArrayList" ⟨"java/util/ArrayList", "get", "(I)Ljava/lang/Object;"⟩ ⟨"java/util/ArrayList", "get", "(I)Ljava/lang/Object;"⟩ ∈ GW := gw_2 (List.mem_of_getElem? (i := 122) rfl) rfl
theorem gw_2_123 : Cond.code ⟨"java/util/ArrayList", "get", "(I)Ljava/lang/Object;"⟩ prog_27_method_20_code 2 (Option.some (FieldType.object "java/lang/Object")) ∈ GW := gw_2 (List.mem_of_getElem? (i := 123) rfl) rfl
theorem gw_2_124 : Cond.methodLink "java/util/ArrayList" 118 ⟨"java/util/Objects", "checkIndex", "(II)I"⟩ ∈ GW := gw_2 (List.mem_of_getElem? (i := 124) rfl) rfl
theorem gw_2_125 : Cond.static ⟨"java/util/Objects", "checkIndex", "(II)I"⟩ ∈ GW := gw_2 (List.mem_of_getElem? (i := 125) rfl) rfl
theorem gw_2_126 : Cond.code ⟨"java/util/Objects", "checkIndex", "(II)I"⟩ prog_31_method_17_code 2 (Option.some FieldType.int) ∈ GW := gw_2 (List.mem_of_getElem? (i := 126) rfl) rfl
theorem gw_2_127 : Cond.methodLink "java/util/Objects" 105 ⟨"jdk/internal/util/Preconditions", "checkIndex", "(IILjava/util/function/BiFunction;)I"⟩ ∈ GW := gw_2 (List.mem_of_getElem? (i := 127) rfl) rfl
theorem gw_2_128 : Cond.static ⟨"jdk/internal/util/Preconditions", "checkIndex", "(IILjava/util/function/BiFunction;)I"⟩ ∈ GW := gw_2 (List.mem_of_getElem? (i := 128) rfl) rfl
theorem gw_2_129 : Cond.code ⟨"jdk/internal/util/Preconditions", "checkIndex", "(IILjava/util/function/BiFunction;)I"⟩ prog_35_method_11_code 3 (Option.some FieldType.int) ∈ GW := gw_2 (List.mem_of_getElem? (i := 129) rfl) rfl
theorem gw_2_130 : Cond.methodLink "java/util/ArrayList" 123 ⟨"java/util/ArrayList", "elementData", "(I)Ljava/lang/Object;"⟩ ∈ GW := gw_2 (List.mem_of_getElem? (i := 130) rfl) rfl
theorem gw_2_131 : Cond.instanceMethod ⟨"java/util/ArrayList", "elementData", "(I)Ljava/lang/Object;"⟩ ∈ GW := gw_2 (List.mem_of_getElem? (i := 131) rfl) rfl
theorem gw_2_132 : Cond.selects "java/util/ArrayList" ⟨"java/util/ArrayList", "elementData", "(I)Ljava/lang/Object;"⟩ ⟨"java/util/ArrayList", "elementData", "(I)Ljava/lang/Object;"⟩ ∈ GW := gw_2 (List.mem_of_getElem? (i := 132) rfl) rfl
theorem gw_2_133 : Cond.code ⟨"java/util/ArrayList", "elementData", "(I)Ljava/lang/Object;"⟩ prog_27_method_18_code 2 (Option.some (FieldType.object "java/lang/Object")) ∈ GW := gw_2 (List.mem_of_getElem? (i := 133) rfl) rfl
theorem gw_2_134 : Cond.methodLink "NightValleyLaw" 128 ⟨"NightValleyLaw", "zone", "(LNightValley;II[J)I"⟩ ∈ GW := gw_2 (List.mem_of_getElem? (i := 134) rfl) rfl
theorem gw_2_135 : Cond.static ⟨"NightValleyLaw", "zone", "(LNightValley;II[J)I"⟩ ∈ GW := gw_2 (List.mem_of_getElem? (i := 135) rfl) rfl
theorem gw_2_136 : Cond.codeWith ⟨"NightValleyLaw", "zone", "(LNightValley;II[J)I"⟩ method_4_code 5 (Option.some FieldType.int) [(0, 10, 13, 13)] ∈ GW := gw_2 (List.mem_of_getElem? (i := 136) rfl) rfl
theorem gw_2_137 : Cond.methodLink "NightValleyLaw" 15 ⟨"NightValley", "zone", "(II)I"⟩ ∈ GW := gw_2 (List.mem_of_getElem? (i := 137) rfl) rfl
theorem gw_2_138 : Cond.instanceMethod ⟨"NightValley", "zone", "(II)I"⟩ ∈ GW := gw_2 (List.mem_of_getElem? (i := 138) rfl) rfl
theorem gw_2_139 : Cond.selects "NightValley" ⟨"NightValley", "zone", "(II)I"⟩ ⟨"NightValley", "zone", "(II)I"⟩ ∈ GW := gw_2 (List.mem_of_getElem? (i := 139) rfl) rfl
theorem gw_2_140 : Cond.code ⟨"NightValley", "zone", "(II)I"⟩ prog_1_method_3_code 6 (Option.some FieldType.int) ∈ GW := gw_2 (List.mem_of_getElem? (i := 140) rfl) rfl
theorem gw_2_141 : Cond.methodLink "NightValley" 74 ⟨"NightValley", "zoneOf", "(I)LNightValley$Zone;"⟩ ∈ GW := gw_2 (List.mem_of_getElem? (i := 141) rfl) rfl
theorem gw_2_143 : Cond.instanceMethod ⟨"NightValley", "zoneOf", "(I)LNightValley$Zone;"⟩ ∈ GW := gw_2 (List.mem_of_getElem? (i := 143) rfl) rfl
theorem gw_2_144 : Cond.code ⟨"NightValley", "zoneOf", "(I)LNightValley$Zone;"⟩ prog_1_method_38_code 2 (Option.some (FieldType.object "NightValley$Zone")) ∈ GW := gw_2 (List.mem_of_getElem? (i := 144) rfl) rfl
theorem gw_2_145 : Cond.methodLink "NightValleyLaw" 132 ⟨"NightValleyLaw", "law", "(LNightValley;IIII)I"⟩ ∈ GW := gw_2 (List.mem_of_getElem? (i := 145) rfl) rfl
theorem gw_2_146 : Cond.static ⟨"NightValleyLaw", "law", "(LNightValley;IIII)I"⟩ ∈ GW := gw_2 (List.mem_of_getElem? (i := 146) rfl) rfl
theorem gw_2_147 : Cond.codeWith ⟨"NightValleyLaw", "law", "(LNightValley;IIII)I"⟩ method_5_code 6 (Option.some FieldType.int) [(0, 9, 12, 13), (0, 9, 16, 23)] ∈ GW := gw_2 (List.mem_of_getElem? (i := 147) rfl) rfl
theorem gw_2_148 : Cond.classLink "NightValleyLaw" 23 "java/lang/IllegalArgumentException" ∈ GW := gw_2 (List.mem_of_getElem? (i := 148) rfl) rfl
theorem gw_2_149 : Cond.methodLink "NightValleyLaw" 19 ⟨"NightValley", "law", "(IIII)V"⟩ ∈ GW := gw_2 (List.mem_of_getElem? (i := 149) rfl) rfl
theorem gw_2_150 : Cond.instanceMethod ⟨"NightValley", "law", "(IIII)V"⟩ ∈ GW := gw_2 (List.mem_of_getElem? (i := 150) rfl) rfl
theorem gw_2_151 : Cond.selects "NightValley" ⟨"NightValley", "law", "(IIII)V"⟩ ⟨"NightValley", "law", "(IIII)V"⟩ ∈ GW := gw_2 (List.mem_of_getElem? (i := 151) rfl) rfl
theorem gw_2_152 : Cond.code ⟨"NightValley", "law", "(IIII)V"⟩ prog_1_method_4_code 6 (Option.none : Option FieldType) ∈ GW := gw_2 (List.mem_of_getElem? (i := 152) rfl) rfl
theorem gw_2_153 : Cond.methodLink "NightValley" 86 ⟨"NightValley", "needRange", "(III)V"⟩ ∈ GW := gw_2 (List.mem_of_getElem? (i := 153) rfl) rfl
theorem gw_2_154 : Cond.static ⟨"NightValley", "needRange", "(III)V"⟩ ∈ GW := gw_2 (List.mem_of_getElem? (i := 154) rfl) rfl
theorem gw_2_155 : Cond.code ⟨"NightValley", "needRange", "(III)V"⟩ prog_1_method_35_code 3 (Option.none : Option FieldType) ∈ GW := gw_2 (List.mem_of_getElem? (i := 155) rfl) rfl
theorem gw_2_156 : Cond.classLink "NightValley" 342 "java/lang/IllegalArgumentException" ∈ GW := gw_2 (List.mem_of_getElem? (i := 156) rfl) rfl
theorem gw_2_157 : Cond.instantiable "java/lang/IllegalArgumentException" 6 ∈ GW := gw_2 (List.mem_of_getElem? (i := 157) rfl) rfl
theorem gw_2_159 : Cond.selects "java/lang/IllegalArgumentException" ⟨"java/lang/Throwable", "fillInStackTrace", "(I)Ljava/lang/Throwable;"⟩ ⟨"java/lang/Throwable", "fillInStackTrace", "(I)Ljava/lang/Throwable;"⟩ ∈ GW := gw_2 (List.mem_of_getElem? (i := 159) rfl) rfl
theorem gw_2_160 : Cond.lays "java/lang/IllegalArgumentException" "java/lang/Throwable" "cause" "Ljava/lang/Throwable;" ∈ GW := gw_2 (List.mem_of_getElem? (i := 160) rfl) rfl
theorem gw_2_161 : Cond.lays "java/lang/IllegalArgumentException" "java/lang/Throwable" "stackTrace" "[Ljava/lang/StackTraceElement;" ∈ GW := gw_2 (List.mem_of_getElem? (i := 161) rfl) rfl
theorem gw_2_162 : Cond.lays "java/lang/IllegalArgumentException" "java/lang/Throwable" "suppressedExceptions" "Ljava/util/List;" ∈ GW := gw_2 (List.mem_of_getElem? (i := 162) rfl) rfl
theorem gw_2_163 : Cond.lays "java/lang/IllegalArgumentException" "java/lang/Throwable" "detailMessage" "Ljava/lang/String;" ∈ GW := gw_2 (List.mem_of_getElem? (i := 163) rfl) rfl
theorem gw_2_164 : Cond.lays "java/lang/IllegalArgumentException" "java/lang/Throwable" "backtrace" "Ljava/lang/Object;" ∈ GW := gw_2 (List.mem_of_getElem? (i := 164) rfl) rfl
theorem gw_2_165 : Cond.methodLink "NightValley" 344 ⟨"java/lang/IllegalArgumentException", "<init>", "()V"⟩ ∈ GW := gw_2 (List.mem_of_getElem? (i := 165) rfl) rfl
theorem gw_2_166 : Cond.instanceMethod ⟨"java/lang/IllegalArgumentException", "<init>", "()V"⟩ ∈ GW := gw_2 (List.mem_of_getElem? (i := 166) rfl) rfl
theorem gw_2_167 : Cond.code ⟨"java/lang/IllegalArgumentException", "<init>", "()V"⟩ prog_17_method_1_code 1 (Option.none : Option FieldType) ∈ GW := gw_2 (List.mem_of_getElem? (i := 167) rfl) rfl
theorem gw_2_168 : Cond.methodLink "java/lang/IllegalArgumentException" 1 ⟨"java/lang/RuntimeException", "<init>", "()V"⟩ ∈ GW := gw_2 (List.mem_of_getElem? (i := 168) rfl) rfl
theorem gw_2_169 : Cond.lays "java/lang/IllegalArgumentException" "java/lang/Throwable" "depth" "I" ∈ GW := gw_2 (List.mem_of_getElem? (i := 169) rfl) rfl
theorem gw_2_170 : Cond.superclass "java/lang/IllegalArgumentException" "java/lang/RuntimeException" ∈ GW := gw_2 (List.mem_of_getElem? (i := 170) rfl) rfl
theorem gw_2_171 : Cond.methodLink "NightValleyLaw" 136 ⟨"NightValleyLaw", "feast", "(LNightValley;II[J)I"⟩ ∈ GW := gw_2 (List.mem_of_getElem? (i := 171) rfl) rfl
theorem gw_2_172 : Cond.static ⟨"NightValleyLaw", "feast", "(LNightValley;II[J)I"⟩ ∈ GW := gw_2 (List.mem_of_getElem? (i := 172) rfl) rfl
theorem gw_2_173 : Cond.codeWith ⟨"NightValleyLaw", "feast", "(LNightValley;II[J)I"⟩ method_6_code 5 (Option.some FieldType.int) [(0, 10, 13, 13), (0, 10, 17, 23)] ∈ GW := gw_2 (List.mem_of_getElem? (i := 173) rfl) rfl
theorem gw_2_174 : Cond.methodLink "NightValleyLaw" 25 ⟨"NightValley", "feast", "(II)I"⟩ ∈ GW := gw_2 (List.mem_of_getElem? (i := 174) rfl) rfl
theorem gw_2_175 : Cond.instanceMethod ⟨"NightValley", "feast", "(II)I"⟩ ∈ GW := gw_2 (List.mem_of_getElem? (i := 175) rfl) rfl
theorem gw_2_176 : Cond.selects "NightValley" ⟨"NightValley", "feast", "(II)I"⟩ ⟨"NightValley", "feast", "(II)I"⟩ ∈ GW := gw_2 (List.mem_of_getElem? (i := 176) rfl) rfl
theorem gw_2_177 : Cond.code ⟨"NightValley", "feast", "(II)I"⟩ prog_1_method_5_code 4 (Option.some FieldType.int) ∈ GW := gw_2 (List.mem_of_getElem? (i := 177) rfl) rfl
theorem gw_2_178 : Cond.methodLink "NightValley" 99 ⟨"NightValley$Zone", "celebrate", "(I)V"⟩ ∈ GW := gw_2 (List.mem_of_getElem? (i := 178) rfl) rfl
theorem gw_2_179 : Cond.instanceMethod ⟨"NightValley$Zone", "celebrate", "(I)V"⟩ ∈ GW := gw_2 (List.mem_of_getElem? (i := 179) rfl) rfl
theorem gw_2_180 : Cond.selects "NightValley$Zone" ⟨"NightValley$Zone", "celebrate", "(I)V"⟩ ⟨"NightValley$Zone", "celebrate", "(I)V"⟩ ∈ GW := gw_2 (List.mem_of_getElem? (i := 180) rfl) rfl
theorem gw_2_181 : Cond.code ⟨"NightValley$Zone", "celebrate", "(I)V"⟩ prog_11_method_2_code 2 (Option.none : Option FieldType) ∈ GW := gw_2 (List.mem_of_getElem? (i := 181) rfl) rfl
theorem gw_2_182 : Cond.methodLink "NightValleyLaw" 139 ⟨"NightValleyLaw", "air", "(LNightValley;I[J)I"⟩ ∈ GW := gw_2 (List.mem_of_getElem? (i := 182) rfl) rfl
theorem gw_2_183 : Cond.static ⟨"NightValleyLaw", "air", "(LNightValley;I[J)I"⟩ ∈ GW := gw_2 (List.mem_of_getElem? (i := 183) rfl) rfl
theorem gw_2_184 : Cond.codeWith ⟨"NightValleyLaw", "air", "(LNightValley;I[J)I"⟩ method_7_code 4 (Option.some FieldType.int) [(0, 9, 12, 23)] ∈ GW := gw_2 (List.mem_of_getElem? (i := 184) rfl) rfl
theorem gw_2_185 : Cond.methodLink "NightValleyLaw" 28 ⟨"NightValley", "air", "(I)I"⟩ ∈ GW := gw_2 (List.mem_of_getElem? (i := 185) rfl) rfl
theorem gw_2_186 : Cond.instanceMethod ⟨"NightValley", "air", "(I)I"⟩ ∈ GW := gw_2 (List.mem_of_getElem? (i := 186) rfl) rfl
theorem gw_2_187 : Cond.selects "NightValley" ⟨"NightValley", "air", "(I)I"⟩ ⟨"NightValley", "air", "(I)I"⟩ ∈ GW := gw_2 (List.mem_of_getElem? (i := 187) rfl) rfl
theorem gw_2_188 : Cond.code ⟨"NightValley", "air", "(I)I"⟩ prog_1_method_6_code 3 (Option.some FieldType.int) ∈ GW := gw_2 (List.mem_of_getElem? (i := 188) rfl) rfl
theorem gw_2_189 : Cond.methodLink "NightValleyLaw" 143 ⟨"NightValleyLaw", "pass", "(LNightValley;I[J)I"⟩ ∈ GW := gw_2 (List.mem_of_getElem? (i := 189) rfl) rfl
theorem gw_2_190 : Cond.static ⟨"NightValleyLaw", "pass", "(LNightValley;I[J)I"⟩ ∈ GW := gw_2 (List.mem_of_getElem? (i := 190) rfl) rfl
theorem gw_2_191 : Cond.codeWith ⟨"NightValleyLaw", "pass", "(LNightValley;I[J)I"⟩ method_8_code 4 (Option.some FieldType.int) [(0, 9, 12, 23), (0, 9, 15, 35)] ∈ GW := gw_2 (List.mem_of_getElem? (i := 191) rfl) rfl
theorem gw_2_192 : Cond.classLink "NightValleyLaw" 35 "java/lang/IllegalStateException" ∈ GW := gw_2 (List.mem_of_getElem? (i := 192) rfl) rfl
theorem gw_2_193 : Cond.methodLink "NightValleyLaw" 32 ⟨"NightValley", "pass", "(I)I"⟩ ∈ GW := gw_2 (List.mem_of_getElem? (i := 193) rfl) rfl
theorem gw_2_194 : Cond.instanceMethod ⟨"NightValley", "pass", "(I)I"⟩ ∈ GW := gw_2 (List.mem_of_getElem? (i := 194) rfl) rfl
theorem gw_2_195 : Cond.selects "NightValley" ⟨"NightValley", "pass", "(I)I"⟩ ⟨"NightValley", "pass", "(I)I"⟩ ∈ GW := gw_2 (List.mem_of_getElem? (i := 195) rfl) rfl
theorem gw_2_196 : Cond.code ⟨"NightValley", "pass", "(I)I"⟩ prog_1_method_7_code 3 (Option.some FieldType.int) ∈ GW := gw_2 (List.mem_of_getElem? (i := 196) rfl) rfl
theorem gw_2_197 : Cond.methodLink "NightValley" 111 ⟨"NightValley", "needState", "(Z)V"⟩ ∈ GW := gw_2 (List.mem_of_getElem? (i := 197) rfl) rfl
theorem gw_2_198 : Cond.static ⟨"NightValley", "needState", "(Z)V"⟩ ∈ GW := gw_2 (List.mem_of_getElem? (i := 198) rfl) rfl
theorem gw_2_199 : Cond.code ⟨"NightValley", "needState", "(Z)V"⟩ prog_1_method_36_code 1 (Option.none : Option FieldType) ∈ GW := gw_2 (List.mem_of_getElem? (i := 199) rfl) rfl
theorem gw_2_200 : Cond.classLink "NightValley" 345 "java/lang/IllegalStateException" ∈ GW := gw_2 (List.mem_of_getElem? (i := 200) rfl) rfl
theorem gw_2_201 : Cond.instantiable "java/lang/IllegalStateException" 6 ∈ GW := gw_2 (List.mem_of_getElem? (i := 201) rfl) rfl
theorem gw_2_203 : Cond.selects "java/lang/IllegalStateException" ⟨"java/lang/Throwable", "fillInStackTrace", "(I)Ljava/lang/Throwable;"⟩ ⟨"java/lang/Throwable", "fillInStackTrace", "(I)Ljava/lang/Throwable;"⟩ ∈ GW := gw_2 (List.mem_of_getElem? (i := 203) rfl) rfl
theorem gw_2_204 : Cond.lays "java/lang/IllegalStateException" "java/lang/Throwable" "cause" "Ljava/lang/Throwable;" ∈ GW := gw_2 (List.mem_of_getElem? (i := 204) rfl) rfl
theorem gw_2_205 : Cond.lays "java/lang/IllegalStateException" "java/lang/Throwable" "stackTrace" "[Ljava/lang/StackTraceElement;" ∈ GW := gw_2 (List.mem_of_getElem? (i := 205) rfl) rfl
theorem gw_2_206 : Cond.lays "java/lang/IllegalStateException" "java/lang/Throwable" "suppressedExceptions" "Ljava/util/List;" ∈ GW := gw_2 (List.mem_of_getElem? (i := 206) rfl) rfl
theorem gw_2_207 : Cond.lays "java/lang/IllegalStateException" "java/lang/Throwable" "detailMessage" "Ljava/lang/String;" ∈ GW := gw_2 (List.mem_of_getElem? (i := 207) rfl) rfl
theorem gw_2_208 : Cond.lays "java/lang/IllegalStateException" "java/lang/Throwable" "backtrace" "Ljava/lang/Object;" ∈ GW := gw_2 (List.mem_of_getElem? (i := 208) rfl) rfl
theorem gw_2_209 : Cond.methodLink "NightValley" 347 ⟨"java/lang/IllegalStateException", "<init>", "()V"⟩ ∈ GW := gw_2 (List.mem_of_getElem? (i := 209) rfl) rfl
theorem gw_2_210 : Cond.instanceMethod ⟨"java/lang/IllegalStateException", "<init>", "()V"⟩ ∈ GW := gw_2 (List.mem_of_getElem? (i := 210) rfl) rfl
theorem gw_2_211 : Cond.code ⟨"java/lang/IllegalStateException", "<init>", "()V"⟩ prog_18_method_1_code 1 (Option.none : Option FieldType) ∈ GW := gw_2 (List.mem_of_getElem? (i := 211) rfl) rfl
theorem gw_2_212 : Cond.methodLink "java/lang/IllegalStateException" 1 ⟨"java/lang/RuntimeException", "<init>", "()V"⟩ ∈ GW := gw_2 (List.mem_of_getElem? (i := 212) rfl) rfl
theorem gw_2_213 : Cond.lays "java/lang/IllegalStateException" "java/lang/Throwable" "depth" "I" ∈ GW := gw_2 (List.mem_of_getElem? (i := 213) rfl) rfl
theorem gw_2_214 : Cond.superclass "java/lang/IllegalStateException" "java/lang/RuntimeException" ∈ GW := gw_2 (List.mem_of_getElem? (i := 214) rfl) rfl
theorem gw_2_215 : Cond.methodLink "NightValley" 115 ⟨"NightValley", "ageLamps", "()V"⟩ ∈ GW := gw_2 (List.mem_of_getElem? (i := 215) rfl) rfl
theorem gw_2_217 : Cond.instanceMethod ⟨"NightValley", "ageLamps", "()V"⟩ ∈ GW := gw_2 (List.mem_of_getElem? (i := 217) rfl) rfl
theorem gw_2_218 : Cond.code ⟨"NightValley", "ageLamps", "()V"⟩ prog_1_method_45_code 3 (Option.none : Option FieldType) ∈ GW := gw_2 (List.mem_of_getElem? (i := 218) rfl) rfl
theorem gw_2_219 : Cond.classLink "NightValley" 134 "NightValley$Lamp" ∈ GW := gw_2 (List.mem_of_getElem? (i := 219) rfl) rfl
theorem gw_2_220 : Cond.methodLink "NightValley" 253 ⟨"NightValley", "isBurning", "(LNightValley$Lamp;)Z"⟩ ∈ GW := gw_2 (List.mem_of_getElem? (i := 220) rfl) rfl
theorem gw_2_222 : Cond.instanceMethod ⟨"NightValley", "isBurning", "(LNightValley$Lamp;)Z"⟩ ∈ GW := gw_2 (List.mem_of_getElem? (i := 222) rfl) rfl
theorem gw_2_223 : Cond.code ⟨"NightValley", "isBurning", "(LNightValley$Lamp;)Z"⟩ prog_1_method_46_code 4 (Option.some FieldType.boolean) ∈ GW := gw_2 (List.mem_of_getElem? (i := 223) rfl) rfl
theorem gw_2_224 : Cond.methodLink "NightValley" 351 ⟨"NightValley$Lamp", "hasHour", "(I)Z"⟩ ∈ GW := gw_2 (List.mem_of_getElem? (i := 224) rfl) rfl
theorem gw_2_225 : Cond.instanceMethod ⟨"NightValley$Lamp", "hasHour", "(I)Z"⟩ ∈ GW := gw_2 (List.mem_of_getElem? (i := 225) rfl) rfl
theorem gw_2_226 : Cond.selects "NightValley$Lamp" ⟨"NightValley$Lamp", "hasHour", "(I)Z"⟩ ⟨"NightValley$Lamp", "hasHour", "(I)Z"⟩ ∈ GW := gw_2 (List.mem_of_getElem? (i := 226) rfl) rfl
theorem gw_2_227 : Cond.code ⟨"NightValley$Lamp", "hasHour", "(I)Z"⟩ prog_4_method_2_code 2 (Option.some FieldType.boolean) ∈ GW := gw_2 (List.mem_of_getElem? (i := 227) rfl) rfl
theorem gw_2_228 : Cond.methodLink "NightValley" 354 ⟨"NightValley$Zone", "isOpenAt", "(I)Z"⟩ ∈ GW := gw_2 (List.mem_of_getElem? (i := 228) rfl) rfl
theorem gw_2_229 : Cond.instanceMethod ⟨"NightValley$Zone", "isOpenAt", "(I)Z"⟩ ∈ GW := gw_2 (List.mem_of_getElem? (i := 229) rfl) rfl
theorem gw_2_230 : Cond.selects "NightValley$Zone" ⟨"NightValley$Zone", "isOpenAt", "(I)Z"⟩ ⟨"NightValley$Zone", "isOpenAt", "(I)Z"⟩ ∈ GW := gw_2 (List.mem_of_getElem? (i := 230) rfl) rfl
theorem gw_2_231 : Cond.code ⟨"NightValley$Zone", "isOpenAt", "(I)Z"⟩ prog_11_method_4_code 2 (Option.some FieldType.boolean) ∈ GW := gw_2 (List.mem_of_getElem? (i := 231) rfl) rfl
theorem gw_2_232 : Cond.methodLink "NightValley" 357 ⟨"NightValley$Zone", "hasFeast", "(I)Z"⟩ ∈ GW := gw_2 (List.mem_of_getElem? (i := 232) rfl) rfl
theorem gw_2_233 : Cond.instanceMethod ⟨"NightValley$Zone", "hasFeast", "(I)Z"⟩ ∈ GW := gw_2 (List.mem_of_getElem? (i := 233) rfl) rfl
theorem gw_2_234 : Cond.selects "NightValley$Zone" ⟨"NightValley$Zone", "hasFeast", "(I)Z"⟩ ⟨"NightValley$Zone", "hasFeast", "(I)Z"⟩ ∈ GW := gw_2 (List.mem_of_getElem? (i := 234) rfl) rfl
theorem gw_2_235 : Cond.code ⟨"NightValley$Zone", "hasFeast", "(I)Z"⟩ prog_11_method_3_code 2 (Option.some FieldType.boolean) ∈ GW := gw_2 (List.mem_of_getElem? (i := 235) rfl) rfl
theorem gw_2_236 : Cond.methodLink "NightValleyLaw" 146 ⟨"NightValleyLaw", "village", "(LNightValley;II[J)I"⟩ ∈ GW := gw_2 (List.mem_of_getElem? (i := 236) rfl) rfl
theorem gw_2_237 : Cond.static ⟨"NightValleyLaw", "village", "(LNightValley;II[J)I"⟩ ∈ GW := gw_2 (List.mem_of_getElem? (i := 237) rfl) rfl
theorem gw_2_238 : Cond.codeWith ⟨"NightValleyLaw", "village", "(LNightValley;II[J)I"⟩ method_9_code 5 (Option.some FieldType.int) [(0, 10, 13, 23), (0, 10, 17, 35)] ∈ GW := gw_2 (List.mem_of_getElem? (i := 238) rfl) rfl
theorem gw_2_239 : Cond.methodLink "NightValleyLaw" 37 ⟨"NightValley", "village", "(II)I"⟩ ∈ GW := gw_2 (List.mem_of_getElem? (i := 239) rfl) rfl
theorem gw_3_0 : Cond.instanceMethod ⟨"NightValley", "village", "(II)I"⟩ ∈ GW := gw_3 (List.mem_of_getElem? (i := 0) rfl) rfl
theorem gw_3_1 : Cond.selects "NightValley" ⟨"NightValley", "village", "(II)I"⟩ ⟨"NightValley", "village", "(II)I"⟩ ∈ GW := gw_3 (List.mem_of_getElem? (i := 1) rfl) rfl
theorem gw_3_2 : Cond.code ⟨"NightValley", "village", "(II)I"⟩ prog_1_method_8_code 3 (Option.some FieldType.int) ∈ GW := gw_3 (List.mem_of_getElem? (i := 2) rfl) rfl
theorem gw_3_3 : Cond.classLink "NightValley" 122 "NightValley$Village" ∈ GW := gw_3 (List.mem_of_getElem? (i := 3) rfl) rfl
theorem gw_3_4 : Cond.instantiable "NightValley$Village" 5 ∈ GW := gw_3 (List.mem_of_getElem? (i := 4) rfl) rfl
theorem gw_3_5 : Cond.methodLink "NightValley" 124 ⟨"NightValley$Village", "<init>", "(II)V"⟩ ∈ GW := gw_3 (List.mem_of_getElem? (i := 5) rfl) rfl
theorem gw_3_6 : Cond.instanceMethod ⟨"NightValley$Village", "<init>", "(II)V"⟩ ∈ GW := gw_3 (List.mem_of_getElem? (i := 6) rfl) rfl
theorem gw_3_7 : Cond.code ⟨"NightValley$Village", "<init>", "(II)V"⟩ prog_9_method_1_code 3 (Option.none : Option FieldType) ∈ GW := gw_3 (List.mem_of_getElem? (i := 7) rfl) rfl
theorem gw_3_8 : Cond.methodLink "NightValley$Village" 3 ⟨"java/lang/Object", "<init>", "()V"⟩ ∈ GW := gw_3 (List.mem_of_getElem? (i := 8) rfl) rfl
theorem gw_3_9 : Cond.fieldLink "NightValley$Village" 9 "NightValley$Village" "households" "I" ∈ GW := gw_3 (List.mem_of_getElem? (i := 9) rfl) rfl
theorem gw_3_10 : Cond.fieldLink "NightValley" 175 "NightValley$Village" "households" "I" ∈ GW := gw_3 (List.mem_of_getElem? (i := 10) rfl) rfl
theorem gw_3_11 : Cond.fieldLink "NightValley$Village" 15 "NightValley$Village" "coins" "I" ∈ GW := gw_3 (List.mem_of_getElem? (i := 11) rfl) rfl
theorem gw_3_12 : Cond.fieldLink "NightValley" 185 "NightValley$Village" "coins" "I" ∈ GW := gw_3 (List.mem_of_getElem? (i := 12) rfl) rfl
theorem gw_3_13 : Cond.fieldLink "NightValley$Village" 18 "NightValley$Village" "fined" "I" ∈ GW := gw_3 (List.mem_of_getElem? (i := 13) rfl) rfl
theorem gw_3_14 : Cond.fieldLink "NightValley" 267 "NightValley$Village" "fined" "I" ∈ GW := gw_3 (List.mem_of_getElem? (i := 14) rfl) rfl
theorem gw_3_15 : Cond.fieldLink "NightValley" 131 "NightValley$Village" "lampCount" "I" ∈ GW := gw_3 (List.mem_of_getElem? (i := 15) rfl) rfl
theorem gw_3_16 : Cond.fieldLink "NightValley" 156 "NightValley$Village" "outageEnd" "I" ∈ GW := gw_3 (List.mem_of_getElem? (i := 16) rfl) rfl
theorem gw_3_17 : Cond.laysFinal "NightValley$Village" "NightValley$Village" "households" "I" ∈ GW := gw_3 (List.mem_of_getElem? (i := 17) rfl) rfl
theorem gw_3_18 : Cond.soleField "NightValley$Village" "households" ∈ GW := gw_3 (List.mem_of_getElem? (i := 18) rfl) rfl
theorem gw_3_19 : Cond.lays "NightValley$Village" "NightValley$Village" "coins" "I" ∈ GW := gw_3 (List.mem_of_getElem? (i := 19) rfl) rfl
theorem gw_3_20 : Cond.soleField "NightValley$Village" "coins" ∈ GW := gw_3 (List.mem_of_getElem? (i := 20) rfl) rfl
theorem gw_3_21 : Cond.lays "NightValley$Village" "NightValley$Village" "fined" "I" ∈ GW := gw_3 (List.mem_of_getElem? (i := 21) rfl) rfl
theorem gw_3_22 : Cond.soleField "NightValley$Village" "fined" ∈ GW := gw_3 (List.mem_of_getElem? (i := 22) rfl) rfl
theorem gw_3_23 : Cond.lays "NightValley$Village" "NightValley$Village" "lampCount" "I" ∈ GW := gw_3 (List.mem_of_getElem? (i := 23) rfl) rfl
theorem gw_3_24 : Cond.soleField "NightValley$Village" "lampCount" ∈ GW := gw_3 (List.mem_of_getElem? (i := 24) rfl) rfl
theorem gw_3_25 : Cond.lays "NightValley$Village" "NightValley$Village" "outageEnd" "I" ∈ GW := gw_3 (List.mem_of_getElem? (i := 25) rfl) rfl
theorem gw_3_26 : Cond.soleField "NightValley$Village" "outageEnd" ∈ GW := gw_3 (List.mem_of_getElem? (i := 26) rfl) rfl
theorem gw_3_27 : Cond.superclass "NightValley$Village" "java/lang/Object" ∈ GW := gw_3 (List.mem_of_getElem? (i := 27) rfl) rfl
theorem gw_3_28 : Cond.methodLink "NightValleyLaw" 149 ⟨"NightValleyLaw", "lamp", "(LNightValley;IIIII[J)I"⟩ ∈ GW := gw_3 (List.mem_of_getElem? (i := 28) rfl) rfl
theorem gw_3_29 : Cond.static ⟨"NightValleyLaw", "lamp", "(LNightValley;IIIII[J)I"⟩ ∈ GW := gw_3 (List.mem_of_getElem? (i := 29) rfl) rfl
theorem gw_3_30 : Cond.codeWith ⟨"NightValleyLaw", "lamp", "(LNightValley;IIIII[J)I"⟩ method_10_code 8 (Option.some FieldType.int) [(0, 16, 19, 13), (0, 16, 23, 23), (0, 16, 27, 35)] ∈ GW := gw_3 (List.mem_of_getElem? (i := 30) rfl) rfl
theorem gw_3_31 : Cond.methodLink "NightValleyLaw" 40 ⟨"NightValley", "lamp", "(IIIII)I"⟩ ∈ GW := gw_3 (List.mem_of_getElem? (i := 31) rfl) rfl
theorem gw_3_32 : Cond.instanceMethod ⟨"NightValley", "lamp", "(IIIII)I"⟩ ∈ GW := gw_3 (List.mem_of_getElem? (i := 32) rfl) rfl
theorem gw_3_33 : Cond.selects "NightValley" ⟨"NightValley", "lamp", "(IIIII)I"⟩ ⟨"NightValley", "lamp", "(IIIII)I"⟩ ∈ GW := gw_3 (List.mem_of_getElem? (i := 33) rfl) rfl
theorem gw_3_34 : Cond.code ⟨"NightValley", "lamp", "(IIIII)I"⟩ prog_1_method_9_code 8 (Option.some FieldType.int) ∈ GW := gw_3 (List.mem_of_getElem? (i := 34) rfl) rfl
theorem gw_3_35 : Cond.methodLink "NightValley" 127 ⟨"NightValley", "villageOf", "(I)LNightValley$Village;"⟩ ∈ GW := gw_3 (List.mem_of_getElem? (i := 35) rfl) rfl
theorem gw_3_37 : Cond.instanceMethod ⟨"NightValley", "villageOf", "(I)LNightValley$Village;"⟩ ∈ GW := gw_3 (List.mem_of_getElem? (i := 37) rfl) rfl
theorem gw_3_38 : Cond.code ⟨"NightValley", "villageOf", "(I)LNightValley$Village;"⟩ prog_1_method_39_code 2 (Option.some (FieldType.object "NightValley$Village")) ∈ GW := gw_3 (List.mem_of_getElem? (i := 38) rfl) rfl
theorem gw_3_39 : Cond.instantiable "NightValley$Lamp" 12 ∈ GW := gw_3 (List.mem_of_getElem? (i := 39) rfl) rfl
theorem gw_3_40 : Cond.methodLink "NightValley" 136 ⟨"NightValley$Lamp", "<init>", "(LNightValley$Village;LNightValley$Place;III)V"⟩ ∈ GW := gw_3 (List.mem_of_getElem? (i := 40) rfl) rfl
theorem gw_3_41 : Cond.instanceMethod ⟨"NightValley$Lamp", "<init>", "(LNightValley$Village;LNightValley$Place;III)V"⟩ ∈ GW := gw_3 (List.mem_of_getElem? (i := 41) rfl) rfl
theorem gw_3_42 : Cond.code ⟨"NightValley$Lamp", "<init>", "(LNightValley$Village;LNightValley$Place;III)V"⟩ prog_4_method_1_code 6 (Option.none : Option FieldType) ∈ GW := gw_3 (List.mem_of_getElem? (i := 42) rfl) rfl
theorem gw_3_43 : Cond.methodLink "NightValley$Lamp" 3 ⟨"java/lang/Object", "<init>", "()V"⟩ ∈ GW := gw_3 (List.mem_of_getElem? (i := 43) rfl) rfl
theorem gw_3_44 : Cond.fieldLink "NightValley$Lamp" 18 "NightValley$Lamp" "village" "LNightValley$Village;" ∈ GW := gw_3 (List.mem_of_getElem? (i := 44) rfl) rfl
theorem gw_3_45 : Cond.fieldLink "NightValley" 165 "NightValley$Lamp" "village" "LNightValley$Village;" ∈ GW := gw_3 (List.mem_of_getElem? (i := 45) rfl) rfl
theorem gw_3_46 : Cond.fieldLink "NightValley$Lamp" 22 "NightValley$Lamp" "place" "LNightValley$Place;" ∈ GW := gw_3 (List.mem_of_getElem? (i := 46) rfl) rfl
theorem gw_3_47 : Cond.fieldLink "NightValley" 195 "NightValley$Lamp" "place" "LNightValley$Place;" ∈ GW := gw_3 (List.mem_of_getElem? (i := 47) rfl) rfl
theorem gw_3_48 : Cond.fieldLink "NightValley$Lamp" 26 "NightValley$Lamp" "flux" "I" ∈ GW := gw_3 (List.mem_of_getElem? (i := 48) rfl) rfl
theorem gw_3_49 : Cond.fieldLink "NightValley$Lamp" 29 "NightValley$Lamp" "colour" "I" ∈ GW := gw_3 (List.mem_of_getElem? (i := 49) rfl) rfl
theorem gw_3_50 : Cond.fieldLink "NightValley$Lamp" 32 "NightValley$Lamp" "shield" "I" ∈ GW := gw_3 (List.mem_of_getElem? (i := 50) rfl) rfl
theorem gw_3_51 : Cond.fieldLink "NightValley" 169 "NightValley$Lamp" "shield" "I" ∈ GW := gw_3 (List.mem_of_getElem? (i := 51) rfl) rfl
theorem gw_3_52 : Cond.fieldLink "NightValley$Lamp" 44 "NightValley$Lamp" "dim" "I" ∈ GW := gw_3 (List.mem_of_getElem? (i := 52) rfl) rfl
theorem gw_3_53 : Cond.fieldLink "NightValley" 172 "NightValley$Lamp" "dim" "I" ∈ GW := gw_3 (List.mem_of_getElem? (i := 53) rfl) rfl
theorem gw_3_54 : Cond.fieldLink "NightValley$Lamp" 9 "NightValley$Lamp" "from" "I" ∈ GW := gw_3 (List.mem_of_getElem? (i := 54) rfl) rfl
theorem gw_3_55 : Cond.fieldLink "NightValley" 147 "NightValley$Lamp" "from" "I" ∈ GW := gw_3 (List.mem_of_getElem? (i := 55) rfl) rfl
theorem gw_3_56 : Cond.fieldLink "NightValley$Lamp" 15 "NightValley$Lamp" "to" "I" ∈ GW := gw_3 (List.mem_of_getElem? (i := 56) rfl) rfl
theorem gw_3_57 : Cond.fieldLink "NightValley" 150 "NightValley$Lamp" "to" "I" ∈ GW := gw_3 (List.mem_of_getElem? (i := 57) rfl) rfl
theorem gw_3_58 : Cond.fieldLink "NightValley$Lamp" 51 "NightValley$Lamp" "exempt" "Z" ∈ GW := gw_3 (List.mem_of_getElem? (i := 58) rfl) rfl
theorem gw_3_59 : Cond.fieldLink "NightValley" 153 "NightValley$Lamp" "exempt" "Z" ∈ GW := gw_3 (List.mem_of_getElem? (i := 59) rfl) rfl
theorem gw_3_60 : Cond.fieldLink "NightValley$Lamp" 35 "NightValley$Lamp" "age" "I" ∈ GW := gw_3 (List.mem_of_getElem? (i := 60) rfl) rfl
theorem gw_3_61 : Cond.fieldLink "NightValley" 260 "NightValley$Lamp" "age" "I" ∈ GW := gw_3 (List.mem_of_getElem? (i := 61) rfl) rfl
theorem gw_3_62 : Cond.fieldLink "NightValley$Lamp" 69 "NightValley$Lamp" "boundEnd" "I" ∈ GW := gw_3 (List.mem_of_getElem? (i := 62) rfl) rfl
theorem gw_3_63 : Cond.fieldLink "NightValley" 203 "NightValley$Lamp" "nextFine" "I" ∈ GW := gw_3 (List.mem_of_getElem? (i := 63) rfl) rfl
theorem gw_3_64 : Cond.laysFinal "NightValley$Lamp" "NightValley$Lamp" "village" "LNightValley$Village;" ∈ GW := gw_3 (List.mem_of_getElem? (i := 64) rfl) rfl
theorem gw_3_65 : Cond.soleField "NightValley$Lamp" "village" ∈ GW := gw_3 (List.mem_of_getElem? (i := 65) rfl) rfl
theorem gw_3_66 : Cond.laysFinal "NightValley$Lamp" "NightValley$Lamp" "place" "LNightValley$Place;" ∈ GW := gw_3 (List.mem_of_getElem? (i := 66) rfl) rfl
theorem gw_3_67 : Cond.soleField "NightValley$Lamp" "place" ∈ GW := gw_3 (List.mem_of_getElem? (i := 67) rfl) rfl
theorem gw_3_68 : Cond.laysFinal "NightValley$Lamp" "NightValley$Lamp" "flux" "I" ∈ GW := gw_3 (List.mem_of_getElem? (i := 68) rfl) rfl
theorem gw_3_69 : Cond.soleField "NightValley$Lamp" "flux" ∈ GW := gw_3 (List.mem_of_getElem? (i := 69) rfl) rfl
theorem gw_3_70 : Cond.laysFinal "NightValley$Lamp" "NightValley$Lamp" "colour" "I" ∈ GW := gw_3 (List.mem_of_getElem? (i := 70) rfl) rfl
theorem gw_3_71 : Cond.soleField "NightValley$Lamp" "colour" ∈ GW := gw_3 (List.mem_of_getElem? (i := 71) rfl) rfl
theorem gw_3_72 : Cond.lays "NightValley$Lamp" "NightValley$Lamp" "shield" "I" ∈ GW := gw_3 (List.mem_of_getElem? (i := 72) rfl) rfl
theorem gw_3_73 : Cond.soleField "NightValley$Lamp" "shield" ∈ GW := gw_3 (List.mem_of_getElem? (i := 73) rfl) rfl
theorem gw_3_74 : Cond.lays "NightValley$Lamp" "NightValley$Lamp" "dim" "I" ∈ GW := gw_3 (List.mem_of_getElem? (i := 74) rfl) rfl
theorem gw_3_75 : Cond.soleField "NightValley$Lamp" "dim" ∈ GW := gw_3 (List.mem_of_getElem? (i := 75) rfl) rfl
theorem gw_3_76 : Cond.lays "NightValley$Lamp" "NightValley$Lamp" "from" "I" ∈ GW := gw_3 (List.mem_of_getElem? (i := 76) rfl) rfl
theorem gw_3_77 : Cond.soleField "NightValley$Lamp" "from" ∈ GW := gw_3 (List.mem_of_getElem? (i := 77) rfl) rfl
theorem gw_3_78 : Cond.lays "NightValley$Lamp" "NightValley$Lamp" "to" "I" ∈ GW := gw_3 (List.mem_of_getElem? (i := 78) rfl) rfl
theorem gw_3_79 : Cond.soleField "NightValley$Lamp" "to" ∈ GW := gw_3 (List.mem_of_getElem? (i := 79) rfl) rfl
theorem gw_3_80 : Cond.lays "NightValley$Lamp" "NightValley$Lamp" "exempt" "Z" ∈ GW := gw_3 (List.mem_of_getElem? (i := 80) rfl) rfl
theorem gw_3_81 : Cond.soleField "NightValley$Lamp" "exempt" ∈ GW := gw_3 (List.mem_of_getElem? (i := 81) rfl) rfl
theorem gw_3_82 : Cond.lays "NightValley$Lamp" "NightValley$Lamp" "age" "I" ∈ GW := gw_3 (List.mem_of_getElem? (i := 82) rfl) rfl
theorem gw_3_83 : Cond.soleField "NightValley$Lamp" "age" ∈ GW := gw_3 (List.mem_of_getElem? (i := 83) rfl) rfl
theorem gw_3_84 : Cond.lays "NightValley$Lamp" "NightValley$Lamp" "boundEnd" "I" ∈ GW := gw_3 (List.mem_of_getElem? (i := 84) rfl) rfl
theorem gw_3_85 : Cond.soleField "NightValley$Lamp" "boundEnd" ∈ GW := gw_3 (List.mem_of_getElem? (i := 85) rfl) rfl
theorem gw_3_86 : Cond.lays "NightValley$Lamp" "NightValley$Lamp" "nextFine" "I" ∈ GW := gw_3 (List.mem_of_getElem? (i := 86) rfl) rfl
theorem gw_3_87 : Cond.soleField "NightValley$Lamp" "nextFine" ∈ GW := gw_3 (List.mem_of_getElem? (i := 87) rfl) rfl
theorem gw_3_88 : Cond.superclass "NightValley$Lamp" "java/lang/Object" ∈ GW := gw_3 (List.mem_of_getElem? (i := 88) rfl) rfl
theorem gw_3_89 : Cond.methodLink "NightValleyLaw" 153 ⟨"NightValleyLaw", "hours", "(LNightValley;III)I"⟩ ∈ GW := gw_3 (List.mem_of_getElem? (i := 89) rfl) rfl
theorem gw_3_90 : Cond.static ⟨"NightValleyLaw", "hours", "(LNightValley;III)I"⟩ ∈ GW := gw_3 (List.mem_of_getElem? (i := 90) rfl) rfl
theorem gw_3_91 : Cond.codeWith ⟨"NightValleyLaw", "hours", "(LNightValley;III)I"⟩ method_11_code 5 (Option.some FieldType.int) [(0, 7, 10, 13), (0, 7, 14, 23), (0, 7, 18, 35)] ∈ GW := gw_3 (List.mem_of_getElem? (i := 91) rfl) rfl
theorem gw_3_92 : Cond.methodLink "NightValleyLaw" 44 ⟨"NightValley", "hours", "(III)V"⟩ ∈ GW := gw_3 (List.mem_of_getElem? (i := 92) rfl) rfl
theorem gw_3_93 : Cond.instanceMethod ⟨"NightValley", "hours", "(III)V"⟩ ∈ GW := gw_3 (List.mem_of_getElem? (i := 93) rfl) rfl
theorem gw_3_94 : Cond.selects "NightValley" ⟨"NightValley", "hours", "(III)V"⟩ ⟨"NightValley", "hours", "(III)V"⟩ ∈ GW := gw_3 (List.mem_of_getElem? (i := 94) rfl) rfl
theorem gw_3_95 : Cond.code ⟨"NightValley", "hours", "(III)V"⟩ prog_1_method_10_code 5 (Option.none : Option FieldType) ∈ GW := gw_3 (List.mem_of_getElem? (i := 95) rfl) rfl
theorem gw_3_96 : Cond.methodLink "NightValley" 139 ⟨"NightValley", "lampOf", "(I)LNightValley$Lamp;"⟩ ∈ GW := gw_3 (List.mem_of_getElem? (i := 96) rfl) rfl
theorem gw_3_98 : Cond.instanceMethod ⟨"NightValley", "lampOf", "(I)LNightValley$Lamp;"⟩ ∈ GW := gw_3 (List.mem_of_getElem? (i := 98) rfl) rfl
theorem gw_3_99 : Cond.code ⟨"NightValley", "lampOf", "(I)LNightValley$Lamp;"⟩ prog_1_method_40_code 2 (Option.some (FieldType.object "NightValley$Lamp")) ∈ GW := gw_3 (List.mem_of_getElem? (i := 99) rfl) rfl
theorem gw_3_100 : Cond.methodLink "NightValley" 143 ⟨"NightValley$Lamp", "boundHours", "(I)I"⟩ ∈ GW := gw_3 (List.mem_of_getElem? (i := 100) rfl) rfl
theorem gw_3_101 : Cond.instanceMethod ⟨"NightValley$Lamp", "boundHours", "(I)I"⟩ ∈ GW := gw_3 (List.mem_of_getElem? (i := 101) rfl) rfl
theorem gw_3_102 : Cond.selects "NightValley$Lamp" ⟨"NightValley$Lamp", "boundHours", "(I)I"⟩ ⟨"NightValley$Lamp", "boundHours", "(I)I"⟩ ∈ GW := gw_3 (List.mem_of_getElem? (i := 102) rfl) rfl
theorem gw_3_103 : Cond.code ⟨"NightValley$Lamp", "boundHours", "(I)I"⟩ prog_4_method_6_code 2 (Option.some FieldType.int) ∈ GW := gw_3 (List.mem_of_getElem? (i := 103) rfl) rfl
theorem gw_3_104 : Cond.methodLink "NightValley$Lamp" 72 ⟨"java/lang/Math", "max", "(II)I"⟩ ∈ GW := gw_3 (List.mem_of_getElem? (i := 104) rfl) rfl
theorem gw_3_105 : Cond.methodLink "NightValleyLaw" 157 ⟨"NightValleyLaw", "exempt", "(LNightValley;IZ[J)I"⟩ ∈ GW := gw_3 (List.mem_of_getElem? (i := 105) rfl) rfl
theorem gw_3_106 : Cond.static ⟨"NightValleyLaw", "exempt", "(LNightValley;IZ[J)I"⟩ ∈ GW := gw_3 (List.mem_of_getElem? (i := 106) rfl) rfl
theorem gw_3_107 : Cond.codeWith ⟨"NightValleyLaw", "exempt", "(LNightValley;IZ[J)I"⟩ method_12_code 5 (Option.some FieldType.int) [(0, 17, 20, 13)] ∈ GW := gw_3 (List.mem_of_getElem? (i := 107) rfl) rfl
theorem gw_3_108 : Cond.methodLink "NightValleyLaw" 48 ⟨"NightValley", "exempt", "(IZ)Z"⟩ ∈ GW := gw_3 (List.mem_of_getElem? (i := 108) rfl) rfl
theorem gw_3_109 : Cond.instanceMethod ⟨"NightValley", "exempt", "(IZ)Z"⟩ ∈ GW := gw_3 (List.mem_of_getElem? (i := 109) rfl) rfl
theorem gw_3_110 : Cond.selects "NightValley" ⟨"NightValley", "exempt", "(IZ)Z"⟩ ⟨"NightValley", "exempt", "(IZ)Z"⟩ ∈ GW := gw_3 (List.mem_of_getElem? (i := 110) rfl) rfl
theorem gw_3_111 : Cond.code ⟨"NightValley", "exempt", "(IZ)Z"⟩ prog_1_method_11_code 5 (Option.some FieldType.boolean) ∈ GW := gw_3 (List.mem_of_getElem? (i := 111) rfl) rfl
theorem gw_3_112 : Cond.methodLink "NightValleyLaw" 160 ⟨"NightValleyLaw", "outage", "(LNightValley;II[J)I"⟩ ∈ GW := gw_3 (List.mem_of_getElem? (i := 112) rfl) rfl
theorem gw_3_113 : Cond.static ⟨"NightValleyLaw", "outage", "(LNightValley;II[J)I"⟩ ∈ GW := gw_3 (List.mem_of_getElem? (i := 113) rfl) rfl
theorem gw_3_114 : Cond.codeWith ⟨"NightValleyLaw", "outage", "(LNightValley;II[J)I"⟩ method_13_code 5 (Option.some FieldType.int) [(0, 10, 13, 13), (0, 10, 17, 23)] ∈ GW := gw_3 (List.mem_of_getElem? (i := 114) rfl) rfl
theorem gw_3_115 : Cond.methodLink "NightValleyLaw" 51 ⟨"NightValley", "outage", "(II)I"⟩ ∈ GW := gw_3 (List.mem_of_getElem? (i := 115) rfl) rfl
theorem gw_3_116 : Cond.instanceMethod ⟨"NightValley", "outage", "(II)I"⟩ ∈ GW := gw_3 (List.mem_of_getElem? (i := 116) rfl) rfl
theorem gw_3_117 : Cond.selects "NightValley" ⟨"NightValley", "outage", "(II)I"⟩ ⟨"NightValley", "outage", "(II)I"⟩ ∈ GW := gw_3 (List.mem_of_getElem? (i := 117) rfl) rfl
theorem gw_3_118 : Cond.code ⟨"NightValley", "outage", "(II)I"⟩ prog_1_method_12_code 5 (Option.some FieldType.int) ∈ GW := gw_3 (List.mem_of_getElem? (i := 118) rfl) rfl
theorem gw_3_119 : Cond.methodLink "NightValley" 159 ⟨"java/lang/Math", "max", "(II)I"⟩ ∈ GW := gw_3 (List.mem_of_getElem? (i := 119) rfl) rfl
theorem gw_3_120 : Cond.methodLink "NightValleyLaw" 163 ⟨"NightValleyLaw", "vote", "(LNightValley;IIIII[J)I"⟩ ∈ GW := gw_3 (List.mem_of_getElem? (i := 120) rfl) rfl
theorem gw_3_121 : Cond.static ⟨"NightValleyLaw", "vote", "(LNightValley;IIIII[J)I"⟩ ∈ GW := gw_3 (List.mem_of_getElem? (i := 121) rfl) rfl
theorem gw_3_122 : Cond.codeWith ⟨"NightValleyLaw", "vote", "(LNightValley;IIIII[J)I"⟩ method_14_code 8 (Option.some FieldType.int) [(0, 16, 19, 13), (0, 16, 23, 23), (0, 16, 27, 35)] ∈ GW := gw_3 (List.mem_of_getElem? (i := 122) rfl) rfl
theorem gw_3_123 : Cond.methodLink "NightValleyLaw" 54 ⟨"NightValley", "vote", "(IIIII)I"⟩ ∈ GW := gw_3 (List.mem_of_getElem? (i := 123) rfl) rfl
theorem gw_3_124 : Cond.instanceMethod ⟨"NightValley", "vote", "(IIIII)I"⟩ ∈ GW := gw_3 (List.mem_of_getElem? (i := 124) rfl) rfl
theorem gw_3_125 : Cond.selects "NightValley" ⟨"NightValley", "vote", "(IIIII)I"⟩ ⟨"NightValley", "vote", "(IIIII)I"⟩ ∈ GW := gw_3 (List.mem_of_getElem? (i := 125) rfl) rfl
theorem gw_3_126 : Cond.code ⟨"NightValley", "vote", "(IIIII)I"⟩ prog_1_method_13_code 10 (Option.some FieldType.int) ∈ GW := gw_3 (List.mem_of_getElem? (i := 126) rfl) rfl
theorem gw_3_127 : Cond.methodLink "NightValley" 178 ⟨"NightValley$Lamp", "refitCost", "(II)I"⟩ ∈ GW := gw_3 (List.mem_of_getElem? (i := 127) rfl) rfl
theorem gw_3_128 : Cond.instanceMethod ⟨"NightValley$Lamp", "refitCost", "(II)I"⟩ ∈ GW := gw_3 (List.mem_of_getElem? (i := 128) rfl) rfl
theorem gw_3_129 : Cond.selects "NightValley$Lamp" ⟨"NightValley$Lamp", "refitCost", "(II)I"⟩ ⟨"NightValley$Lamp", "refitCost", "(II)I"⟩ ∈ GW := gw_3 (List.mem_of_getElem? (i := 129) rfl) rfl
theorem gw_3_130 : Cond.code ⟨"NightValley$Lamp", "refitCost", "(II)I"⟩ prog_4_method_7_code 3 (Option.some FieldType.int) ∈ GW := gw_3 (List.mem_of_getElem? (i := 130) rfl) rfl
theorem gw_3_131 : Cond.methodLink "NightValley" 181 ⟨"NightValley$Village", "agrees", "(II)Z"⟩ ∈ GW := gw_3 (List.mem_of_getElem? (i := 131) rfl) rfl
theorem gw_3_132 : Cond.instanceMethod ⟨"NightValley$Village", "agrees", "(II)Z"⟩ ∈ GW := gw_3 (List.mem_of_getElem? (i := 132) rfl) rfl
theorem gw_3_133 : Cond.selects "NightValley$Village" ⟨"NightValley$Village", "agrees", "(II)Z"⟩ ⟨"NightValley$Village", "agrees", "(II)Z"⟩ ∈ GW := gw_3 (List.mem_of_getElem? (i := 133) rfl) rfl
theorem gw_3_134 : Cond.code ⟨"NightValley$Village", "agrees", "(II)Z"⟩ prog_9_method_2_code 3 (Option.some FieldType.boolean) ∈ GW := gw_3 (List.mem_of_getElem? (i := 134) rfl) rfl
theorem gw_3_135 : Cond.methodLink "NightValley" 188 ⟨"NightValley$Lamp", "refit", "(III)V"⟩ ∈ GW := gw_3 (List.mem_of_getElem? (i := 135) rfl) rfl
theorem gw_3_136 : Cond.instanceMethod ⟨"NightValley$Lamp", "refit", "(III)V"⟩ ∈ GW := gw_3 (List.mem_of_getElem? (i := 136) rfl) rfl
theorem gw_3_137 : Cond.selects "NightValley$Lamp" ⟨"NightValley$Lamp", "refit", "(III)V"⟩ ⟨"NightValley$Lamp", "refit", "(III)V"⟩ ∈ GW := gw_3 (List.mem_of_getElem? (i := 137) rfl) rfl
theorem gw_3_138 : Cond.code ⟨"NightValley$Lamp", "refit", "(III)V"⟩ prog_4_method_8_code 4 (Option.none : Option FieldType) ∈ GW := gw_3 (List.mem_of_getElem? (i := 138) rfl) rfl
theorem gw_3_139 : Cond.methodLink "NightValleyLaw" 166 ⟨"NightValleyLaw", "inspect", "(LNightValley;I[J)I"⟩ ∈ GW := gw_3 (List.mem_of_getElem? (i := 139) rfl) rfl
theorem gw_3_140 : Cond.static ⟨"NightValleyLaw", "inspect", "(LNightValley;I[J)I"⟩ ∈ GW := gw_3 (List.mem_of_getElem? (i := 140) rfl) rfl
theorem gw_3_141 : Cond.codeWith ⟨"NightValleyLaw", "inspect", "(LNightValley;I[J)I"⟩ method_15_code 4 (Option.some FieldType.int) [(0, 9, 12, 13)] ∈ GW := gw_3 (List.mem_of_getElem? (i := 141) rfl) rfl
theorem gw_3_142 : Cond.methodLink "NightValleyLaw" 57 ⟨"NightValley", "inspect", "(I)I"⟩ ∈ GW := gw_3 (List.mem_of_getElem? (i := 142) rfl) rfl
theorem gw_3_143 : Cond.instanceMethod ⟨"NightValley", "inspect", "(I)I"⟩ ∈ GW := gw_3 (List.mem_of_getElem? (i := 143) rfl) rfl
theorem gw_3_144 : Cond.selects "NightValley" ⟨"NightValley", "inspect", "(I)I"⟩ ⟨"NightValley", "inspect", "(I)I"⟩ ∈ GW := gw_3 (List.mem_of_getElem? (i := 144) rfl) rfl
theorem gw_3_145 : Cond.code ⟨"NightValley", "inspect", "(I)I"⟩ prog_1_method_14_code 6 (Option.some FieldType.int) ∈ GW := gw_3 (List.mem_of_getElem? (i := 145) rfl) rfl
theorem gw_3_146 : Cond.methodLink "NightValley" 199 ⟨"NightValley$Lamp", "isUnlawful", "()Z"⟩ ∈ GW := gw_3 (List.mem_of_getElem? (i := 146) rfl) rfl
theorem gw_3_147 : Cond.instanceMethod ⟨"NightValley$Lamp", "isUnlawful", "()Z"⟩ ∈ GW := gw_3 (List.mem_of_getElem? (i := 147) rfl) rfl
theorem gw_3_148 : Cond.selects "NightValley$Lamp" ⟨"NightValley$Lamp", "isUnlawful", "()Z"⟩ ⟨"NightValley$Lamp", "isUnlawful", "()Z"⟩ ∈ GW := gw_3 (List.mem_of_getElem? (i := 148) rfl) rfl
theorem gw_3_149 : Cond.code ⟨"NightValley$Lamp", "isUnlawful", "()Z"⟩ prog_4_method_5_code 1 (Option.some FieldType.boolean) ∈ GW := gw_3 (List.mem_of_getElem? (i := 149) rfl) rfl
theorem gw_3_150 : Cond.methodLink "NightValley" 206 ⟨"NightValley$Village", "payFine", "()V"⟩ ∈ GW := gw_3 (List.mem_of_getElem? (i := 150) rfl) rfl
theorem gw_3_151 : Cond.instanceMethod ⟨"NightValley$Village", "payFine", "()V"⟩ ∈ GW := gw_3 (List.mem_of_getElem? (i := 151) rfl) rfl
theorem gw_3_152 : Cond.selects "NightValley$Village" ⟨"NightValley$Village", "payFine", "()V"⟩ ⟨"NightValley$Village", "payFine", "()V"⟩ ∈ GW := gw_3 (List.mem_of_getElem? (i := 152) rfl) rfl
theorem gw_3_153 : Cond.code ⟨"NightValley$Village", "payFine", "()V"⟩ prog_9_method_3_code 1 (Option.none : Option FieldType) ∈ GW := gw_3 (List.mem_of_getElem? (i := 153) rfl) rfl
theorem gw_3_154 : Cond.methodLink "NightValleyLaw" 169 ⟨"NightValleyLaw", "meter", "(LNightValley;III[J)I"⟩ ∈ GW := gw_3 (List.mem_of_getElem? (i := 154) rfl) rfl
theorem gw_3_155 : Cond.static ⟨"NightValleyLaw", "meter", "(LNightValley;III[J)I"⟩ ∈ GW := gw_3 (List.mem_of_getElem? (i := 155) rfl) rfl
theorem gw_3_156 : Cond.codeWith ⟨"NightValleyLaw", "meter", "(LNightValley;III[J)I"⟩ method_16_code 6 (Option.some FieldType.int) [(0, 12, 15, 13), (0, 12, 19, 23), (0, 12, 23, 35)] ∈ GW := gw_3 (List.mem_of_getElem? (i := 156) rfl) rfl
theorem gw_3_157 : Cond.methodLink "NightValleyLaw" 60 ⟨"NightValley", "meter", "(III)I"⟩ ∈ GW := gw_3 (List.mem_of_getElem? (i := 157) rfl) rfl
theorem gw_3_158 : Cond.instanceMethod ⟨"NightValley", "meter", "(III)I"⟩ ∈ GW := gw_3 (List.mem_of_getElem? (i := 158) rfl) rfl
theorem gw_3_159 : Cond.selects "NightValley" ⟨"NightValley", "meter", "(III)I"⟩ ⟨"NightValley", "meter", "(III)I"⟩ ∈ GW := gw_3 (List.mem_of_getElem? (i := 159) rfl) rfl
theorem gw_3_160 : Cond.code ⟨"NightValley", "meter", "(III)I"⟩ prog_1_method_15_code 5 (Option.some FieldType.int) ∈ GW := gw_3 (List.mem_of_getElem? (i := 160) rfl) rfl
theorem gw_3_161 : Cond.classLink "NightValley" 209 "NightValley$Meter" ∈ GW := gw_3 (List.mem_of_getElem? (i := 161) rfl) rfl
theorem gw_3_162 : Cond.instantiable "NightValley$Meter" 5 ∈ GW := gw_3 (List.mem_of_getElem? (i := 162) rfl) rfl
theorem gw_3_163 : Cond.methodLink "NightValley" 211 ⟨"NightValley$Meter", "<init>", "(LNightValley$Place;II)V"⟩ ∈ GW := gw_3 (List.mem_of_getElem? (i := 163) rfl) rfl
theorem gw_3_164 : Cond.instanceMethod ⟨"NightValley$Meter", "<init>", "(LNightValley$Place;II)V"⟩ ∈ GW := gw_3 (List.mem_of_getElem? (i := 164) rfl) rfl
theorem gw_3_165 : Cond.code ⟨"NightValley$Meter", "<init>", "(LNightValley$Place;II)V"⟩ prog_5_method_1_code 4 (Option.none : Option FieldType) ∈ GW := gw_3 (List.mem_of_getElem? (i := 165) rfl) rfl
theorem gw_3_166 : Cond.methodLink "NightValley$Meter" 3 ⟨"java/lang/Object", "<init>", "()V"⟩ ∈ GW := gw_3 (List.mem_of_getElem? (i := 166) rfl) rfl
theorem gw_3_167 : Cond.classLink "NightValley$Meter" 9 "java/util/ArrayList" ∈ GW := gw_3 (List.mem_of_getElem? (i := 167) rfl) rfl
theorem gw_3_168 : Cond.methodLink "NightValley$Meter" 11 ⟨"java/util/ArrayList", "<init>", "()V"⟩ ∈ GW := gw_3 (List.mem_of_getElem? (i := 168) rfl) rfl
theorem gw_3_169 : Cond.fieldLink "NightValley$Meter" 18 "NightValley$Meter" "place" "LNightValley$Place;" ∈ GW := gw_3 (List.mem_of_getElem? (i := 169) rfl) rfl
theorem gw_3_170 : Cond.fieldLink "NightValley" 224 "NightValley$Meter" "place" "LNightValley$Place;" ∈ GW := gw_3 (List.mem_of_getElem? (i := 170) rfl) rfl
theorem gw_3_171 : Cond.fieldLink "NightValley$Meter" 22 "NightValley$Meter" "zero" "I" ∈ GW := gw_3 (List.mem_of_getElem? (i := 171) rfl) rfl
theorem gw_3_172 : Cond.fieldLink "NightValley" 218 "NightValley$Meter" "zero" "I" ∈ GW := gw_3 (List.mem_of_getElem? (i := 172) rfl) rfl
theorem gw_3_173 : Cond.fieldLink "NightValley$Meter" 26 "NightValley$Meter" "drift" "I" ∈ GW := gw_3 (List.mem_of_getElem? (i := 173) rfl) rfl
theorem gw_3_174 : Cond.fieldLink "NightValley" 221 "NightValley$Meter" "drift" "I" ∈ GW := gw_3 (List.mem_of_getElem? (i := 174) rfl) rfl
theorem gw_3_175 : Cond.fieldLink "NightValley$Meter" 12 "NightValley$Meter" "readings" "Ljava/util/ArrayList;" ∈ GW := gw_3 (List.mem_of_getElem? (i := 175) rfl) rfl
theorem gw_3_176 : Cond.fieldLink "NightValley" 300 "NightValley$Meter" "readings" "Ljava/util/ArrayList;" ∈ GW := gw_3 (List.mem_of_getElem? (i := 176) rfl) rfl
theorem gw_3_177 : Cond.fieldLink "NightValley$Meter" 53 "NightValley$Meter" "toldZero" "I" ∈ GW := gw_3 (List.mem_of_getElem? (i := 177) rfl) rfl
theorem gw_3_178 : Cond.fieldLink "NightValley" 239 "NightValley$Meter" "toldZero" "I" ∈ GW := gw_3 (List.mem_of_getElem? (i := 178) rfl) rfl
theorem gw_3_179 : Cond.laysFinal "NightValley$Meter" "NightValley$Meter" "place" "LNightValley$Place;" ∈ GW := gw_3 (List.mem_of_getElem? (i := 179) rfl) rfl
theorem gw_3_180 : Cond.soleField "NightValley$Meter" "place" ∈ GW := gw_3 (List.mem_of_getElem? (i := 180) rfl) rfl
theorem gw_3_181 : Cond.laysFinal "NightValley$Meter" "NightValley$Meter" "zero" "I" ∈ GW := gw_3 (List.mem_of_getElem? (i := 181) rfl) rfl
theorem gw_3_182 : Cond.soleField "NightValley$Meter" "zero" ∈ GW := gw_3 (List.mem_of_getElem? (i := 182) rfl) rfl
theorem gw_3_183 : Cond.laysFinal "NightValley$Meter" "NightValley$Meter" "drift" "I" ∈ GW := gw_3 (List.mem_of_getElem? (i := 183) rfl) rfl
theorem gw_3_184 : Cond.soleField "NightValley$Meter" "drift" ∈ GW := gw_3 (List.mem_of_getElem? (i := 184) rfl) rfl
theorem gw_3_185 : Cond.laysFinal "NightValley$Meter" "NightValley$Meter" "readings" "Ljava/util/ArrayList;" ∈ GW := gw_3 (List.mem_of_getElem? (i := 185) rfl) rfl
theorem gw_3_186 : Cond.soleField "NightValley$Meter" "readings" ∈ GW := gw_3 (List.mem_of_getElem? (i := 186) rfl) rfl
theorem gw_3_187 : Cond.lays "NightValley$Meter" "NightValley$Meter" "toldZero" "I" ∈ GW := gw_3 (List.mem_of_getElem? (i := 187) rfl) rfl
theorem gw_3_188 : Cond.soleField "NightValley$Meter" "toldZero" ∈ GW := gw_3 (List.mem_of_getElem? (i := 188) rfl) rfl
theorem gw_3_189 : Cond.superclass "NightValley$Meter" "java/lang/Object" ∈ GW := gw_3 (List.mem_of_getElem? (i := 189) rfl) rfl
theorem gw_3_190 : Cond.methodLink "NightValleyLaw" 173 ⟨"NightValleyLaw", "read", "(LNightValley;I[J)I"⟩ ∈ GW := gw_3 (List.mem_of_getElem? (i := 190) rfl) rfl
theorem gw_3_191 : Cond.static ⟨"NightValleyLaw", "read", "(LNightValley;I[J)I"⟩ ∈ GW := gw_3 (List.mem_of_getElem? (i := 191) rfl) rfl
theorem gw_3_192 : Cond.codeWith ⟨"NightValleyLaw", "read", "(LNightValley;I[J)I"⟩ method_17_code 4 (Option.some FieldType.int) [(0, 9, 12, 13)] ∈ GW := gw_3 (List.mem_of_getElem? (i := 192) rfl) rfl
theorem gw_3_193 : Cond.methodLink "NightValleyLaw" 64 ⟨"NightValley", "read", "(I)I"⟩ ∈ GW := gw_3 (List.mem_of_getElem? (i := 193) rfl) rfl
theorem gw_3_194 : Cond.instanceMethod ⟨"NightValley", "read", "(I)I"⟩ ∈ GW := gw_3 (List.mem_of_getElem? (i := 194) rfl) rfl
theorem gw_3_195 : Cond.selects "NightValley" ⟨"NightValley", "read", "(I)I"⟩ ⟨"NightValley", "read", "(I)I"⟩ ∈ GW := gw_3 (List.mem_of_getElem? (i := 195) rfl) rfl
theorem gw_3_196 : Cond.code ⟨"NightValley", "read", "(I)I"⟩ prog_1_method_16_code 5 (Option.some FieldType.int) ∈ GW := gw_3 (List.mem_of_getElem? (i := 196) rfl) rfl
theorem gw_3_197 : Cond.methodLink "NightValley" 214 ⟨"NightValley", "meterOf", "(I)LNightValley$Meter;"⟩ ∈ GW := gw_3 (List.mem_of_getElem? (i := 197) rfl) rfl
theorem gw_3_199 : Cond.instanceMethod ⟨"NightValley", "meterOf", "(I)LNightValley$Meter;"⟩ ∈ GW := gw_3 (List.mem_of_getElem? (i := 199) rfl) rfl
theorem gw_3_200 : Cond.code ⟨"NightValley", "meterOf", "(I)LNightValley$Meter;"⟩ prog_1_method_41_code 2 (Option.some (FieldType.object "NightValley$Meter")) ∈ GW := gw_3 (List.mem_of_getElem? (i := 200) rfl) rfl
theorem gw_3_201 : Cond.methodLink "NightValley" 225 ⟨"NightValley", "glowOf", "(LNightValley$Place;)I"⟩ ∈ GW := gw_3 (List.mem_of_getElem? (i := 201) rfl) rfl
theorem gw_3_203 : Cond.instanceMethod ⟨"NightValley", "glowOf", "(LNightValley$Place;)I"⟩ ∈ GW := gw_3 (List.mem_of_getElem? (i := 203) rfl) rfl
theorem gw_3_204 : Cond.code ⟨"NightValley", "glowOf", "(LNightValley$Place;)I"⟩ prog_1_method_50_code 4 (Option.some FieldType.int) ∈ GW := gw_3 (List.mem_of_getElem? (i := 204) rfl) rfl
theorem gw_3_205 : Cond.methodLink "NightValley" 270 ⟨"NightValley", "givenBy", "(LNightValley$Lamp;LNightValley$Place;)I"⟩ ∈ GW := gw_3 (List.mem_of_getElem? (i := 205) rfl) rfl
theorem gw_3_207 : Cond.instanceMethod ⟨"NightValley", "givenBy", "(LNightValley$Lamp;LNightValley$Place;)I"⟩ ∈ GW := gw_3 (List.mem_of_getElem? (i := 207) rfl) rfl
theorem gw_3_208 : Cond.code ⟨"NightValley", "givenBy", "(LNightValley$Lamp;LNightValley$Place;)I"⟩ prog_1_method_48_code 6 (Option.some FieldType.int) ∈ GW := gw_3 (List.mem_of_getElem? (i := 208) rfl) rfl
theorem gw_3_209 : Cond.methodLink "NightValley" 360 ⟨"NightValley$Lamp", "skyLight", "()I"⟩ ∈ GW := gw_3 (List.mem_of_getElem? (i := 209) rfl) rfl
theorem gw_3_210 : Cond.instanceMethod ⟨"NightValley$Lamp", "skyLight", "()I"⟩ ∈ GW := gw_3 (List.mem_of_getElem? (i := 210) rfl) rfl
theorem gw_3_211 : Cond.selects "NightValley$Lamp" ⟨"NightValley$Lamp", "skyLight", "()I"⟩ ⟨"NightValley$Lamp", "skyLight", "()I"⟩ ∈ GW := gw_3 (List.mem_of_getElem? (i := 211) rfl) rfl
theorem gw_3_212 : Cond.code ⟨"NightValley$Lamp", "skyLight", "()I"⟩ prog_4_method_4_code 2 (Option.some FieldType.int) ∈ GW := gw_3 (List.mem_of_getElem? (i := 212) rfl) rfl
theorem gw_3_213 : Cond.methodLink "NightValley$Lamp" 47 ⟨"NightValley$Lamp", "light", "()I"⟩ ∈ GW := gw_3 (List.mem_of_getElem? (i := 213) rfl) rfl
theorem gw_3_214 : Cond.instanceMethod ⟨"NightValley$Lamp", "light", "()I"⟩ ∈ GW := gw_3 (List.mem_of_getElem? (i := 214) rfl) rfl
theorem gw_3_215 : Cond.selects "NightValley$Lamp" ⟨"NightValley$Lamp", "light", "()I"⟩ ⟨"NightValley$Lamp", "light", "()I"⟩ ∈ GW := gw_3 (List.mem_of_getElem? (i := 215) rfl) rfl
theorem gw_3_216 : Cond.code ⟨"NightValley$Lamp", "light", "()I"⟩ prog_4_method_3_code 2 (Option.some FieldType.int) ∈ GW := gw_3 (List.mem_of_getElem? (i := 216) rfl) rfl
theorem gw_3_217 : Cond.methodLink "NightValley$Lamp" 38 ⟨"java/lang/Math", "min", "(II)I"⟩ ∈ GW := gw_3 (List.mem_of_getElem? (i := 217) rfl) rfl
theorem gw_3_218 : Cond.methodLink "NightValley" 283 ⟨"NightValley", "weakened", "(III)I"⟩ ∈ GW := gw_3 (List.mem_of_getElem? (i := 218) rfl) rfl
theorem gw_3_219 : Cond.static ⟨"NightValley", "weakened", "(III)I"⟩ ∈ GW := gw_3 (List.mem_of_getElem? (i := 219) rfl) rfl
theorem gw_3_220 : Cond.code ⟨"NightValley", "weakened", "(III)I"⟩ prog_1_method_44_code 4 (Option.some FieldType.int) ∈ GW := gw_3 (List.mem_of_getElem? (i := 220) rfl) rfl
theorem gw_3_221 : Cond.methodLink "NightValley" 363 ⟨"NightValley", "isShaded", "(LNightValley$Place;LNightValley$Place;)Z"⟩ ∈ GW := gw_3 (List.mem_of_getElem? (i := 221) rfl) rfl
theorem gw_3_223 : Cond.instanceMethod ⟨"NightValley", "isShaded", "(LNightValley$Place;LNightValley$Place;)Z"⟩ ∈ GW := gw_3 (List.mem_of_getElem? (i := 223) rfl) rfl
theorem gw_3_224 : Cond.code ⟨"NightValley", "isShaded", "(LNightValley$Place;LNightValley$Place;)Z"⟩ prog_1_method_51_code 10 (Option.some FieldType.boolean) ∈ GW := gw_3 (List.mem_of_getElem? (i := 224) rfl) rfl
theorem gw_3_225 : Cond.methodLink "NightValley" 370 ⟨"java/lang/Math", "min", "(II)I"⟩ ∈ GW := gw_3 (List.mem_of_getElem? (i := 225) rfl) rfl
theorem gw_3_226 : Cond.methodLink "NightValley" 373 ⟨"NightValley$Place", "shades", "(LNightValley$Place;LNightValley$Place;)Z"⟩ ∈ GW := gw_3 (List.mem_of_getElem? (i := 226) rfl) rfl
theorem gw_3_227 : Cond.instanceMethod ⟨"NightValley$Place", "shades", "(LNightValley$Place;LNightValley$Place;)Z"⟩ ∈ GW := gw_3 (List.mem_of_getElem? (i := 227) rfl) rfl
theorem gw_3_228 : Cond.selects "NightValley$Place" ⟨"NightValley$Place", "shades", "(LNightValley$Place;LNightValley$Place;)Z"⟩ ⟨"NightValley$Place", "shades", "(LNightValley$Place;LNightValley$Place;)Z"⟩ ∈ GW := gw_3 (List.mem_of_getElem? (i := 228) rfl) rfl
theorem gw_3_229 : Cond.code ⟨"NightValley$Place", "shades", "(LNightValley$Place;LNightValley$Place;)Z"⟩ prog_6_method_2_code 3 (Option.some FieldType.boolean) ∈ GW := gw_3 (List.mem_of_getElem? (i := 229) rfl) rfl
theorem gw_3_230 : Cond.methodLink "NightValley$Place" 26 ⟨"NightValley$Place", "isNearLine", "(LNightValley$Place;LNightValley$Place;)Z"⟩ ∈ GW := gw_3 (List.mem_of_getElem? (i := 230) rfl) rfl
theorem gw_3_232 : Cond.instanceMethod ⟨"NightValley$Place", "isNearLine", "(LNightValley$Place;LNightValley$Place;)Z"⟩ ∈ GW := gw_3 (List.mem_of_getElem? (i := 232) rfl) rfl
theorem gw_3_233 : Cond.code ⟨"NightValley$Place", "isNearLine", "(LNightValley$Place;LNightValley$Place;)Z"⟩ prog_6_method_3_code 6 (Option.some FieldType.boolean) ∈ GW := gw_3 (List.mem_of_getElem? (i := 233) rfl) rfl
theorem gw_3_234 : Cond.methodLink "NightValley$Place" 30 ⟨"java/lang/Math", "abs", "(I)I"⟩ ∈ GW := gw_3 (List.mem_of_getElem? (i := 234) rfl) rfl
theorem gw_3_235 : Cond.static ⟨"java/lang/Math", "abs", "(I)I"⟩ ∈ GW := gw_3 (List.mem_of_getElem? (i := 235) rfl) rfl
theorem gw_3_236 : Cond.code ⟨"java/lang/Math", "abs", "(I)I"⟩ prog_21_method_59_code 1 (Option.some FieldType.int) ∈ GW := gw_3 (List.mem_of_getElem? (i := 236) rfl) rfl
theorem gw_3_237 : Cond.methodLink "NightValley$Place" 36 ⟨"java/lang/Math", "max", "(II)I"⟩ ∈ GW := gw_3 (List.mem_of_getElem? (i := 237) rfl) rfl
theorem gw_3_238 : Cond.methodLink "NightValley" 367 ⟨"NightValley", "airFactor", "()I"⟩ ∈ GW := gw_3 (List.mem_of_getElem? (i := 238) rfl) rfl
theorem gw_4_0 : Cond.instanceMethod ⟨"NightValley", "airFactor", "()I"⟩ ∈ GW := gw_4 (List.mem_of_getElem? (i := 0) rfl) rfl
theorem gw_4_1 : Cond.code ⟨"NightValley", "airFactor", "()I"⟩ prog_1_method_49_code 1 (Option.some FieldType.int) ∈ GW := gw_4 (List.mem_of_getElem? (i := 1) rfl) rfl
theorem gw_4_2 : Cond.methodLink "NightValley" 229 ⟨"NightValley", "moonAt", "(I)I"⟩ ∈ GW := gw_4 (List.mem_of_getElem? (i := 2) rfl) rfl
theorem gw_4_3 : Cond.static ⟨"NightValley", "moonAt", "(I)I"⟩ ∈ GW := gw_4 (List.mem_of_getElem? (i := 3) rfl) rfl
theorem gw_4_4 : Cond.code ⟨"NightValley", "moonAt", "(I)I"⟩ prog_1_method_43_code 2 (Option.some FieldType.int) ∈ GW := gw_4 (List.mem_of_getElem? (i := 4) rfl) rfl
theorem gw_4_5 : Cond.methodLink "NightValley" 320 ⟨"NightValley", "isNight", "(I)Z"⟩ ∈ GW := gw_4 (List.mem_of_getElem? (i := 5) rfl) rfl
theorem gw_4_6 : Cond.static ⟨"NightValley", "isNight", "(I)Z"⟩ ∈ GW := gw_4 (List.mem_of_getElem? (i := 6) rfl) rfl
theorem gw_4_7 : Cond.code ⟨"NightValley", "isNight", "(I)Z"⟩ prog_1_method_42_code 1 (Option.some FieldType.boolean) ∈ GW := gw_4 (List.mem_of_getElem? (i := 7) rfl) rfl
theorem gw_4_8 : Cond.methodLink "NightValley" 348 ⟨"java/lang/Math", "abs", "(I)I"⟩ ∈ GW := gw_4 (List.mem_of_getElem? (i := 8) rfl) rfl
theorem gw_4_9 : Cond.classLink "NightValley" 232 "NightValley$Reading" ∈ GW := gw_4 (List.mem_of_getElem? (i := 9) rfl) rfl
theorem gw_4_10 : Cond.instantiable "NightValley$Reading" 2 ∈ GW := gw_4 (List.mem_of_getElem? (i := 10) rfl) rfl
theorem gw_4_11 : Cond.methodLink "NightValley" 234 ⟨"NightValley$Reading", "<init>", "(II)V"⟩ ∈ GW := gw_4 (List.mem_of_getElem? (i := 11) rfl) rfl
theorem gw_4_12 : Cond.instanceMethod ⟨"NightValley$Reading", "<init>", "(II)V"⟩ ∈ GW := gw_4 (List.mem_of_getElem? (i := 12) rfl) rfl
theorem gw_4_13 : Cond.code ⟨"NightValley$Reading", "<init>", "(II)V"⟩ prog_7_method_1_code 3 (Option.none : Option FieldType) ∈ GW := gw_4 (List.mem_of_getElem? (i := 13) rfl) rfl
theorem gw_4_14 : Cond.methodLink "NightValley$Reading" 1 ⟨"java/lang/Object", "<init>", "()V"⟩ ∈ GW := gw_4 (List.mem_of_getElem? (i := 14) rfl) rfl
theorem gw_4_15 : Cond.fieldLink "NightValley$Reading" 7 "NightValley$Reading" "when" "I" ∈ GW := gw_4 (List.mem_of_getElem? (i := 15) rfl) rfl
theorem gw_4_16 : Cond.fieldLink "NightValley$Meter" 46 "NightValley$Reading" "when" "I" ∈ GW := gw_4 (List.mem_of_getElem? (i := 16) rfl) rfl
theorem gw_4_17 : Cond.fieldLink "NightValley" 303 "NightValley$Reading" "when" "I" ∈ GW := gw_4 (List.mem_of_getElem? (i := 17) rfl) rfl
theorem gw_4_18 : Cond.fieldLink "NightValley$Reading" 13 "NightValley$Reading" "value" "I" ∈ GW := gw_4 (List.mem_of_getElem? (i := 18) rfl) rfl
theorem gw_4_19 : Cond.fieldLink "NightValley$Meter" 41 "NightValley$Reading" "value" "I" ∈ GW := gw_4 (List.mem_of_getElem? (i := 19) rfl) rfl
theorem gw_4_20 : Cond.fieldLink "NightValley" 306 "NightValley$Reading" "value" "I" ∈ GW := gw_4 (List.mem_of_getElem? (i := 20) rfl) rfl
theorem gw_4_21 : Cond.laysFinal "NightValley$Reading" "NightValley$Reading" "when" "I" ∈ GW := gw_4 (List.mem_of_getElem? (i := 21) rfl) rfl
theorem gw_4_22 : Cond.soleField "NightValley$Reading" "when" ∈ GW := gw_4 (List.mem_of_getElem? (i := 22) rfl) rfl
theorem gw_4_23 : Cond.laysFinal "NightValley$Reading" "NightValley$Reading" "value" "I" ∈ GW := gw_4 (List.mem_of_getElem? (i := 23) rfl) rfl
theorem gw_4_24 : Cond.soleField "NightValley$Reading" "value" ∈ GW := gw_4 (List.mem_of_getElem? (i := 24) rfl) rfl
theorem gw_4_25 : Cond.superclass "NightValley$Reading" "java/lang/Object" ∈ GW := gw_4 (List.mem_of_getElem? (i := 25) rfl) rfl
theorem gw_4_26 : Cond.methodLink "NightValley" 235 ⟨"NightValley$Meter", "keep", "(LNightValley$Reading;)V"⟩ ∈ GW := gw_4 (List.mem_of_getElem? (i := 26) rfl) rfl
theorem gw_4_27 : Cond.instanceMethod ⟨"NightValley$Meter", "keep", "(LNightValley$Reading;)V"⟩ ∈ GW := gw_4 (List.mem_of_getElem? (i := 27) rfl) rfl
theorem gw_4_28 : Cond.selects "NightValley$Meter" ⟨"NightValley$Meter", "keep", "(LNightValley$Reading;)V"⟩ ⟨"NightValley$Meter", "keep", "(LNightValley$Reading;)V"⟩ ∈ GW := gw_4 (List.mem_of_getElem? (i := 28) rfl) rfl
theorem gw_4_29 : Cond.code ⟨"NightValley$Meter", "keep", "(LNightValley$Reading;)V"⟩ prog_5_method_2_code 2 (Option.none : Option FieldType) ∈ GW := gw_4 (List.mem_of_getElem? (i := 29) rfl) rfl
theorem gw_4_30 : Cond.methodLink "NightValley$Meter" 29 ⟨"java/util/ArrayList", "size", "()I"⟩ ∈ GW := gw_4 (List.mem_of_getElem? (i := 30) rfl) rfl
theorem gw_4_31 : Cond.methodLink "NightValley$Meter" 33 ⟨"java/util/ArrayList", "remove", "(I)Ljava/lang/Object;"⟩ ∈ GW := gw_4 (List.mem_of_getElem? (i := 31) rfl) rfl
theorem gw_4_32 : Cond.instanceMethod ⟨"java/util/ArrayList", "remove", "(I)Ljava/lang/Object;"⟩ ∈ GW := gw_4 (List.mem_of_getElem? (i := 32) rfl) rfl
theorem gw_4_33 : Cond.selects "java/util/ArrayList" ⟨"java/util/ArrayList", "remove", "(I)Ljava/lang/Object;"⟩ ⟨"java/util/ArrayList", "remove", "(I)Ljava/lang/Object;"⟩ ∈ GW := gw_4 (List.mem_of_getElem? (i := 33) rfl) rfl
theorem gw_4_34 : Cond.code ⟨"java/util/ArrayList", "remove", "(I)Ljava/lang/Object;"⟩ prog_27_method_29_code 4 (Option.some (FieldType.object "java/lang/Object")) ∈ GW := gw_4 (List.mem_of_getElem? (i := 34) rfl) rfl
theorem gw_4_35 : Cond.methodLink "java/util/ArrayList" 144 ⟨"java/util/ArrayList", "fastRemove", "([Ljava/lang/Object;I)V"⟩ ∈ GW := gw_4 (List.mem_of_getElem? (i := 35) rfl) rfl
theorem gw_4_37 : Cond.instanceMethod ⟨"java/util/ArrayList", "fastRemove", "([Ljava/lang/Object;I)V"⟩ ∈ GW := gw_4 (List.mem_of_getElem? (i := 37) rfl) rfl
theorem gw_4_38 : Cond.code ⟨"java/util/ArrayList", "fastRemove", "([Ljava/lang/Object;I)V"⟩ prog_27_method_39_code 4 (Option.none : Option FieldType) ∈ GW := gw_4 (List.mem_of_getElem? (i := 38) rfl) rfl
theorem gw_4_39 : Cond.methodLink "java/util/ArrayList" 112 ⟨"java/lang/System", "arraycopy", "(Ljava/lang/Object;ILjava/lang/Object;II)V"⟩ ∈ GW := gw_4 (List.mem_of_getElem? (i := 39) rfl) rfl
theorem gw_4_40 : Cond.methodLink "NightValley$Meter" 37 ⟨"java/util/ArrayList", "add", "(Ljava/lang/Object;)Z"⟩ ∈ GW := gw_4 (List.mem_of_getElem? (i := 40) rfl) rfl
theorem gw_4_41 : Cond.methodLink "NightValleyLaw" 176 ⟨"NightValleyLaw", "tell", "(LNightValley;II[J)I"⟩ ∈ GW := gw_4 (List.mem_of_getElem? (i := 41) rfl) rfl
theorem gw_4_42 : Cond.static ⟨"NightValleyLaw", "tell", "(LNightValley;II[J)I"⟩ ∈ GW := gw_4 (List.mem_of_getElem? (i := 42) rfl) rfl
theorem gw_4_43 : Cond.codeWith ⟨"NightValleyLaw", "tell", "(LNightValley;II[J)I"⟩ method_18_code 5 (Option.some FieldType.int) [(0, 10, 13, 13), (0, 10, 17, 23)] ∈ GW := gw_4 (List.mem_of_getElem? (i := 43) rfl) rfl
theorem gw_4_44 : Cond.methodLink "NightValleyLaw" 67 ⟨"NightValley", "tell", "(II)I"⟩ ∈ GW := gw_4 (List.mem_of_getElem? (i := 44) rfl) rfl
theorem gw_4_45 : Cond.instanceMethod ⟨"NightValley", "tell", "(II)I"⟩ ∈ GW := gw_4 (List.mem_of_getElem? (i := 45) rfl) rfl
theorem gw_4_46 : Cond.selects "NightValley" ⟨"NightValley", "tell", "(II)I"⟩ ⟨"NightValley", "tell", "(II)I"⟩ ∈ GW := gw_4 (List.mem_of_getElem? (i := 46) rfl) rfl
theorem gw_4_47 : Cond.code ⟨"NightValley", "tell", "(II)I"⟩ prog_1_method_17_code 5 (Option.some FieldType.int) ∈ GW := gw_4 (List.mem_of_getElem? (i := 47) rfl) rfl
theorem gw_4_48 : Cond.methodLink "NightValleyLaw" 179 ⟨"NightValleyLaw", "audit", "(LNightValley;I[J)I"⟩ ∈ GW := gw_4 (List.mem_of_getElem? (i := 48) rfl) rfl
theorem gw_4_49 : Cond.static ⟨"NightValleyLaw", "audit", "(LNightValley;I[J)I"⟩ ∈ GW := gw_4 (List.mem_of_getElem? (i := 49) rfl) rfl
theorem gw_4_50 : Cond.codeWith ⟨"NightValleyLaw", "audit", "(LNightValley;I[J)I"⟩ method_19_code 4 (Option.some FieldType.int) [(0, 16, 19, 23)] ∈ GW := gw_4 (List.mem_of_getElem? (i := 50) rfl) rfl
theorem gw_4_51 : Cond.methodLink "NightValleyLaw" 70 ⟨"NightValley", "audit", "(I)Z"⟩ ∈ GW := gw_4 (List.mem_of_getElem? (i := 51) rfl) rfl
theorem gw_4_52 : Cond.instanceMethod ⟨"NightValley", "audit", "(I)Z"⟩ ∈ GW := gw_4 (List.mem_of_getElem? (i := 52) rfl) rfl
theorem gw_4_53 : Cond.selects "NightValley" ⟨"NightValley", "audit", "(I)Z"⟩ ⟨"NightValley", "audit", "(I)Z"⟩ ∈ GW := gw_4 (List.mem_of_getElem? (i := 53) rfl) rfl
theorem gw_4_54 : Cond.code ⟨"NightValley", "audit", "(I)Z"⟩ prog_1_method_18_code 4 (Option.some FieldType.boolean) ∈ GW := gw_4 (List.mem_of_getElem? (i := 54) rfl) rfl
theorem gw_4_55 : Cond.constant "NightValley" 242 (100000 : Int32) ∈ GW := gw_4 (List.mem_of_getElem? (i := 55) rfl) rfl
theorem gw_4_56 : Cond.methodLink "NightValley" 243 ⟨"NightValley$Meter", "keepsTo", "(I)Z"⟩ ∈ GW := gw_4 (List.mem_of_getElem? (i := 56) rfl) rfl
theorem gw_4_57 : Cond.instanceMethod ⟨"NightValley$Meter", "keepsTo", "(I)Z"⟩ ∈ GW := gw_4 (List.mem_of_getElem? (i := 57) rfl) rfl
theorem gw_4_58 : Cond.selects "NightValley$Meter" ⟨"NightValley$Meter", "keepsTo", "(I)Z"⟩ ⟨"NightValley$Meter", "keepsTo", "(I)Z"⟩ ∈ GW := gw_4 (List.mem_of_getElem? (i := 58) rfl) rfl
theorem gw_4_59 : Cond.code ⟨"NightValley$Meter", "keepsTo", "(I)Z"⟩ prog_5_method_4_code 3 (Option.some FieldType.boolean) ∈ GW := gw_4 (List.mem_of_getElem? (i := 59) rfl) rfl
theorem gw_4_60 : Cond.methodLink "NightValley$Meter" 56 ⟨"java/util/ArrayList", "get", "(I)Ljava/lang/Object;"⟩ ∈ GW := gw_4 (List.mem_of_getElem? (i := 60) rfl) rfl
theorem gw_4_61 : Cond.classLink "NightValley$Meter" 42 "NightValley$Reading" ∈ GW := gw_4 (List.mem_of_getElem? (i := 61) rfl) rfl
theorem gw_4_62 : Cond.methodLink "NightValley$Meter" 59 ⟨"NightValley$Meter", "corrected", "(LNightValley$Reading;)I"⟩ ∈ GW := gw_4 (List.mem_of_getElem? (i := 62) rfl) rfl
theorem gw_4_63 : Cond.instanceMethod ⟨"NightValley$Meter", "corrected", "(LNightValley$Reading;)I"⟩ ∈ GW := gw_4 (List.mem_of_getElem? (i := 63) rfl) rfl
theorem gw_4_64 : Cond.selects "NightValley$Meter" ⟨"NightValley$Meter", "corrected", "(LNightValley$Reading;)I"⟩ ⟨"NightValley$Meter", "corrected", "(LNightValley$Reading;)I"⟩ ∈ GW := gw_4 (List.mem_of_getElem? (i := 64) rfl) rfl
theorem gw_4_65 : Cond.code ⟨"NightValley$Meter", "corrected", "(LNightValley$Reading;)I"⟩ prog_5_method_3_code 2 (Option.some FieldType.int) ∈ GW := gw_4 (List.mem_of_getElem? (i := 65) rfl) rfl
theorem gw_4_67 : Cond.methodLink "NightValley" 247 ⟨"NightValley$Label", "follow", "(Z)V"⟩ ∈ GW := gw_4 (List.mem_of_getElem? (i := 67) rfl) rfl
theorem gw_4_68 : Cond.instanceMethod ⟨"NightValley$Label", "follow", "(Z)V"⟩ ∈ GW := gw_4 (List.mem_of_getElem? (i := 68) rfl) rfl
theorem gw_4_69 : Cond.selects "NightValley$Label" ⟨"NightValley$Label", "follow", "(Z)V"⟩ ⟨"NightValley$Label", "follow", "(Z)V"⟩ ∈ GW := gw_4 (List.mem_of_getElem? (i := 69) rfl) rfl
theorem gw_4_70 : Cond.code ⟨"NightValley$Label", "follow", "(Z)V"⟩ prog_3_method_2_code 2 (Option.none : Option FieldType) ∈ GW := gw_4 (List.mem_of_getElem? (i := 70) rfl) rfl
theorem gw_4_71 : Cond.methodLink "NightValleyLaw" 182 ⟨"NightValleyLaw", "satellite", "(LNightValley;II[J)I"⟩ ∈ GW := gw_4 (List.mem_of_getElem? (i := 71) rfl) rfl
theorem gw_4_72 : Cond.static ⟨"NightValleyLaw", "satellite", "(LNightValley;II[J)I"⟩ ∈ GW := gw_4 (List.mem_of_getElem? (i := 72) rfl) rfl
theorem gw_4_73 : Cond.codeWith ⟨"NightValleyLaw", "satellite", "(LNightValley;II[J)I"⟩ method_20_code 5 (Option.some FieldType.int) [(0, 10, 13, 23), (0, 10, 17, 35)] ∈ GW := gw_4 (List.mem_of_getElem? (i := 73) rfl) rfl
theorem gw_4_74 : Cond.methodLink "NightValleyLaw" 74 ⟨"NightValley", "satellite", "(II)I"⟩ ∈ GW := gw_4 (List.mem_of_getElem? (i := 74) rfl) rfl
theorem gw_4_75 : Cond.instanceMethod ⟨"NightValley", "satellite", "(II)I"⟩ ∈ GW := gw_4 (List.mem_of_getElem? (i := 75) rfl) rfl
theorem gw_4_76 : Cond.selects "NightValley" ⟨"NightValley", "satellite", "(II)I"⟩ ⟨"NightValley", "satellite", "(II)I"⟩ ∈ GW := gw_4 (List.mem_of_getElem? (i := 76) rfl) rfl
theorem gw_4_77 : Cond.code ⟨"NightValley", "satellite", "(II)I"⟩ prog_1_method_19_code 3 (Option.some FieldType.int) ∈ GW := gw_4 (List.mem_of_getElem? (i := 77) rfl) rfl
theorem gw_4_78 : Cond.classLink "NightValley" 250 "NightValley$Satellite" ∈ GW := gw_4 (List.mem_of_getElem? (i := 78) rfl) rfl
theorem gw_4_79 : Cond.instantiable "NightValley$Satellite" 2 ∈ GW := gw_4 (List.mem_of_getElem? (i := 79) rfl) rfl
theorem gw_4_80 : Cond.methodLink "NightValley" 252 ⟨"NightValley$Satellite", "<init>", "(II)V"⟩ ∈ GW := gw_4 (List.mem_of_getElem? (i := 80) rfl) rfl
theorem gw_4_81 : Cond.instanceMethod ⟨"NightValley$Satellite", "<init>", "(II)V"⟩ ∈ GW := gw_4 (List.mem_of_getElem? (i := 81) rfl) rfl
theorem gw_4_82 : Cond.code ⟨"NightValley$Satellite", "<init>", "(II)V"⟩ prog_8_method_1_code 3 (Option.none : Option FieldType) ∈ GW := gw_4 (List.mem_of_getElem? (i := 82) rfl) rfl
theorem gw_4_83 : Cond.methodLink "NightValley$Satellite" 1 ⟨"java/lang/Object", "<init>", "()V"⟩ ∈ GW := gw_4 (List.mem_of_getElem? (i := 83) rfl) rfl
theorem gw_4_84 : Cond.fieldLink "NightValley$Satellite" 7 "NightValley$Satellite" "period" "I" ∈ GW := gw_4 (List.mem_of_getElem? (i := 84) rfl) rfl
theorem gw_4_85 : Cond.fieldLink "NightValley$Satellite" 13 "NightValley$Satellite" "phase" "I" ∈ GW := gw_4 (List.mem_of_getElem? (i := 85) rfl) rfl
theorem gw_4_86 : Cond.laysFinal "NightValley$Satellite" "NightValley$Satellite" "period" "I" ∈ GW := gw_4 (List.mem_of_getElem? (i := 86) rfl) rfl
theorem gw_4_87 : Cond.soleField "NightValley$Satellite" "period" ∈ GW := gw_4 (List.mem_of_getElem? (i := 87) rfl) rfl
theorem gw_4_88 : Cond.laysFinal "NightValley$Satellite" "NightValley$Satellite" "phase" "I" ∈ GW := gw_4 (List.mem_of_getElem? (i := 88) rfl) rfl
theorem gw_4_89 : Cond.soleField "NightValley$Satellite" "phase" ∈ GW := gw_4 (List.mem_of_getElem? (i := 89) rfl) rfl
theorem gw_4_90 : Cond.superclass "NightValley$Satellite" "java/lang/Object" ∈ GW := gw_4 (List.mem_of_getElem? (i := 90) rfl) rfl
theorem gw_4_91 : Cond.methodLink "NightValleyLaw" 189 ⟨"NightValleyLaw", "ofLamp", "(LNightValley;II[J)I"⟩ ∈ GW := gw_4 (List.mem_of_getElem? (i := 91) rfl) rfl
theorem gw_4_92 : Cond.static ⟨"NightValleyLaw", "ofLamp", "(LNightValley;II[J)I"⟩ ∈ GW := gw_4 (List.mem_of_getElem? (i := 92) rfl) rfl
theorem gw_4_93 : Cond.codeWith ⟨"NightValleyLaw", "ofLamp", "(LNightValley;II[J)I"⟩ method_21_code 5 (Option.some FieldType.int) [(0, 10, 13, 13), (0, 10, 17, 23)] ∈ GW := gw_4 (List.mem_of_getElem? (i := 93) rfl) rfl
theorem gw_4_94 : Cond.methodLink "NightValleyLaw" 77 ⟨"NightValley", "ofLamp", "(II)I"⟩ ∈ GW := gw_4 (List.mem_of_getElem? (i := 94) rfl) rfl
theorem gw_4_95 : Cond.instanceMethod ⟨"NightValley", "ofLamp", "(II)I"⟩ ∈ GW := gw_4 (List.mem_of_getElem? (i := 95) rfl) rfl
theorem gw_4_96 : Cond.selects "NightValley" ⟨"NightValley", "ofLamp", "(II)I"⟩ ⟨"NightValley", "ofLamp", "(II)I"⟩ ∈ GW := gw_4 (List.mem_of_getElem? (i := 96) rfl) rfl
theorem gw_4_97 : Cond.code ⟨"NightValley", "ofLamp", "(II)I"⟩ prog_1_method_21_code 4 (Option.some FieldType.int) ∈ GW := gw_4 (List.mem_of_getElem? (i := 97) rfl) rfl
theorem gw_4_98 : Cond.methodLink "NightValley" 257 ⟨"NightValley$Lamp", "light", "()I"⟩ ∈ GW := gw_4 (List.mem_of_getElem? (i := 98) rfl) rfl
theorem gw_4_99 : Cond.methodLink "NightValleyLaw" 192 ⟨"NightValleyLaw", "ofVillage", "(LNightValley;II[J)I"⟩ ∈ GW := gw_4 (List.mem_of_getElem? (i := 99) rfl) rfl
theorem gw_4_100 : Cond.static ⟨"NightValleyLaw", "ofVillage", "(LNightValley;II[J)I"⟩ ∈ GW := gw_4 (List.mem_of_getElem? (i := 100) rfl) rfl
theorem gw_4_101 : Cond.codeWith ⟨"NightValleyLaw", "ofVillage", "(LNightValley;II[J)I"⟩ method_22_code 5 (Option.some FieldType.int) [(0, 10, 13, 13), (0, 10, 17, 23)] ∈ GW := gw_4 (List.mem_of_getElem? (i := 101) rfl) rfl
theorem gw_4_102 : Cond.methodLink "NightValleyLaw" 80 ⟨"NightValley", "ofVillage", "(II)I"⟩ ∈ GW := gw_4 (List.mem_of_getElem? (i := 102) rfl) rfl
theorem gw_4_103 : Cond.instanceMethod ⟨"NightValley", "ofVillage", "(II)I"⟩ ∈ GW := gw_4 (List.mem_of_getElem? (i := 103) rfl) rfl
theorem gw_4_104 : Cond.selects "NightValley" ⟨"NightValley", "ofVillage", "(II)I"⟩ ⟨"NightValley", "ofVillage", "(II)I"⟩ ∈ GW := gw_4 (List.mem_of_getElem? (i := 104) rfl) rfl
theorem gw_4_105 : Cond.code ⟨"NightValley", "ofVillage", "(II)I"⟩ prog_1_method_22_code 4 (Option.some FieldType.int) ∈ GW := gw_4 (List.mem_of_getElem? (i := 105) rfl) rfl
theorem gw_4_106 : Cond.methodLink "NightValley" 263 ⟨"NightValley", "burningLampsOf", "(LNightValley$Village;)I"⟩ ∈ GW := gw_4 (List.mem_of_getElem? (i := 106) rfl) rfl
theorem gw_4_108 : Cond.instanceMethod ⟨"NightValley", "burningLampsOf", "(LNightValley$Village;)I"⟩ ∈ GW := gw_4 (List.mem_of_getElem? (i := 108) rfl) rfl
theorem gw_4_109 : Cond.code ⟨"NightValley", "burningLampsOf", "(LNightValley$Village;)I"⟩ prog_1_method_47_code 5 (Option.some FieldType.int) ∈ GW := gw_4 (List.mem_of_getElem? (i := 109) rfl) rfl
theorem gw_4_110 : Cond.methodLink "NightValleyLaw" 195 ⟨"NightValleyLaw", "gives", "(LNightValley;II[J)I"⟩ ∈ GW := gw_4 (List.mem_of_getElem? (i := 110) rfl) rfl
theorem gw_4_111 : Cond.static ⟨"NightValleyLaw", "gives", "(LNightValley;II[J)I"⟩ ∈ GW := gw_4 (List.mem_of_getElem? (i := 111) rfl) rfl
theorem gw_4_112 : Cond.codeWith ⟨"NightValleyLaw", "gives", "(LNightValley;II[J)I"⟩ method_23_code 5 (Option.some FieldType.int) [(0, 10, 13, 13)] ∈ GW := gw_4 (List.mem_of_getElem? (i := 112) rfl) rfl
theorem gw_4_113 : Cond.methodLink "NightValleyLaw" 83 ⟨"NightValley", "gives", "(II)I"⟩ ∈ GW := gw_4 (List.mem_of_getElem? (i := 113) rfl) rfl
theorem gw_4_114 : Cond.instanceMethod ⟨"NightValley", "gives", "(II)I"⟩ ∈ GW := gw_4 (List.mem_of_getElem? (i := 114) rfl) rfl
theorem gw_4_115 : Cond.selects "NightValley" ⟨"NightValley", "gives", "(II)I"⟩ ⟨"NightValley", "gives", "(II)I"⟩ ∈ GW := gw_4 (List.mem_of_getElem? (i := 115) rfl) rfl
theorem gw_4_116 : Cond.code ⟨"NightValley", "gives", "(II)I"⟩ prog_1_method_23_code 4 (Option.some FieldType.int) ∈ GW := gw_4 (List.mem_of_getElem? (i := 116) rfl) rfl
theorem gw_4_117 : Cond.methodLink "NightValleyLaw" 198 ⟨"NightValleyLaw", "glow", "(LNightValley;I[J)I"⟩ ∈ GW := gw_4 (List.mem_of_getElem? (i := 117) rfl) rfl
theorem gw_4_118 : Cond.static ⟨"NightValleyLaw", "glow", "(LNightValley;I[J)I"⟩ ∈ GW := gw_4 (List.mem_of_getElem? (i := 118) rfl) rfl
theorem gw_4_119 : Cond.codeWith ⟨"NightValleyLaw", "glow", "(LNightValley;I[J)I"⟩ method_24_code 4 (Option.some FieldType.int) [(0, 9, 12, 13)] ∈ GW := gw_4 (List.mem_of_getElem? (i := 119) rfl) rfl
theorem gw_4_120 : Cond.methodLink "NightValleyLaw" 86 ⟨"NightValley", "glow", "(I)I"⟩ ∈ GW := gw_4 (List.mem_of_getElem? (i := 120) rfl) rfl
theorem gw_4_121 : Cond.instanceMethod ⟨"NightValley", "glow", "(I)I"⟩ ∈ GW := gw_4 (List.mem_of_getElem? (i := 121) rfl) rfl
theorem gw_4_122 : Cond.selects "NightValley" ⟨"NightValley", "glow", "(I)I"⟩ ⟨"NightValley", "glow", "(I)I"⟩ ∈ GW := gw_4 (List.mem_of_getElem? (i := 122) rfl) rfl
theorem gw_4_123 : Cond.code ⟨"NightValley", "glow", "(I)I"⟩ prog_1_method_24_code 2 (Option.some FieldType.int) ∈ GW := gw_4 (List.mem_of_getElem? (i := 123) rfl) rfl
theorem gw_4_124 : Cond.methodLink "NightValleyLaw" 201 ⟨"NightValleyLaw", "glowFrom", "(LNightValley;II[J)I"⟩ ∈ GW := gw_4 (List.mem_of_getElem? (i := 124) rfl) rfl
theorem gw_4_125 : Cond.static ⟨"NightValleyLaw", "glowFrom", "(LNightValley;II[J)I"⟩ ∈ GW := gw_4 (List.mem_of_getElem? (i := 125) rfl) rfl
theorem gw_4_126 : Cond.codeWith ⟨"NightValleyLaw", "glowFrom", "(LNightValley;II[J)I"⟩ method_25_code 5 (Option.some FieldType.int) [(0, 10, 13, 13), (0, 10, 17, 23)] ∈ GW := gw_4 (List.mem_of_getElem? (i := 126) rfl) rfl
theorem gw_4_127 : Cond.methodLink "NightValleyLaw" 89 ⟨"NightValley", "glowFrom", "(II)I"⟩ ∈ GW := gw_4 (List.mem_of_getElem? (i := 127) rfl) rfl
theorem gw_4_128 : Cond.instanceMethod ⟨"NightValley", "glowFrom", "(II)I"⟩ ∈ GW := gw_4 (List.mem_of_getElem? (i := 128) rfl) rfl
theorem gw_4_129 : Cond.selects "NightValley" ⟨"NightValley", "glowFrom", "(II)I"⟩ ⟨"NightValley", "glowFrom", "(II)I"⟩ ∈ GW := gw_4 (List.mem_of_getElem? (i := 129) rfl) rfl
theorem gw_4_130 : Cond.code ⟨"NightValley", "glowFrom", "(II)I"⟩ prog_1_method_25_code 7 (Option.some FieldType.int) ∈ GW := gw_4 (List.mem_of_getElem? (i := 130) rfl) rfl
theorem gw_4_131 : Cond.methodLink "NightValley" 274 ⟨"NightValley$Place", "directionOf", "(LNightValley$Place;)I"⟩ ∈ GW := gw_4 (List.mem_of_getElem? (i := 131) rfl) rfl
theorem gw_4_132 : Cond.instanceMethod ⟨"NightValley$Place", "directionOf", "(LNightValley$Place;)I"⟩ ∈ GW := gw_4 (List.mem_of_getElem? (i := 132) rfl) rfl
theorem gw_4_133 : Cond.selects "NightValley$Place" ⟨"NightValley$Place", "directionOf", "(LNightValley$Place;)I"⟩ ⟨"NightValley$Place", "directionOf", "(LNightValley$Place;)I"⟩ ∈ GW := gw_4 (List.mem_of_getElem? (i := 133) rfl) rfl
theorem gw_4_134 : Cond.code ⟨"NightValley$Place", "directionOf", "(LNightValley$Place;)I"⟩ prog_6_method_4_code 4 (Option.some FieldType.int) ∈ GW := gw_4 (List.mem_of_getElem? (i := 134) rfl) rfl
theorem gw_4_135 : Cond.methodLink "NightValleyLaw" 204 ⟨"NightValleyLaw", "ground", "(LNightValley;I[J)I"⟩ ∈ GW := gw_4 (List.mem_of_getElem? (i := 135) rfl) rfl
theorem gw_4_136 : Cond.static ⟨"NightValleyLaw", "ground", "(LNightValley;I[J)I"⟩ ∈ GW := gw_4 (List.mem_of_getElem? (i := 136) rfl) rfl
theorem gw_4_137 : Cond.codeWith ⟨"NightValleyLaw", "ground", "(LNightValley;I[J)I"⟩ method_26_code 4 (Option.some FieldType.int) [(0, 9, 12, 13)] ∈ GW := gw_4 (List.mem_of_getElem? (i := 137) rfl) rfl
theorem gw_4_138 : Cond.methodLink "NightValleyLaw" 92 ⟨"NightValley", "ground", "(I)I"⟩ ∈ GW := gw_4 (List.mem_of_getElem? (i := 138) rfl) rfl
theorem gw_4_139 : Cond.instanceMethod ⟨"NightValley", "ground", "(I)I"⟩ ∈ GW := gw_4 (List.mem_of_getElem? (i := 139) rfl) rfl
theorem gw_4_140 : Cond.selects "NightValley" ⟨"NightValley", "ground", "(I)I"⟩ ⟨"NightValley", "ground", "(I)I"⟩ ∈ GW := gw_4 (List.mem_of_getElem? (i := 140) rfl) rfl
theorem gw_4_141 : Cond.code ⟨"NightValley", "ground", "(I)I"⟩ prog_1_method_26_code 6 (Option.some FieldType.int) ∈ GW := gw_4 (List.mem_of_getElem? (i := 141) rfl) rfl
theorem gw_4_142 : Cond.methodLink "NightValleyLaw" 207 ⟨"NightValleyLaw", "way", "(LNightValley;III[J)I"⟩ ∈ GW := gw_4 (List.mem_of_getElem? (i := 142) rfl) rfl
theorem gw_4_143 : Cond.static ⟨"NightValleyLaw", "way", "(LNightValley;III[J)I"⟩ ∈ GW := gw_4 (List.mem_of_getElem? (i := 143) rfl) rfl
theorem gw_4_144 : Cond.codeWith ⟨"NightValleyLaw", "way", "(LNightValley;III[J)I"⟩ method_27_code 6 (Option.some FieldType.int) [(0, 12, 15, 13), (0, 12, 19, 23)] ∈ GW := gw_4 (List.mem_of_getElem? (i := 144) rfl) rfl
theorem gw_4_145 : Cond.methodLink "NightValleyLaw" 95 ⟨"NightValley", "way", "(III)I"⟩ ∈ GW := gw_4 (List.mem_of_getElem? (i := 145) rfl) rfl
theorem gw_4_146 : Cond.instanceMethod ⟨"NightValley", "way", "(III)I"⟩ ∈ GW := gw_4 (List.mem_of_getElem? (i := 146) rfl) rfl
theorem gw_4_147 : Cond.selects "NightValley" ⟨"NightValley", "way", "(III)I"⟩ ⟨"NightValley", "way", "(III)I"⟩ ∈ GW := gw_4 (List.mem_of_getElem? (i := 147) rfl) rfl
theorem gw_4_148 : Cond.code ⟨"NightValley", "way", "(III)I"⟩ prog_1_method_27_code 6 (Option.some FieldType.int) ∈ GW := gw_4 (List.mem_of_getElem? (i := 148) rfl) rfl
theorem gw_4_149 : Cond.methodLink "NightValley" 290 ⟨"NightValley$Walk", "darken", "()V"⟩ ∈ GW := gw_4 (List.mem_of_getElem? (i := 149) rfl) rfl
theorem gw_4_150 : Cond.instanceMethod ⟨"NightValley$Walk", "darken", "()V"⟩ ∈ GW := gw_4 (List.mem_of_getElem? (i := 150) rfl) rfl
theorem gw_4_151 : Cond.selects "NightValley$Walk" ⟨"NightValley$Walk", "darken", "()V"⟩ ⟨"NightValley$Walk", "darken", "()V"⟩ ∈ GW := gw_4 (List.mem_of_getElem? (i := 151) rfl) rfl
theorem gw_4_152 : Cond.code ⟨"NightValley$Walk", "darken", "()V"⟩ prog_10_method_2_code 1 (Option.none : Option FieldType) ∈ GW := gw_4 (List.mem_of_getElem? (i := 152) rfl) rfl
theorem gw_4_153 : Cond.methodLink "NightValley$Walk" 21 ⟨"java/util/Arrays", "fill", "([II)V"⟩ ∈ GW := gw_4 (List.mem_of_getElem? (i := 153) rfl) rfl
theorem gw_4_154 : Cond.static ⟨"java/util/Arrays", "fill", "([II)V"⟩ ∈ GW := gw_4 (List.mem_of_getElem? (i := 154) rfl) rfl
theorem gw_4_155 : Cond.code ⟨"java/util/Arrays", "fill", "([II)V"⟩ prog_28_method_103_code 4 (Option.none : Option FieldType) ∈ GW := gw_4 (List.mem_of_getElem? (i := 155) rfl) rfl
theorem gw_4_156 : Cond.methodLink "NightValley" 293 ⟨"NightValley$Walk", "shine", "(ILNightValley$Place;)V"⟩ ∈ GW := gw_4 (List.mem_of_getElem? (i := 156) rfl) rfl
theorem gw_4_157 : Cond.instanceMethod ⟨"NightValley$Walk", "shine", "(ILNightValley$Place;)V"⟩ ∈ GW := gw_4 (List.mem_of_getElem? (i := 157) rfl) rfl
theorem gw_4_158 : Cond.selects "NightValley$Walk" ⟨"NightValley$Walk", "shine", "(ILNightValley$Place;)V"⟩ ⟨"NightValley$Walk", "shine", "(ILNightValley$Place;)V"⟩ ∈ GW := gw_4 (List.mem_of_getElem? (i := 158) rfl) rfl
theorem gw_4_159 : Cond.code ⟨"NightValley$Walk", "shine", "(ILNightValley$Place;)V"⟩ prog_10_method_3_code 4 (Option.none : Option FieldType) ∈ GW := gw_4 (List.mem_of_getElem? (i := 159) rfl) rfl
theorem gw_4_161 : Cond.methodLink "NightValley" 297 ⟨"NightValley$Walk", "leastSteps", "(III)I"⟩ ∈ GW := gw_4 (List.mem_of_getElem? (i := 161) rfl) rfl
theorem gw_4_162 : Cond.instanceMethod ⟨"NightValley$Walk", "leastSteps", "(III)I"⟩ ∈ GW := gw_4 (List.mem_of_getElem? (i := 162) rfl) rfl
theorem gw_4_163 : Cond.selects "NightValley$Walk" ⟨"NightValley$Walk", "leastSteps", "(III)I"⟩ ⟨"NightValley$Walk", "leastSteps", "(III)I"⟩ ∈ GW := gw_4 (List.mem_of_getElem? (i := 163) rfl) rfl
theorem gw_4_164 : Cond.code ⟨"NightValley$Walk", "leastSteps", "(III)I"⟩ prog_10_method_4_code 5 (Option.some FieldType.int) ∈ GW := gw_4 (List.mem_of_getElem? (i := 164) rfl) rfl
theorem gw_4_165 : Cond.methodLink "NightValley$Walk" 43 ⟨"NightValley$Walk", "reach", "(III)V"⟩ ∈ GW := gw_4 (List.mem_of_getElem? (i := 165) rfl) rfl
theorem gw_4_167 : Cond.instanceMethod ⟨"NightValley$Walk", "reach", "(III)V"⟩ ∈ GW := gw_4 (List.mem_of_getElem? (i := 167) rfl) rfl
theorem gw_4_168 : Cond.code ⟨"NightValley$Walk", "reach", "(III)V"⟩ prog_10_method_6_code 4 (Option.none : Option FieldType) ∈ GW := gw_4 (List.mem_of_getElem? (i := 168) rfl) rfl
theorem gw_4_169 : Cond.methodLink "NightValley$Walk" 47 ⟨"NightValley$Walk", "goOn", "(II)V"⟩ ∈ GW := gw_4 (List.mem_of_getElem? (i := 169) rfl) rfl
theorem gw_4_171 : Cond.instanceMethod ⟨"NightValley$Walk", "goOn", "(II)V"⟩ ∈ GW := gw_4 (List.mem_of_getElem? (i := 171) rfl) rfl
theorem gw_4_172 : Cond.code ⟨"NightValley$Walk", "goOn", "(II)V"⟩ prog_10_method_5_code 5 (Option.none : Option FieldType) ∈ GW := gw_4 (List.mem_of_getElem? (i := 172) rfl) rfl
theorem gw_4_173 : Cond.methodLink "NightValleyLaw" 210 ⟨"NightValleyLaw", "ofReading", "(LNightValley;III[J)I"⟩ ∈ GW := gw_4 (List.mem_of_getElem? (i := 173) rfl) rfl
theorem gw_4_174 : Cond.static ⟨"NightValleyLaw", "ofReading", "(LNightValley;III[J)I"⟩ ∈ GW := gw_4 (List.mem_of_getElem? (i := 174) rfl) rfl
theorem gw_4_175 : Cond.codeWith ⟨"NightValleyLaw", "ofReading", "(LNightValley;III[J)I"⟩ method_28_code 6 (Option.some FieldType.int) [(0, 12, 15, 13), (0, 12, 19, 23)] ∈ GW := gw_4 (List.mem_of_getElem? (i := 175) rfl) rfl
theorem gw_4_176 : Cond.methodLink "NightValleyLaw" 98 ⟨"NightValley", "ofReading", "(III)I"⟩ ∈ GW := gw_4 (List.mem_of_getElem? (i := 176) rfl) rfl
theorem gw_4_177 : Cond.instanceMethod ⟨"NightValley", "ofReading", "(III)I"⟩ ∈ GW := gw_4 (List.mem_of_getElem? (i := 177) rfl) rfl
theorem gw_4_178 : Cond.selects "NightValley" ⟨"NightValley", "ofReading", "(III)I"⟩ ⟨"NightValley", "ofReading", "(III)I"⟩ ∈ GW := gw_4 (List.mem_of_getElem? (i := 178) rfl) rfl
theorem gw_4_179 : Cond.code ⟨"NightValley", "ofReading", "(III)I"⟩ prog_1_method_28_code 6 (Option.some FieldType.int) ∈ GW := gw_4 (List.mem_of_getElem? (i := 179) rfl) rfl
theorem gw_4_180 : Cond.methodLink "NightValley" 309 ⟨"NightValley$Meter", "corrected", "(LNightValley$Reading;)I"⟩ ∈ GW := gw_4 (List.mem_of_getElem? (i := 180) rfl) rfl
theorem gw_4_181 : Cond.methodLink "NightValleyLaw" 213 ⟨"NightValleyLaw", "trend", "(LNightValley;I[J)I"⟩ ∈ GW := gw_4 (List.mem_of_getElem? (i := 181) rfl) rfl
theorem gw_4_182 : Cond.static ⟨"NightValleyLaw", "trend", "(LNightValley;I[J)I"⟩ ∈ GW := gw_4 (List.mem_of_getElem? (i := 182) rfl) rfl
theorem gw_4_183 : Cond.codeWith ⟨"NightValleyLaw", "trend", "(LNightValley;I[J)I"⟩ method_29_code 4 (Option.some FieldType.int) [(0, 8, 11, 13), (0, 8, 14, 35)] ∈ GW := gw_4 (List.mem_of_getElem? (i := 183) rfl) rfl
theorem gw_4_184 : Cond.methodLink "NightValleyLaw" 101 ⟨"NightValley", "trend", "(I)J"⟩ ∈ GW := gw_4 (List.mem_of_getElem? (i := 184) rfl) rfl
theorem gw_4_185 : Cond.instanceMethod ⟨"NightValley", "trend", "(I)J"⟩ ∈ GW := gw_4 (List.mem_of_getElem? (i := 185) rfl) rfl
theorem gw_4_186 : Cond.selects "NightValley" ⟨"NightValley", "trend", "(I)J"⟩ ⟨"NightValley", "trend", "(I)J"⟩ ∈ GW := gw_4 (List.mem_of_getElem? (i := 186) rfl) rfl
theorem gw_4_187 : Cond.code ⟨"NightValley", "trend", "(I)J"⟩ prog_1_method_29_code 2 (Option.some FieldType.long) ∈ GW := gw_4 (List.mem_of_getElem? (i := 187) rfl) rfl
theorem gw_4_188 : Cond.methodLink "NightValley" 313 ⟨"NightValley$Meter", "slope", "()J"⟩ ∈ GW := gw_4 (List.mem_of_getElem? (i := 188) rfl) rfl
theorem gw_4_189 : Cond.instanceMethod ⟨"NightValley$Meter", "slope", "()J"⟩ ∈ GW := gw_4 (List.mem_of_getElem? (i := 189) rfl) rfl
theorem gw_4_190 : Cond.selects "NightValley$Meter" ⟨"NightValley$Meter", "slope", "()J"⟩ ⟨"NightValley$Meter", "slope", "()J"⟩ ∈ GW := gw_4 (List.mem_of_getElem? (i := 190) rfl) rfl
theorem gw_4_191 : Cond.code ⟨"NightValley$Meter", "slope", "()J"⟩ prog_5_method_5_code 17 (Option.some FieldType.long) ∈ GW := gw_4 (List.mem_of_getElem? (i := 191) rfl) rfl
theorem gw_4_192 : Cond.classLink "NightValley$Meter" 63 "java/lang/IllegalStateException" ∈ GW := gw_4 (List.mem_of_getElem? (i := 192) rfl) rfl
theorem gw_4_193 : Cond.methodLink "NightValley$Meter" 65 ⟨"java/lang/IllegalStateException", "<init>", "()V"⟩ ∈ GW := gw_4 (List.mem_of_getElem? (i := 193) rfl) rfl
theorem gw_4_194 : Cond.constantLong "NightValley$Meter" 66 (1000 : Int64) ∈ GW := gw_4 (List.mem_of_getElem? (i := 194) rfl) rfl
theorem gw_4_195 : Cond.methodLink "NightValleyLaw" 221 ⟨"NightValleyLaw", "trails", "(LNightValley;II[J)I"⟩ ∈ GW := gw_4 (List.mem_of_getElem? (i := 195) rfl) rfl
theorem gw_4_196 : Cond.static ⟨"NightValleyLaw", "trails", "(LNightValley;II[J)I"⟩ ∈ GW := gw_4 (List.mem_of_getElem? (i := 196) rfl) rfl
theorem gw_4_197 : Cond.codeWith ⟨"NightValleyLaw", "trails", "(LNightValley;II[J)I"⟩ method_30_code 5 (Option.some FieldType.int) [(0, 10, 13, 23)] ∈ GW := gw_4 (List.mem_of_getElem? (i := 197) rfl) rfl
theorem gw_4_198 : Cond.methodLink "NightValleyLaw" 105 ⟨"NightValley", "trails", "(II)I"⟩ ∈ GW := gw_4 (List.mem_of_getElem? (i := 198) rfl) rfl
theorem gw_4_199 : Cond.instanceMethod ⟨"NightValley", "trails", "(II)I"⟩ ∈ GW := gw_4 (List.mem_of_getElem? (i := 199) rfl) rfl
theorem gw_4_200 : Cond.selects "NightValley" ⟨"NightValley", "trails", "(II)I"⟩ ⟨"NightValley", "trails", "(II)I"⟩ ∈ GW := gw_4 (List.mem_of_getElem? (i := 200) rfl) rfl
theorem gw_4_201 : Cond.code ⟨"NightValley", "trails", "(II)I"⟩ prog_1_method_31_code 5 (Option.some FieldType.int) ∈ GW := gw_4 (List.mem_of_getElem? (i := 201) rfl) rfl
theorem gw_4_202 : Cond.methodLink "NightValley" 323 ⟨"NightValley", "passesAt", "(I)I"⟩ ∈ GW := gw_4 (List.mem_of_getElem? (i := 202) rfl) rfl
theorem gw_4_204 : Cond.instanceMethod ⟨"NightValley", "passesAt", "(I)I"⟩ ∈ GW := gw_4 (List.mem_of_getElem? (i := 204) rfl) rfl
theorem gw_4_205 : Cond.code ⟨"NightValley", "passesAt", "(I)I"⟩ prog_1_method_53_code 4 (Option.some FieldType.int) ∈ GW := gw_4 (List.mem_of_getElem? (i := 205) rfl) rfl
theorem gw_4_206 : Cond.methodLink "NightValley" 376 ⟨"NightValley$Satellite", "isOver", "(I)Z"⟩ ∈ GW := gw_4 (List.mem_of_getElem? (i := 206) rfl) rfl
theorem gw_4_207 : Cond.instanceMethod ⟨"NightValley$Satellite", "isOver", "(I)Z"⟩ ∈ GW := gw_4 (List.mem_of_getElem? (i := 207) rfl) rfl
theorem gw_4_208 : Cond.selects "NightValley$Satellite" ⟨"NightValley$Satellite", "isOver", "(I)Z"⟩ ⟨"NightValley$Satellite", "isOver", "(I)Z"⟩ ∈ GW := gw_4 (List.mem_of_getElem? (i := 208) rfl) rfl
theorem gw_4_209 : Cond.code ⟨"NightValley$Satellite", "isOver", "(I)Z"⟩ prog_8_method_2_code 2 (Option.some FieldType.boolean) ∈ GW := gw_4 (List.mem_of_getElem? (i := 209) rfl) rfl
theorem gw_4_210 : Cond.methodLink "NightValleyLaw" 224 ⟨"NightValleyLaw", "culprit", "(LNightValley;I[J)I"⟩ ∈ GW := gw_4 (List.mem_of_getElem? (i := 210) rfl) rfl
theorem gw_4_211 : Cond.static ⟨"NightValleyLaw", "culprit", "(LNightValley;I[J)I"⟩ ∈ GW := gw_4 (List.mem_of_getElem? (i := 211) rfl) rfl
theorem gw_4_212 : Cond.codeWith ⟨"NightValleyLaw", "culprit", "(LNightValley;I[J)I"⟩ method_31_code 4 (Option.some FieldType.int) [(0, 9, 12, 13)] ∈ GW := gw_4 (List.mem_of_getElem? (i := 212) rfl) rfl
theorem gw_4_213 : Cond.methodLink "NightValleyLaw" 108 ⟨"NightValley", "culprit", "(I)I"⟩ ∈ GW := gw_4 (List.mem_of_getElem? (i := 213) rfl) rfl
theorem gw_4_214 : Cond.instanceMethod ⟨"NightValley", "culprit", "(I)I"⟩ ∈ GW := gw_4 (List.mem_of_getElem? (i := 214) rfl) rfl
theorem gw_4_215 : Cond.selects "NightValley" ⟨"NightValley", "culprit", "(I)I"⟩ ⟨"NightValley", "culprit", "(I)I"⟩ ∈ GW := gw_4 (List.mem_of_getElem? (i := 215) rfl) rfl
theorem gw_4_216 : Cond.code ⟨"NightValley", "culprit", "(I)I"⟩ prog_1_method_32_code 7 (Option.some FieldType.int) ∈ GW := gw_4 (List.mem_of_getElem? (i := 216) rfl) rfl
theorem gw_4_217 : Cond.methodLink "NightValleyLaw" 227 ⟨"NightValleyLaw", "plan", "(LNightValley;III[J)I"⟩ ∈ GW := gw_4 (List.mem_of_getElem? (i := 217) rfl) rfl
theorem gw_4_218 : Cond.static ⟨"NightValleyLaw", "plan", "(LNightValley;III[J)I"⟩ ∈ GW := gw_4 (List.mem_of_getElem? (i := 218) rfl) rfl
theorem gw_4_219 : Cond.codeWith ⟨"NightValleyLaw", "plan", "(LNightValley;III[J)I"⟩ method_32_code 6 (Option.some FieldType.int) [(0, 12, 15, 13), (0, 12, 19, 23)] ∈ GW := gw_4 (List.mem_of_getElem? (i := 219) rfl) rfl
theorem gw_4_220 : Cond.methodLink "NightValleyLaw" 111 ⟨"NightValley", "plan", "(III)I"⟩ ∈ GW := gw_4 (List.mem_of_getElem? (i := 220) rfl) rfl
theorem gw_4_221 : Cond.instanceMethod ⟨"NightValley", "plan", "(III)I"⟩ ∈ GW := gw_4 (List.mem_of_getElem? (i := 221) rfl) rfl
theorem gw_4_222 : Cond.selects "NightValley" ⟨"NightValley", "plan", "(III)I"⟩ ⟨"NightValley", "plan", "(III)I"⟩ ∈ GW := gw_4 (List.mem_of_getElem? (i := 222) rfl) rfl
theorem gw_4_223 : Cond.code ⟨"NightValley", "plan", "(III)I"⟩ prog_1_method_33_code 8 (Option.some FieldType.int) ∈ GW := gw_4 (List.mem_of_getElem? (i := 223) rfl) rfl
theorem gw_4_224 : Cond.methodLink "NightValley" 326 ⟨"NightValley$Choice", "clear", "()V"⟩ ∈ GW := gw_4 (List.mem_of_getElem? (i := 224) rfl) rfl
theorem gw_4_225 : Cond.instanceMethod ⟨"NightValley$Choice", "clear", "()V"⟩ ∈ GW := gw_4 (List.mem_of_getElem? (i := 225) rfl) rfl
theorem gw_4_226 : Cond.selects "NightValley$Choice" ⟨"NightValley$Choice", "clear", "()V"⟩ ⟨"NightValley$Choice", "clear", "()V"⟩ ∈ GW := gw_4 (List.mem_of_getElem? (i := 226) rfl) rfl
theorem gw_4_227 : Cond.code ⟨"NightValley$Choice", "clear", "()V"⟩ prog_2_method_2_code 1 (Option.none : Option FieldType) ∈ GW := gw_4 (List.mem_of_getElem? (i := 227) rfl) rfl
theorem gw_4_228 : Cond.methodLink "NightValley" 329 ⟨"NightValley", "planCost", "(LNightValley$Lamp;)I"⟩ ∈ GW := gw_4 (List.mem_of_getElem? (i := 228) rfl) rfl
theorem gw_4_230 : Cond.instanceMethod ⟨"NightValley", "planCost", "(LNightValley$Lamp;)I"⟩ ∈ GW := gw_4 (List.mem_of_getElem? (i := 230) rfl) rfl
theorem gw_4_231 : Cond.code ⟨"NightValley", "planCost", "(LNightValley$Lamp;)I"⟩ prog_1_method_52_code 2 (Option.some FieldType.int) ∈ GW := gw_4 (List.mem_of_getElem? (i := 231) rfl) rfl
theorem gw_4_232 : Cond.methodLink "NightValley" 333 ⟨"NightValley$Choice", "offer", "(II)V"⟩ ∈ GW := gw_4 (List.mem_of_getElem? (i := 232) rfl) rfl
theorem gw_4_233 : Cond.instanceMethod ⟨"NightValley$Choice", "offer", "(II)V"⟩ ∈ GW := gw_4 (List.mem_of_getElem? (i := 233) rfl) rfl
theorem gw_4_234 : Cond.selects "NightValley$Choice" ⟨"NightValley$Choice", "offer", "(II)V"⟩ ⟨"NightValley$Choice", "offer", "(II)V"⟩ ∈ GW := gw_4 (List.mem_of_getElem? (i := 234) rfl) rfl
theorem gw_4_235 : Cond.code ⟨"NightValley$Choice", "offer", "(II)V"⟩ prog_2_method_3_code 3 (Option.none : Option FieldType) ∈ GW := gw_4 (List.mem_of_getElem? (i := 235) rfl) rfl
theorem gw_4_236 : Cond.methodLink "NightValley" 336 ⟨"NightValley$Choice", "best", "(I)I"⟩ ∈ GW := gw_4 (List.mem_of_getElem? (i := 236) rfl) rfl
theorem gw_4_237 : Cond.instanceMethod ⟨"NightValley$Choice", "best", "(I)I"⟩ ∈ GW := gw_4 (List.mem_of_getElem? (i := 237) rfl) rfl
theorem gw_4_238 : Cond.selects "NightValley$Choice" ⟨"NightValley$Choice", "best", "(I)I"⟩ ⟨"NightValley$Choice", "best", "(I)I"⟩ ∈ GW := gw_4 (List.mem_of_getElem? (i := 238) rfl) rfl
theorem gw_4_239 : Cond.code ⟨"NightValley$Choice", "best", "(I)I"⟩ prog_2_method_4_code 8 (Option.some FieldType.int) ∈ GW := gw_4 (List.mem_of_getElem? (i := 239) rfl) rfl
theorem gw_5_0 : Cond.methodLink "NightValley$Choice" 22 ⟨"NightValley$Choice", "sumOver", "(I[I)I"⟩ ∈ GW := gw_5 (List.mem_of_getElem? (i := 0) rfl) rfl
theorem gw_5_2 : Cond.instanceMethod ⟨"NightValley$Choice", "sumOver", "(I[I)I"⟩ ∈ GW := gw_5 (List.mem_of_getElem? (i := 2) rfl) rfl
theorem gw_5_3 : Cond.code ⟨"NightValley$Choice", "sumOver", "(I[I)I"⟩ prog_2_method_5_code 5 (Option.some FieldType.int) ∈ GW := gw_5 (List.mem_of_getElem? (i := 3) rfl) rfl
theorem gw_5_4 : Cond.classLink "NightValleyLaw" 115 "NightValleyModel" ∈ GW := gw_5 (List.mem_of_getElem? (i := 4) rfl) rfl
theorem gw_5_5 : Cond.instantiable "NightValleyModel" 42 ∈ GW := gw_5 (List.mem_of_getElem? (i := 5) rfl) rfl
theorem gw_5_6 : Cond.methodLink "NightValleyLaw" 117 ⟨"NightValleyModel", "<init>", "()V"⟩ ∈ GW := gw_5 (List.mem_of_getElem? (i := 6) rfl) rfl
theorem gw_5_7 : Cond.instanceMethod ⟨"NightValleyModel", "<init>", "()V"⟩ ∈ GW := gw_5 (List.mem_of_getElem? (i := 7) rfl) rfl
theorem gw_5_8 : Cond.code ⟨"NightValleyModel", "<init>", "()V"⟩ prog_13_method_1_code 2 (Option.none : Option FieldType) ∈ GW := gw_5 (List.mem_of_getElem? (i := 8) rfl) rfl
theorem gw_5_9 : Cond.methodLink "NightValleyModel" 1 ⟨"java/lang/Object", "<init>", "()V"⟩ ∈ GW := gw_5 (List.mem_of_getElem? (i := 9) rfl) rfl
theorem gw_5_10 : Cond.fieldLink "NightValleyModel" 137 "NightValleyModel" "time" "I" ∈ GW := gw_5 (List.mem_of_getElem? (i := 10) rfl) rfl
theorem gw_5_11 : Cond.fieldLink "NightValleyModel" 134 "NightValleyModel" "air" "I" ∈ GW := gw_5 (List.mem_of_getElem? (i := 11) rfl) rfl
theorem gw_5_12 : Cond.fieldLink "NightValleyModel" 7 "NightValleyModel" "isRidge" "[Z" ∈ GW := gw_5 (List.mem_of_getElem? (i := 12) rfl) rfl
theorem gw_5_13 : Cond.fieldLink "NightValleyModel" 13 "NightValleyModel" "zone" "[I" ∈ GW := gw_5 (List.mem_of_getElem? (i := 13) rfl) rfl
theorem gw_5_14 : Cond.fieldLink "NightValleyModel" 17 "NightValleyModel" "curfew" "[I" ∈ GW := gw_5 (List.mem_of_getElem? (i := 14) rfl) rfl
theorem gw_5_15 : Cond.fieldLink "NightValleyModel" 20 "NightValleyModel" "most" "[I" ∈ GW := gw_5 (List.mem_of_getElem? (i := 15) rfl) rfl
theorem gw_5_16 : Cond.fieldLink "NightValleyModel" 23 "NightValleyModel" "least" "[I" ∈ GW := gw_5 (List.mem_of_getElem? (i := 16) rfl) rfl
theorem gw_5_17 : Cond.fieldLink "NightValleyModel" 26 "NightValleyModel" "isFeast" "[Z" ∈ GW := gw_5 (List.mem_of_getElem? (i := 17) rfl) rfl
theorem gw_5_18 : Cond.fieldLink "NightValleyModel" 115 "NightValleyModel" "villages" "I" ∈ GW := gw_5 (List.mem_of_getElem? (i := 18) rfl) rfl
theorem gw_5_19 : Cond.fieldLink "NightValleyModel" 29 "NightValleyModel" "households" "[I" ∈ GW := gw_5 (List.mem_of_getElem? (i := 19) rfl) rfl
theorem gw_5_20 : Cond.fieldLink "NightValleyModel" 32 "NightValleyModel" "coins" "[I" ∈ GW := gw_5 (List.mem_of_getElem? (i := 20) rfl) rfl
theorem gw_5_21 : Cond.fieldLink "NightValleyModel" 35 "NightValleyModel" "fines" "[I" ∈ GW := gw_5 (List.mem_of_getElem? (i := 21) rfl) rfl
theorem gw_5_22 : Cond.fieldLink "NightValleyModel" 38 "NightValleyModel" "darkUntil" "[I" ∈ GW := gw_5 (List.mem_of_getElem? (i := 22) rfl) rfl
theorem gw_5_23 : Cond.fieldLink "NightValleyModel" 118 "NightValleyModel" "lamps" "I" ∈ GW := gw_5 (List.mem_of_getElem? (i := 23) rfl) rfl
theorem gw_5_24 : Cond.fieldLink "NightValleyModel" 41 "NightValleyModel" "owner" "[I" ∈ GW := gw_5 (List.mem_of_getElem? (i := 24) rfl) rfl
theorem gw_5_25 : Cond.fieldLink "NightValleyModel" 44 "NightValleyModel" "place" "[I" ∈ GW := gw_5 (List.mem_of_getElem? (i := 25) rfl) rfl
theorem gw_5_26 : Cond.fieldLink "NightValleyModel" 47 "NightValleyModel" "flux" "[I" ∈ GW := gw_5 (List.mem_of_getElem? (i := 26) rfl) rfl
theorem gw_5_27 : Cond.fieldLink "NightValleyModel" 50 "NightValleyModel" "colour" "[I" ∈ GW := gw_5 (List.mem_of_getElem? (i := 27) rfl) rfl
theorem gw_5_28 : Cond.fieldLink "NightValleyModel" 53 "NightValleyModel" "shield" "[I" ∈ GW := gw_5 (List.mem_of_getElem? (i := 28) rfl) rfl
theorem gw_5_29 : Cond.fieldLink "NightValleyModel" 56 "NightValleyModel" "dim" "[I" ∈ GW := gw_5 (List.mem_of_getElem? (i := 29) rfl) rfl
theorem gw_5_30 : Cond.fieldLink "NightValleyModel" 59 "NightValleyModel" "from" "[I" ∈ GW := gw_5 (List.mem_of_getElem? (i := 30) rfl) rfl
theorem gw_5_31 : Cond.fieldLink "NightValleyModel" 62 "NightValleyModel" "to" "[I" ∈ GW := gw_5 (List.mem_of_getElem? (i := 31) rfl) rfl
theorem gw_5_32 : Cond.fieldLink "NightValleyModel" 65 "NightValleyModel" "isExempt" "[Z" ∈ GW := gw_5 (List.mem_of_getElem? (i := 32) rfl) rfl
theorem gw_5_33 : Cond.fieldLink "NightValleyModel" 68 "NightValleyModel" "age" "[I" ∈ GW := gw_5 (List.mem_of_getElem? (i := 33) rfl) rfl
theorem gw_5_34 : Cond.fieldLink "NightValleyModel" 71 "NightValleyModel" "boundUntil" "[I" ∈ GW := gw_5 (List.mem_of_getElem? (i := 34) rfl) rfl
theorem gw_5_35 : Cond.fieldLink "NightValleyModel" 74 "NightValleyModel" "finedAt" "[I" ∈ GW := gw_5 (List.mem_of_getElem? (i := 35) rfl) rfl
theorem gw_5_36 : Cond.fieldLink "NightValleyModel" 121 "NightValleyModel" "meters" "I" ∈ GW := gw_5 (List.mem_of_getElem? (i := 36) rfl) rfl
theorem gw_5_37 : Cond.fieldLink "NightValleyModel" 77 "NightValleyModel" "at" "[I" ∈ GW := gw_5 (List.mem_of_getElem? (i := 37) rfl) rfl
theorem gw_5_38 : Cond.fieldLink "NightValleyModel" 80 "NightValleyModel" "zero" "[I" ∈ GW := gw_5 (List.mem_of_getElem? (i := 38) rfl) rfl
theorem gw_5_39 : Cond.fieldLink "NightValleyModel" 83 "NightValleyModel" "drift" "[I" ∈ GW := gw_5 (List.mem_of_getElem? (i := 39) rfl) rfl
theorem gw_5_40 : Cond.fieldLink "NightValleyModel" 86 "NightValleyModel" "told" "[I" ∈ GW := gw_5 (List.mem_of_getElem? (i := 40) rfl) rfl
theorem gw_5_41 : Cond.fieldLink "NightValleyModel" 89 "NightValleyModel" "readings" "[I" ∈ GW := gw_5 (List.mem_of_getElem? (i := 41) rfl) rfl
theorem gw_5_42 : Cond.fieldLink "NightValleyModel" 92 "NightValleyModel" "readAt" "[I" ∈ GW := gw_5 (List.mem_of_getElem? (i := 42) rfl) rfl
theorem gw_5_43 : Cond.fieldLink "NightValleyModel" 95 "NightValleyModel" "value" "[I" ∈ GW := gw_5 (List.mem_of_getElem? (i := 43) rfl) rfl
theorem gw_5_44 : Cond.fieldLink "NightValleyModel" 196 "NightValleyModel" "isLost" "Z" ∈ GW := gw_5 (List.mem_of_getElem? (i := 44) rfl) rfl
theorem gw_5_45 : Cond.fieldLink "NightValleyModel" 190 "NightValleyModel" "failed" "I" ∈ GW := gw_5 (List.mem_of_getElem? (i := 45) rfl) rfl
theorem gw_5_46 : Cond.fieldLink "NightValleyModel" 193 "NightValleyModel" "succeeded" "I" ∈ GW := gw_5 (List.mem_of_getElem? (i := 46) rfl) rfl
theorem gw_5_47 : Cond.fieldLink "NightValleyModel" 200 "NightValleyModel" "satellites" "I" ∈ GW := gw_5 (List.mem_of_getElem? (i := 47) rfl) rfl
theorem gw_5_48 : Cond.fieldLink "NightValleyModel" 98 "NightValleyModel" "period" "[I" ∈ GW := gw_5 (List.mem_of_getElem? (i := 48) rfl) rfl
theorem gw_5_49 : Cond.fieldLink "NightValleyModel" 101 "NightValleyModel" "phase" "[I" ∈ GW := gw_5 (List.mem_of_getElem? (i := 49) rfl) rfl
theorem gw_5_50 : Cond.fieldLink "NightValleyModel" 104 "NightValleyModel" "steps" "[I" ∈ GW := gw_5 (List.mem_of_getElem? (i := 50) rfl) rfl
theorem gw_5_51 : Cond.fieldLink "NightValleyModel" 107 "NightValleyModel" "thrown" "I" ∈ GW := gw_5 (List.mem_of_getElem? (i := 51) rfl) rfl
theorem gw_5_52 : Cond.lays "NightValleyModel" "NightValleyModel" "time" "I" ∈ GW := gw_5 (List.mem_of_getElem? (i := 52) rfl) rfl
theorem gw_5_53 : Cond.soleField "NightValleyModel" "time" ∈ GW := gw_5 (List.mem_of_getElem? (i := 53) rfl) rfl
theorem gw_5_54 : Cond.lays "NightValleyModel" "NightValleyModel" "air" "I" ∈ GW := gw_5 (List.mem_of_getElem? (i := 54) rfl) rfl
theorem gw_5_55 : Cond.soleField "NightValleyModel" "air" ∈ GW := gw_5 (List.mem_of_getElem? (i := 55) rfl) rfl
theorem gw_5_56 : Cond.laysFinal "NightValleyModel" "NightValleyModel" "isRidge" "[Z" ∈ GW := gw_5 (List.mem_of_getElem? (i := 56) rfl) rfl
theorem gw_5_57 : Cond.soleField "NightValleyModel" "isRidge" ∈ GW := gw_5 (List.mem_of_getElem? (i := 57) rfl) rfl
theorem gw_5_58 : Cond.laysFinal "NightValleyModel" "NightValleyModel" "zone" "[I" ∈ GW := gw_5 (List.mem_of_getElem? (i := 58) rfl) rfl
theorem gw_5_59 : Cond.soleField "NightValleyModel" "zone" ∈ GW := gw_5 (List.mem_of_getElem? (i := 59) rfl) rfl
theorem gw_5_60 : Cond.laysFinal "NightValleyModel" "NightValleyModel" "curfew" "[I" ∈ GW := gw_5 (List.mem_of_getElem? (i := 60) rfl) rfl
theorem gw_5_61 : Cond.soleField "NightValleyModel" "curfew" ∈ GW := gw_5 (List.mem_of_getElem? (i := 61) rfl) rfl
theorem gw_5_62 : Cond.laysFinal "NightValleyModel" "NightValleyModel" "most" "[I" ∈ GW := gw_5 (List.mem_of_getElem? (i := 62) rfl) rfl
theorem gw_5_63 : Cond.soleField "NightValleyModel" "most" ∈ GW := gw_5 (List.mem_of_getElem? (i := 63) rfl) rfl
theorem gw_5_64 : Cond.laysFinal "NightValleyModel" "NightValleyModel" "least" "[I" ∈ GW := gw_5 (List.mem_of_getElem? (i := 64) rfl) rfl
theorem gw_5_65 : Cond.soleField "NightValleyModel" "least" ∈ GW := gw_5 (List.mem_of_getElem? (i := 65) rfl) rfl
theorem gw_5_66 : Cond.laysFinal "NightValleyModel" "NightValleyModel" "isFeast" "[Z" ∈ GW := gw_5 (List.mem_of_getElem? (i := 66) rfl) rfl
theorem gw_5_67 : Cond.soleField "NightValleyModel" "isFeast" ∈ GW := gw_5 (List.mem_of_getElem? (i := 67) rfl) rfl
theorem gw_5_68 : Cond.lays "NightValleyModel" "NightValleyModel" "villages" "I" ∈ GW := gw_5 (List.mem_of_getElem? (i := 68) rfl) rfl
theorem gw_5_69 : Cond.soleField "NightValleyModel" "villages" ∈ GW := gw_5 (List.mem_of_getElem? (i := 69) rfl) rfl
theorem gw_5_70 : Cond.laysFinal "NightValleyModel" "NightValleyModel" "households" "[I" ∈ GW := gw_5 (List.mem_of_getElem? (i := 70) rfl) rfl
theorem gw_5_71 : Cond.soleField "NightValleyModel" "households" ∈ GW := gw_5 (List.mem_of_getElem? (i := 71) rfl) rfl
theorem gw_5_72 : Cond.laysFinal "NightValleyModel" "NightValleyModel" "coins" "[I" ∈ GW := gw_5 (List.mem_of_getElem? (i := 72) rfl) rfl
theorem gw_5_73 : Cond.soleField "NightValleyModel" "coins" ∈ GW := gw_5 (List.mem_of_getElem? (i := 73) rfl) rfl
theorem gw_5_74 : Cond.laysFinal "NightValleyModel" "NightValleyModel" "fines" "[I" ∈ GW := gw_5 (List.mem_of_getElem? (i := 74) rfl) rfl
theorem gw_5_75 : Cond.soleField "NightValleyModel" "fines" ∈ GW := gw_5 (List.mem_of_getElem? (i := 75) rfl) rfl
theorem gw_5_76 : Cond.laysFinal "NightValleyModel" "NightValleyModel" "darkUntil" "[I" ∈ GW := gw_5 (List.mem_of_getElem? (i := 76) rfl) rfl
theorem gw_5_77 : Cond.soleField "NightValleyModel" "darkUntil" ∈ GW := gw_5 (List.mem_of_getElem? (i := 77) rfl) rfl
theorem gw_5_78 : Cond.lays "NightValleyModel" "NightValleyModel" "lamps" "I" ∈ GW := gw_5 (List.mem_of_getElem? (i := 78) rfl) rfl
theorem gw_5_79 : Cond.soleField "NightValleyModel" "lamps" ∈ GW := gw_5 (List.mem_of_getElem? (i := 79) rfl) rfl
theorem gw_5_80 : Cond.laysFinal "NightValleyModel" "NightValleyModel" "owner" "[I" ∈ GW := gw_5 (List.mem_of_getElem? (i := 80) rfl) rfl
theorem gw_5_81 : Cond.soleField "NightValleyModel" "owner" ∈ GW := gw_5 (List.mem_of_getElem? (i := 81) rfl) rfl
theorem gw_5_82 : Cond.laysFinal "NightValleyModel" "NightValleyModel" "place" "[I" ∈ GW := gw_5 (List.mem_of_getElem? (i := 82) rfl) rfl
theorem gw_5_83 : Cond.soleField "NightValleyModel" "place" ∈ GW := gw_5 (List.mem_of_getElem? (i := 83) rfl) rfl
theorem gw_5_84 : Cond.laysFinal "NightValleyModel" "NightValleyModel" "flux" "[I" ∈ GW := gw_5 (List.mem_of_getElem? (i := 84) rfl) rfl
theorem gw_5_85 : Cond.soleField "NightValleyModel" "flux" ∈ GW := gw_5 (List.mem_of_getElem? (i := 85) rfl) rfl
theorem gw_5_86 : Cond.laysFinal "NightValleyModel" "NightValleyModel" "colour" "[I" ∈ GW := gw_5 (List.mem_of_getElem? (i := 86) rfl) rfl
theorem gw_5_87 : Cond.soleField "NightValleyModel" "colour" ∈ GW := gw_5 (List.mem_of_getElem? (i := 87) rfl) rfl
theorem gw_5_88 : Cond.laysFinal "NightValleyModel" "NightValleyModel" "shield" "[I" ∈ GW := gw_5 (List.mem_of_getElem? (i := 88) rfl) rfl
theorem gw_5_89 : Cond.soleField "NightValleyModel" "shield" ∈ GW := gw_5 (List.mem_of_getElem? (i := 89) rfl) rfl
theorem gw_5_90 : Cond.laysFinal "NightValleyModel" "NightValleyModel" "dim" "[I" ∈ GW := gw_5 (List.mem_of_getElem? (i := 90) rfl) rfl
theorem gw_5_91 : Cond.soleField "NightValleyModel" "dim" ∈ GW := gw_5 (List.mem_of_getElem? (i := 91) rfl) rfl
theorem gw_5_92 : Cond.laysFinal "NightValleyModel" "NightValleyModel" "from" "[I" ∈ GW := gw_5 (List.mem_of_getElem? (i := 92) rfl) rfl
theorem gw_5_93 : Cond.soleField "NightValleyModel" "from" ∈ GW := gw_5 (List.mem_of_getElem? (i := 93) rfl) rfl
theorem gw_5_94 : Cond.laysFinal "NightValleyModel" "NightValleyModel" "to" "[I" ∈ GW := gw_5 (List.mem_of_getElem? (i := 94) rfl) rfl
theorem gw_5_95 : Cond.soleField "NightValleyModel" "to" ∈ GW := gw_5 (List.mem_of_getElem? (i := 95) rfl) rfl
theorem gw_5_96 : Cond.laysFinal "NightValleyModel" "NightValleyModel" "isExempt" "[Z" ∈ GW := gw_5 (List.mem_of_getElem? (i := 96) rfl) rfl
theorem gw_5_97 : Cond.soleField "NightValleyModel" "isExempt" ∈ GW := gw_5 (List.mem_of_getElem? (i := 97) rfl) rfl
theorem gw_5_98 : Cond.laysFinal "NightValleyModel" "NightValleyModel" "age" "[I" ∈ GW := gw_5 (List.mem_of_getElem? (i := 98) rfl) rfl
theorem gw_5_99 : Cond.soleField "NightValleyModel" "age" ∈ GW := gw_5 (List.mem_of_getElem? (i := 99) rfl) rfl
theorem gw_5_100 : Cond.laysFinal "NightValleyModel" "NightValleyModel" "boundUntil" "[I" ∈ GW := gw_5 (List.mem_of_getElem? (i := 100) rfl) rfl
theorem gw_5_101 : Cond.soleField "NightValleyModel" "boundUntil" ∈ GW := gw_5 (List.mem_of_getElem? (i := 101) rfl) rfl
theorem gw_5_102 : Cond.laysFinal "NightValleyModel" "NightValleyModel" "finedAt" "[I" ∈ GW := gw_5 (List.mem_of_getElem? (i := 102) rfl) rfl
theorem gw_5_103 : Cond.soleField "NightValleyModel" "finedAt" ∈ GW := gw_5 (List.mem_of_getElem? (i := 103) rfl) rfl
theorem gw_5_104 : Cond.lays "NightValleyModel" "NightValleyModel" "meters" "I" ∈ GW := gw_5 (List.mem_of_getElem? (i := 104) rfl) rfl
theorem gw_5_105 : Cond.soleField "NightValleyModel" "meters" ∈ GW := gw_5 (List.mem_of_getElem? (i := 105) rfl) rfl
theorem gw_5_106 : Cond.laysFinal "NightValleyModel" "NightValleyModel" "at" "[I" ∈ GW := gw_5 (List.mem_of_getElem? (i := 106) rfl) rfl
theorem gw_5_107 : Cond.soleField "NightValleyModel" "at" ∈ GW := gw_5 (List.mem_of_getElem? (i := 107) rfl) rfl
theorem gw_5_108 : Cond.laysFinal "NightValleyModel" "NightValleyModel" "zero" "[I" ∈ GW := gw_5 (List.mem_of_getElem? (i := 108) rfl) rfl
theorem gw_5_109 : Cond.soleField "NightValleyModel" "zero" ∈ GW := gw_5 (List.mem_of_getElem? (i := 109) rfl) rfl
theorem gw_5_110 : Cond.laysFinal "NightValleyModel" "NightValleyModel" "drift" "[I" ∈ GW := gw_5 (List.mem_of_getElem? (i := 110) rfl) rfl
theorem gw_5_111 : Cond.soleField "NightValleyModel" "drift" ∈ GW := gw_5 (List.mem_of_getElem? (i := 111) rfl) rfl
theorem gw_5_112 : Cond.laysFinal "NightValleyModel" "NightValleyModel" "told" "[I" ∈ GW := gw_5 (List.mem_of_getElem? (i := 112) rfl) rfl
theorem gw_5_113 : Cond.soleField "NightValleyModel" "told" ∈ GW := gw_5 (List.mem_of_getElem? (i := 113) rfl) rfl
theorem gw_5_114 : Cond.laysFinal "NightValleyModel" "NightValleyModel" "readings" "[I" ∈ GW := gw_5 (List.mem_of_getElem? (i := 114) rfl) rfl
theorem gw_5_115 : Cond.soleField "NightValleyModel" "readings" ∈ GW := gw_5 (List.mem_of_getElem? (i := 115) rfl) rfl
theorem gw_5_116 : Cond.laysFinal "NightValleyModel" "NightValleyModel" "readAt" "[I" ∈ GW := gw_5 (List.mem_of_getElem? (i := 116) rfl) rfl
theorem gw_5_117 : Cond.soleField "NightValleyModel" "readAt" ∈ GW := gw_5 (List.mem_of_getElem? (i := 117) rfl) rfl
theorem gw_5_118 : Cond.laysFinal "NightValleyModel" "NightValleyModel" "value" "[I" ∈ GW := gw_5 (List.mem_of_getElem? (i := 118) rfl) rfl
theorem gw_5_119 : Cond.soleField "NightValleyModel" "value" ∈ GW := gw_5 (List.mem_of_getElem? (i := 119) rfl) rfl
theorem gw_5_120 : Cond.lays "NightValleyModel" "NightValleyModel" "isLost" "Z" ∈ GW := gw_5 (List.mem_of_getElem? (i := 120) rfl) rfl
theorem gw_5_121 : Cond.soleField "NightValleyModel" "isLost" ∈ GW := gw_5 (List.mem_of_getElem? (i := 121) rfl) rfl
theorem gw_5_122 : Cond.lays "NightValleyModel" "NightValleyModel" "failed" "I" ∈ GW := gw_5 (List.mem_of_getElem? (i := 122) rfl) rfl
theorem gw_5_123 : Cond.soleField "NightValleyModel" "failed" ∈ GW := gw_5 (List.mem_of_getElem? (i := 123) rfl) rfl
theorem gw_5_124 : Cond.lays "NightValleyModel" "NightValleyModel" "succeeded" "I" ∈ GW := gw_5 (List.mem_of_getElem? (i := 124) rfl) rfl
theorem gw_5_125 : Cond.soleField "NightValleyModel" "succeeded" ∈ GW := gw_5 (List.mem_of_getElem? (i := 125) rfl) rfl
theorem gw_5_126 : Cond.lays "NightValleyModel" "NightValleyModel" "satellites" "I" ∈ GW := gw_5 (List.mem_of_getElem? (i := 126) rfl) rfl
theorem gw_5_127 : Cond.soleField "NightValleyModel" "satellites" ∈ GW := gw_5 (List.mem_of_getElem? (i := 127) rfl) rfl
theorem gw_5_128 : Cond.laysFinal "NightValleyModel" "NightValleyModel" "period" "[I" ∈ GW := gw_5 (List.mem_of_getElem? (i := 128) rfl) rfl
theorem gw_5_129 : Cond.soleField "NightValleyModel" "period" ∈ GW := gw_5 (List.mem_of_getElem? (i := 129) rfl) rfl
theorem gw_5_130 : Cond.laysFinal "NightValleyModel" "NightValleyModel" "phase" "[I" ∈ GW := gw_5 (List.mem_of_getElem? (i := 130) rfl) rfl
theorem gw_5_131 : Cond.soleField "NightValleyModel" "phase" ∈ GW := gw_5 (List.mem_of_getElem? (i := 131) rfl) rfl
theorem gw_5_132 : Cond.laysFinal "NightValleyModel" "NightValleyModel" "steps" "[I" ∈ GW := gw_5 (List.mem_of_getElem? (i := 132) rfl) rfl
theorem gw_5_133 : Cond.soleField "NightValleyModel" "steps" ∈ GW := gw_5 (List.mem_of_getElem? (i := 133) rfl) rfl
theorem gw_5_134 : Cond.lays "NightValleyModel" "NightValleyModel" "thrown" "I" ∈ GW := gw_5 (List.mem_of_getElem? (i := 134) rfl) rfl
theorem gw_5_135 : Cond.soleField "NightValleyModel" "thrown" ∈ GW := gw_5 (List.mem_of_getElem? (i := 135) rfl) rfl
theorem gw_5_136 : Cond.superclass "NightValleyModel" "java/lang/Object" ∈ GW := gw_5 (List.mem_of_getElem? (i := 136) rfl) rfl
theorem gw_5_137 : Cond.methodLink "NightValleyLaw" 124 ⟨"NightValleyModel", "thrown", "()I"⟩ ∈ GW := gw_5 (List.mem_of_getElem? (i := 137) rfl) rfl
theorem gw_5_138 : Cond.instanceMethod ⟨"NightValleyModel", "thrown", "()I"⟩ ∈ GW := gw_5 (List.mem_of_getElem? (i := 138) rfl) rfl
theorem gw_5_139 : Cond.selects "NightValleyModel" ⟨"NightValleyModel", "thrown", "()I"⟩ ⟨"NightValleyModel", "thrown", "()I"⟩ ∈ GW := gw_5 (List.mem_of_getElem? (i := 139) rfl) rfl
theorem gw_5_140 : Cond.code ⟨"NightValleyModel", "thrown", "()I"⟩ prog_13_method_2_code 1 (Option.some FieldType.int) ∈ GW := gw_5 (List.mem_of_getElem? (i := 140) rfl) rfl
theorem gw_5_141 : Cond.methodLink "NightValleyLaw" 123 ⟨"NightValleyModel", "ridge", "(IZ)Z"⟩ ∈ GW := gw_5 (List.mem_of_getElem? (i := 141) rfl) rfl
theorem gw_5_142 : Cond.instanceMethod ⟨"NightValleyModel", "ridge", "(IZ)Z"⟩ ∈ GW := gw_5 (List.mem_of_getElem? (i := 142) rfl) rfl
theorem gw_5_143 : Cond.selects "NightValleyModel" ⟨"NightValleyModel", "ridge", "(IZ)Z"⟩ ⟨"NightValleyModel", "ridge", "(IZ)Z"⟩ ∈ GW := gw_5 (List.mem_of_getElem? (i := 143) rfl) rfl
theorem gw_5_144 : Cond.code ⟨"NightValleyModel", "ridge", "(IZ)Z"⟩ prog_13_method_11_code 4 (Option.some FieldType.boolean) ∈ GW := gw_5 (List.mem_of_getElem? (i := 144) rfl) rfl
theorem gw_5_145 : Cond.methodLink "NightValleyModel" 124 ⟨"NightValleyModel", "isPlace", "(I)Z"⟩ ∈ GW := gw_5 (List.mem_of_getElem? (i := 145) rfl) rfl
theorem gw_5_146 : Cond.static ⟨"NightValleyModel", "isPlace", "(I)Z"⟩ ∈ GW := gw_5 (List.mem_of_getElem? (i := 146) rfl) rfl
theorem gw_5_147 : Cond.code ⟨"NightValleyModel", "isPlace", "(I)Z"⟩ prog_13_method_5_code 1 (Option.some FieldType.boolean) ∈ GW := gw_5 (List.mem_of_getElem? (i := 147) rfl) rfl
theorem gw_5_148 : Cond.methodLink "NightValleyModel" 111 ⟨"NightValleyModel", "isIn", "(III)Z"⟩ ∈ GW := gw_5 (List.mem_of_getElem? (i := 148) rfl) rfl
theorem gw_5_149 : Cond.static ⟨"NightValleyModel", "isIn", "(III)Z"⟩ ∈ GW := gw_5 (List.mem_of_getElem? (i := 149) rfl) rfl
theorem gw_5_150 : Cond.code ⟨"NightValleyModel", "isIn", "(III)Z"⟩ prog_13_method_4_code 3 (Option.some FieldType.boolean) ∈ GW := gw_5 (List.mem_of_getElem? (i := 150) rfl) rfl
theorem gw_5_151 : Cond.methodLink "NightValleyModel" 128 ⟨"NightValleyModel", "fails", "(I)Z"⟩ ∈ GW := gw_5 (List.mem_of_getElem? (i := 151) rfl) rfl
theorem gw_5_153 : Cond.instanceMethod ⟨"NightValleyModel", "fails", "(I)Z"⟩ ∈ GW := gw_5 (List.mem_of_getElem? (i := 153) rfl) rfl
theorem gw_5_154 : Cond.code ⟨"NightValleyModel", "fails", "(I)Z"⟩ prog_13_method_3_code 2 (Option.some FieldType.boolean) ∈ GW := gw_5 (List.mem_of_getElem? (i := 154) rfl) rfl
theorem gw_5_155 : Cond.methodLink "NightValleyLaw" 131 ⟨"NightValleyModel", "zone", "(II)I"⟩ ∈ GW := gw_5 (List.mem_of_getElem? (i := 155) rfl) rfl
theorem gw_5_156 : Cond.instanceMethod ⟨"NightValleyModel", "zone", "(II)I"⟩ ∈ GW := gw_5 (List.mem_of_getElem? (i := 156) rfl) rfl
theorem gw_5_157 : Cond.selects "NightValleyModel" ⟨"NightValleyModel", "zone", "(II)I"⟩ ⟨"NightValleyModel", "zone", "(II)I"⟩ ∈ GW := gw_5 (List.mem_of_getElem? (i := 157) rfl) rfl
theorem gw_5_158 : Cond.code ⟨"NightValleyModel", "zone", "(II)I"⟩ prog_13_method_12_code 4 (Option.some FieldType.int) ∈ GW := gw_5 (List.mem_of_getElem? (i := 158) rfl) rfl
theorem gw_5_159 : Cond.methodLink "NightValleyModel" 131 ⟨"NightValleyModel", "isZone", "(I)Z"⟩ ∈ GW := gw_5 (List.mem_of_getElem? (i := 159) rfl) rfl
theorem gw_5_160 : Cond.static ⟨"NightValleyModel", "isZone", "(I)Z"⟩ ∈ GW := gw_5 (List.mem_of_getElem? (i := 160) rfl) rfl
theorem gw_5_161 : Cond.code ⟨"NightValleyModel", "isZone", "(I)Z"⟩ prog_13_method_6_code 1 (Option.some FieldType.boolean) ∈ GW := gw_5 (List.mem_of_getElem? (i := 161) rfl) rfl
theorem gw_5_162 : Cond.methodLink "NightValleyLaw" 135 ⟨"NightValleyModel", "law", "(IIII)V"⟩ ∈ GW := gw_5 (List.mem_of_getElem? (i := 162) rfl) rfl
theorem gw_5_163 : Cond.instanceMethod ⟨"NightValleyModel", "law", "(IIII)V"⟩ ∈ GW := gw_5 (List.mem_of_getElem? (i := 163) rfl) rfl
theorem gw_5_164 : Cond.selects "NightValleyModel" ⟨"NightValleyModel", "law", "(IIII)V"⟩ ⟨"NightValleyModel", "law", "(IIII)V"⟩ ∈ GW := gw_5 (List.mem_of_getElem? (i := 164) rfl) rfl
theorem gw_5_165 : Cond.code ⟨"NightValleyModel", "law", "(IIII)V"⟩ prog_13_method_13_code 6 (Option.none : Option FieldType) ∈ GW := gw_5 (List.mem_of_getElem? (i := 165) rfl) rfl
theorem gw_5_166 : Cond.methodLink "NightValleyLaw" 138 ⟨"NightValleyModel", "feast", "(II)I"⟩ ∈ GW := gw_5 (List.mem_of_getElem? (i := 166) rfl) rfl
theorem gw_5_167 : Cond.instanceMethod ⟨"NightValleyModel", "feast", "(II)I"⟩ ∈ GW := gw_5 (List.mem_of_getElem? (i := 167) rfl) rfl
theorem gw_5_168 : Cond.selects "NightValleyModel" ⟨"NightValleyModel", "feast", "(II)I"⟩ ⟨"NightValleyModel", "feast", "(II)I"⟩ ∈ GW := gw_5 (List.mem_of_getElem? (i := 168) rfl) rfl
theorem gw_5_169 : Cond.code ⟨"NightValleyModel", "feast", "(II)I"⟩ prog_13_method_14_code 5 (Option.some FieldType.int) ∈ GW := gw_5 (List.mem_of_getElem? (i := 169) rfl) rfl
theorem gw_5_170 : Cond.methodLink "NightValleyLaw" 142 ⟨"NightValleyModel", "air", "(I)I"⟩ ∈ GW := gw_5 (List.mem_of_getElem? (i := 170) rfl) rfl
theorem gw_5_171 : Cond.instanceMethod ⟨"NightValleyModel", "air", "(I)I"⟩ ∈ GW := gw_5 (List.mem_of_getElem? (i := 171) rfl) rfl
theorem gw_5_172 : Cond.selects "NightValleyModel" ⟨"NightValleyModel", "air", "(I)I"⟩ ⟨"NightValleyModel", "air", "(I)I"⟩ ∈ GW := gw_5 (List.mem_of_getElem? (i := 172) rfl) rfl
theorem gw_5_173 : Cond.code ⟨"NightValleyModel", "air", "(I)I"⟩ prog_13_method_15_code 3 (Option.some FieldType.int) ∈ GW := gw_5 (List.mem_of_getElem? (i := 173) rfl) rfl
theorem gw_5_174 : Cond.methodLink "NightValleyLaw" 145 ⟨"NightValleyModel", "pass", "(I)I"⟩ ∈ GW := gw_5 (List.mem_of_getElem? (i := 174) rfl) rfl
theorem gw_5_175 : Cond.instanceMethod ⟨"NightValleyModel", "pass", "(I)I"⟩ ∈ GW := gw_5 (List.mem_of_getElem? (i := 175) rfl) rfl
theorem gw_5_176 : Cond.selects "NightValleyModel" ⟨"NightValleyModel", "pass", "(I)I"⟩ ⟨"NightValleyModel", "pass", "(I)I"⟩ ∈ GW := gw_5 (List.mem_of_getElem? (i := 176) rfl) rfl
theorem gw_5_177 : Cond.code ⟨"NightValleyModel", "pass", "(I)I"⟩ prog_13_method_17_code 4 (Option.some FieldType.int) ∈ GW := gw_5 (List.mem_of_getElem? (i := 177) rfl) rfl
theorem gw_5_178 : Cond.methodLink "NightValleyModel" 140 ⟨"NightValleyModel", "burns", "(I)Z"⟩ ∈ GW := gw_5 (List.mem_of_getElem? (i := 178) rfl) rfl
theorem gw_5_180 : Cond.instanceMethod ⟨"NightValleyModel", "burns", "(I)Z"⟩ ∈ GW := gw_5 (List.mem_of_getElem? (i := 180) rfl) rfl
theorem gw_5_181 : Cond.code ⟨"NightValleyModel", "burns", "(I)Z"⟩ prog_13_method_16_code 7 (Option.some FieldType.boolean) ∈ GW := gw_5 (List.mem_of_getElem? (i := 181) rfl) rfl
theorem gw_5_182 : Cond.methodLink "NightValleyLaw" 148 ⟨"NightValleyModel", "village", "(II)I"⟩ ∈ GW := gw_5 (List.mem_of_getElem? (i := 182) rfl) rfl
theorem gw_5_183 : Cond.instanceMethod ⟨"NightValleyModel", "village", "(II)I"⟩ ∈ GW := gw_5 (List.mem_of_getElem? (i := 183) rfl) rfl
theorem gw_5_184 : Cond.selects "NightValleyModel" ⟨"NightValleyModel", "village", "(II)I"⟩ ⟨"NightValleyModel", "village", "(II)I"⟩ ∈ GW := gw_5 (List.mem_of_getElem? (i := 184) rfl) rfl
theorem gw_5_185 : Cond.code ⟨"NightValleyModel", "village", "(II)I"⟩ prog_13_method_18_code 4 (Option.some FieldType.int) ∈ GW := gw_5 (List.mem_of_getElem? (i := 185) rfl) rfl
theorem gw_5_186 : Cond.methodLink "NightValleyLaw" 152 ⟨"NightValleyModel", "lamp", "(IIIII)I"⟩ ∈ GW := gw_5 (List.mem_of_getElem? (i := 186) rfl) rfl
theorem gw_5_187 : Cond.instanceMethod ⟨"NightValleyModel", "lamp", "(IIIII)I"⟩ ∈ GW := gw_5 (List.mem_of_getElem? (i := 187) rfl) rfl
theorem gw_5_188 : Cond.selects "NightValleyModel" ⟨"NightValleyModel", "lamp", "(IIIII)I"⟩ ⟨"NightValleyModel", "lamp", "(IIIII)I"⟩ ∈ GW := gw_5 (List.mem_of_getElem? (i := 188) rfl) rfl
theorem gw_5_189 : Cond.code ⟨"NightValleyModel", "lamp", "(IIIII)I"⟩ prog_13_method_20_code 8 (Option.some FieldType.int) ∈ GW := gw_5 (List.mem_of_getElem? (i := 189) rfl) rfl
theorem gw_5_190 : Cond.methodLink "NightValleyModel" 143 ⟨"NightValleyModel", "isVillage", "(I)Z"⟩ ∈ GW := gw_5 (List.mem_of_getElem? (i := 190) rfl) rfl
theorem gw_5_192 : Cond.instanceMethod ⟨"NightValleyModel", "isVillage", "(I)Z"⟩ ∈ GW := gw_5 (List.mem_of_getElem? (i := 192) rfl) rfl
theorem gw_5_193 : Cond.code ⟨"NightValleyModel", "isVillage", "(I)Z"⟩ prog_13_method_7_code 2 (Option.some FieldType.boolean) ∈ GW := gw_5 (List.mem_of_getElem? (i := 193) rfl) rfl
theorem gw_5_194 : Cond.methodLink "NightValleyModel" 146 ⟨"NightValleyModel", "lampsOf", "(I)I"⟩ ∈ GW := gw_5 (List.mem_of_getElem? (i := 194) rfl) rfl
theorem gw_5_196 : Cond.instanceMethod ⟨"NightValleyModel", "lampsOf", "(I)I"⟩ ∈ GW := gw_5 (List.mem_of_getElem? (i := 196) rfl) rfl
theorem gw_5_197 : Cond.code ⟨"NightValleyModel", "lampsOf", "(I)I"⟩ prog_13_method_19_code 4 (Option.some FieldType.int) ∈ GW := gw_5 (List.mem_of_getElem? (i := 197) rfl) rfl
theorem gw_5_198 : Cond.constant "NightValleyModel" 150 (-100000 : Int32) ∈ GW := gw_5 (List.mem_of_getElem? (i := 198) rfl) rfl
theorem gw_5_199 : Cond.methodLink "NightValleyLaw" 156 ⟨"NightValleyModel", "hours", "(III)V"⟩ ∈ GW := gw_5 (List.mem_of_getElem? (i := 199) rfl) rfl
theorem gw_5_200 : Cond.instanceMethod ⟨"NightValleyModel", "hours", "(III)V"⟩ ∈ GW := gw_5 (List.mem_of_getElem? (i := 200) rfl) rfl
theorem gw_5_201 : Cond.selects "NightValleyModel" ⟨"NightValleyModel", "hours", "(III)V"⟩ ⟨"NightValleyModel", "hours", "(III)V"⟩ ∈ GW := gw_5 (List.mem_of_getElem? (i := 201) rfl) rfl
theorem gw_5_202 : Cond.code ⟨"NightValleyModel", "hours", "(III)V"⟩ prog_13_method_22_code 5 (Option.none : Option FieldType) ∈ GW := gw_5 (List.mem_of_getElem? (i := 202) rfl) rfl
theorem gw_5_203 : Cond.methodLink "NightValleyModel" 151 ⟨"NightValleyModel", "isLamp", "(I)Z"⟩ ∈ GW := gw_5 (List.mem_of_getElem? (i := 203) rfl) rfl
theorem gw_5_205 : Cond.instanceMethod ⟨"NightValleyModel", "isLamp", "(I)Z"⟩ ∈ GW := gw_5 (List.mem_of_getElem? (i := 205) rfl) rfl
theorem gw_5_206 : Cond.code ⟨"NightValleyModel", "isLamp", "(I)Z"⟩ prog_13_method_8_code 2 (Option.some FieldType.boolean) ∈ GW := gw_5 (List.mem_of_getElem? (i := 206) rfl) rfl
theorem gw_5_207 : Cond.methodLink "NightValleyModel" 154 ⟨"NightValleyModel", "isBound", "(I)Z"⟩ ∈ GW := gw_5 (List.mem_of_getElem? (i := 207) rfl) rfl
theorem gw_5_209 : Cond.instanceMethod ⟨"NightValleyModel", "isBound", "(I)Z"⟩ ∈ GW := gw_5 (List.mem_of_getElem? (i := 209) rfl) rfl
theorem gw_5_210 : Cond.code ⟨"NightValleyModel", "isBound", "(I)Z"⟩ prog_13_method_21_code 2 (Option.some FieldType.boolean) ∈ GW := gw_5 (List.mem_of_getElem? (i := 210) rfl) rfl
theorem gw_5_211 : Cond.methodLink "NightValleyLaw" 159 ⟨"NightValleyModel", "exempt", "(IZ)Z"⟩ ∈ GW := gw_5 (List.mem_of_getElem? (i := 211) rfl) rfl
theorem gw_5_212 : Cond.instanceMethod ⟨"NightValleyModel", "exempt", "(IZ)Z"⟩ ∈ GW := gw_5 (List.mem_of_getElem? (i := 212) rfl) rfl
theorem gw_5_213 : Cond.selects "NightValleyModel" ⟨"NightValleyModel", "exempt", "(IZ)Z"⟩ ⟨"NightValleyModel", "exempt", "(IZ)Z"⟩ ∈ GW := gw_5 (List.mem_of_getElem? (i := 213) rfl) rfl
theorem gw_5_214 : Cond.code ⟨"NightValleyModel", "exempt", "(IZ)Z"⟩ prog_13_method_23_code 4 (Option.some FieldType.boolean) ∈ GW := gw_5 (List.mem_of_getElem? (i := 214) rfl) rfl
theorem gw_5_215 : Cond.methodLink "NightValleyLaw" 162 ⟨"NightValleyModel", "outage", "(II)I"⟩ ∈ GW := gw_5 (List.mem_of_getElem? (i := 215) rfl) rfl
theorem gw_5_216 : Cond.instanceMethod ⟨"NightValleyModel", "outage", "(II)I"⟩ ∈ GW := gw_5 (List.mem_of_getElem? (i := 216) rfl) rfl
theorem gw_5_217 : Cond.selects "NightValleyModel" ⟨"NightValleyModel", "outage", "(II)I"⟩ ⟨"NightValleyModel", "outage", "(II)I"⟩ ∈ GW := gw_5 (List.mem_of_getElem? (i := 217) rfl) rfl
theorem gw_5_218 : Cond.code ⟨"NightValleyModel", "outage", "(II)I"⟩ prog_13_method_24_code 4 (Option.some FieldType.int) ∈ GW := gw_5 (List.mem_of_getElem? (i := 218) rfl) rfl
theorem gw_5_219 : Cond.methodLink "NightValleyLaw" 165 ⟨"NightValleyModel", "vote", "(IIIII)I"⟩ ∈ GW := gw_5 (List.mem_of_getElem? (i := 219) rfl) rfl
theorem gw_5_220 : Cond.instanceMethod ⟨"NightValleyModel", "vote", "(IIIII)I"⟩ ∈ GW := gw_5 (List.mem_of_getElem? (i := 220) rfl) rfl
theorem gw_5_221 : Cond.selects "NightValleyModel" ⟨"NightValleyModel", "vote", "(IIIII)I"⟩ ⟨"NightValleyModel", "vote", "(IIIII)I"⟩ ∈ GW := gw_5 (List.mem_of_getElem? (i := 221) rfl) rfl
theorem gw_5_222 : Cond.code ⟨"NightValleyModel", "vote", "(IIIII)I"⟩ prog_13_method_25_code 11 (Option.some FieldType.int) ∈ GW := gw_5 (List.mem_of_getElem? (i := 222) rfl) rfl
theorem gw_5_223 : Cond.methodLink "NightValleyLaw" 168 ⟨"NightValleyModel", "inspect", "(I)I"⟩ ∈ GW := gw_5 (List.mem_of_getElem? (i := 223) rfl) rfl
theorem gw_5_224 : Cond.instanceMethod ⟨"NightValleyModel", "inspect", "(I)I"⟩ ∈ GW := gw_5 (List.mem_of_getElem? (i := 224) rfl) rfl
theorem gw_5_225 : Cond.selects "NightValleyModel" ⟨"NightValleyModel", "inspect", "(I)I"⟩ ⟨"NightValleyModel", "inspect", "(I)I"⟩ ∈ GW := gw_5 (List.mem_of_getElem? (i := 225) rfl) rfl
theorem gw_5_226 : Cond.code ⟨"NightValleyModel", "inspect", "(I)I"⟩ prog_13_method_27_code 4 (Option.some FieldType.int) ∈ GW := gw_5 (List.mem_of_getElem? (i := 226) rfl) rfl
theorem gw_5_227 : Cond.methodLink "NightValleyModel" 157 ⟨"NightValleyModel", "isUnlawful", "(I)Z"⟩ ∈ GW := gw_5 (List.mem_of_getElem? (i := 227) rfl) rfl
theorem gw_5_229 : Cond.instanceMethod ⟨"NightValleyModel", "isUnlawful", "(I)Z"⟩ ∈ GW := gw_5 (List.mem_of_getElem? (i := 229) rfl) rfl
theorem gw_5_230 : Cond.code ⟨"NightValleyModel", "isUnlawful", "(I)Z"⟩ prog_13_method_26_code 3 (Option.some FieldType.boolean) ∈ GW := gw_5 (List.mem_of_getElem? (i := 230) rfl) rfl
theorem gw_5_231 : Cond.methodLink "NightValleyLaw" 172 ⟨"NightValleyModel", "meter", "(III)I"⟩ ∈ GW := gw_5 (List.mem_of_getElem? (i := 231) rfl) rfl
theorem gw_5_232 : Cond.instanceMethod ⟨"NightValleyModel", "meter", "(III)I"⟩ ∈ GW := gw_5 (List.mem_of_getElem? (i := 232) rfl) rfl
theorem gw_5_233 : Cond.selects "NightValleyModel" ⟨"NightValleyModel", "meter", "(III)I"⟩ ⟨"NightValleyModel", "meter", "(III)I"⟩ ∈ GW := gw_5 (List.mem_of_getElem? (i := 233) rfl) rfl
theorem gw_5_234 : Cond.code ⟨"NightValleyModel", "meter", "(III)I"⟩ prog_13_method_35_code 5 (Option.some FieldType.int) ∈ GW := gw_5 (List.mem_of_getElem? (i := 234) rfl) rfl
theorem gw_5_235 : Cond.methodLink "NightValleyLaw" 175 ⟨"NightValleyModel", "read", "(I)I"⟩ ∈ GW := gw_5 (List.mem_of_getElem? (i := 235) rfl) rfl
theorem gw_5_236 : Cond.instanceMethod ⟨"NightValleyModel", "read", "(I)I"⟩ ∈ GW := gw_5 (List.mem_of_getElem? (i := 236) rfl) rfl
theorem gw_5_237 : Cond.selects "NightValleyModel" ⟨"NightValleyModel", "read", "(I)I"⟩ ⟨"NightValleyModel", "read", "(I)I"⟩ ∈ GW := gw_5 (List.mem_of_getElem? (i := 237) rfl) rfl
theorem gw_5_238 : Cond.code ⟨"NightValleyModel", "read", "(I)I"⟩ prog_13_method_37_code 4 (Option.some FieldType.int) ∈ GW := gw_5 (List.mem_of_getElem? (i := 238) rfl) rfl
theorem gw_5_239 : Cond.methodLink "NightValleyModel" 177 ⟨"NightValleyModel", "isMeter", "(I)Z"⟩ ∈ GW := gw_5 (List.mem_of_getElem? (i := 239) rfl) rfl
theorem gw_6_1 : Cond.instanceMethod ⟨"NightValleyModel", "isMeter", "(I)Z"⟩ ∈ GW := gw_6 (List.mem_of_getElem? (i := 1) rfl) rfl
theorem gw_6_2 : Cond.code ⟨"NightValleyModel", "isMeter", "(I)Z"⟩ prog_13_method_9_code 2 (Option.some FieldType.boolean) ∈ GW := gw_6 (List.mem_of_getElem? (i := 2) rfl) rfl
theorem gw_6_3 : Cond.methodLink "NightValleyModel" 180 ⟨"NightValleyModel", "glowOf", "(I)I"⟩ ∈ GW := gw_6 (List.mem_of_getElem? (i := 3) rfl) rfl
theorem gw_6_5 : Cond.instanceMethod ⟨"NightValleyModel", "glowOf", "(I)I"⟩ ∈ GW := gw_6 (List.mem_of_getElem? (i := 5) rfl) rfl
theorem gw_6_6 : Cond.code ⟨"NightValleyModel", "glowOf", "(I)I"⟩ prog_13_method_33_code 4 (Option.some FieldType.int) ∈ GW := gw_6 (List.mem_of_getElem? (i := 6) rfl) rfl
theorem gw_6_7 : Cond.methodLink "NightValleyModel" 174 ⟨"NightValleyModel", "given", "(II)I"⟩ ∈ GW := gw_6 (List.mem_of_getElem? (i := 7) rfl) rfl
theorem gw_6_9 : Cond.instanceMethod ⟨"NightValleyModel", "given", "(II)I"⟩ ∈ GW := gw_6 (List.mem_of_getElem? (i := 9) rfl) rfl
theorem gw_6_10 : Cond.code ⟨"NightValleyModel", "given", "(II)I"⟩ prog_13_method_31_code 4 (Option.some FieldType.int) ∈ GW := gw_6 (List.mem_of_getElem? (i := 10) rfl) rfl
theorem gw_6_11 : Cond.methodLink "NightValleyModel" 163 ⟨"NightValleyModel", "light", "(I)I"⟩ ∈ GW := gw_6 (List.mem_of_getElem? (i := 11) rfl) rfl
theorem gw_6_13 : Cond.instanceMethod ⟨"NightValleyModel", "light", "(I)I"⟩ ∈ GW := gw_6 (List.mem_of_getElem? (i := 13) rfl) rfl
theorem gw_6_14 : Cond.code ⟨"NightValleyModel", "light", "(I)I"⟩ prog_13_method_28_code 4 (Option.some FieldType.int) ∈ GW := gw_6 (List.mem_of_getElem? (i := 14) rfl) rfl
theorem gw_6_15 : Cond.methodLink "NightValleyModel" 166 ⟨"NightValleyModel", "distance", "(II)I"⟩ ∈ GW := gw_6 (List.mem_of_getElem? (i := 15) rfl) rfl
theorem gw_6_17 : Cond.instanceMethod ⟨"NightValleyModel", "distance", "(II)I"⟩ ∈ GW := gw_6 (List.mem_of_getElem? (i := 17) rfl) rfl
theorem gw_6_18 : Cond.code ⟨"NightValleyModel", "distance", "(II)I"⟩ prog_13_method_30_code 5 (Option.some FieldType.int) ∈ GW := gw_6 (List.mem_of_getElem? (i := 18) rfl) rfl
theorem gw_6_19 : Cond.methodLink "NightValleyModel" 170 ⟨"NightValleyModel", "isShaded", "(II)Z"⟩ ∈ GW := gw_6 (List.mem_of_getElem? (i := 19) rfl) rfl
theorem gw_6_21 : Cond.instanceMethod ⟨"NightValleyModel", "isShaded", "(II)Z"⟩ ∈ GW := gw_6 (List.mem_of_getElem? (i := 21) rfl) rfl
theorem gw_6_22 : Cond.code ⟨"NightValleyModel", "isShaded", "(II)Z"⟩ prog_13_method_29_code 13 (Option.some FieldType.boolean) ∈ GW := gw_6 (List.mem_of_getElem? (i := 22) rfl) rfl
theorem gw_6_23 : Cond.methodLink "NightValleyModel" 160 ⟨"NightValleyModel", "size", "(I)I"⟩ ∈ GW := gw_6 (List.mem_of_getElem? (i := 23) rfl) rfl
theorem gw_6_24 : Cond.static ⟨"NightValleyModel", "size", "(I)I"⟩ ∈ GW := gw_6 (List.mem_of_getElem? (i := 24) rfl) rfl
theorem gw_6_25 : Cond.code ⟨"NightValleyModel", "size", "(I)I"⟩ prog_13_method_10_code 1 (Option.some FieldType.int) ∈ GW := gw_6 (List.mem_of_getElem? (i := 25) rfl) rfl
theorem gw_6_26 : Cond.methodLink "NightValleyModel" 183 ⟨"NightValleyModel", "moon", "(I)I"⟩ ∈ GW := gw_6 (List.mem_of_getElem? (i := 26) rfl) rfl
theorem gw_6_27 : Cond.static ⟨"NightValleyModel", "moon", "(I)I"⟩ ∈ GW := gw_6 (List.mem_of_getElem? (i := 27) rfl) rfl
theorem gw_6_28 : Cond.code ⟨"NightValleyModel", "moon", "(I)I"⟩ prog_13_method_36_code 2 (Option.some FieldType.int) ∈ GW := gw_6 (List.mem_of_getElem? (i := 28) rfl) rfl
theorem gw_6_29 : Cond.methodLink "NightValleyLaw" 178 ⟨"NightValleyModel", "tell", "(II)I"⟩ ∈ GW := gw_6 (List.mem_of_getElem? (i := 29) rfl) rfl
theorem gw_6_30 : Cond.instanceMethod ⟨"NightValleyModel", "tell", "(II)I"⟩ ∈ GW := gw_6 (List.mem_of_getElem? (i := 30) rfl) rfl
theorem gw_6_31 : Cond.selects "NightValleyModel" ⟨"NightValleyModel", "tell", "(II)I"⟩ ⟨"NightValleyModel", "tell", "(II)I"⟩ ∈ GW := gw_6 (List.mem_of_getElem? (i := 31) rfl) rfl
theorem gw_6_32 : Cond.code ⟨"NightValleyModel", "tell", "(II)I"⟩ prog_13_method_38_code 4 (Option.some FieldType.int) ∈ GW := gw_6 (List.mem_of_getElem? (i := 32) rfl) rfl
theorem gw_6_33 : Cond.methodLink "NightValleyLaw" 181 ⟨"NightValleyModel", "audit", "(I)Z"⟩ ∈ GW := gw_6 (List.mem_of_getElem? (i := 33) rfl) rfl
theorem gw_6_34 : Cond.instanceMethod ⟨"NightValleyModel", "audit", "(I)Z"⟩ ∈ GW := gw_6 (List.mem_of_getElem? (i := 34) rfl) rfl
theorem gw_6_35 : Cond.selects "NightValleyModel" ⟨"NightValleyModel", "audit", "(I)Z"⟩ ⟨"NightValleyModel", "audit", "(I)Z"⟩ ∈ GW := gw_6 (List.mem_of_getElem? (i := 35) rfl) rfl
theorem gw_6_36 : Cond.code ⟨"NightValleyModel", "audit", "(I)Z"⟩ prog_13_method_40_code 4 (Option.some FieldType.boolean) ∈ GW := gw_6 (List.mem_of_getElem? (i := 36) rfl) rfl
theorem gw_6_37 : Cond.constant "NightValleyModel" 186 (100000 : Int32) ∈ GW := gw_6 (List.mem_of_getElem? (i := 37) rfl) rfl
theorem gw_6_38 : Cond.methodLink "NightValleyModel" 187 ⟨"NightValleyModel", "corrected", "(II)I"⟩ ∈ GW := gw_6 (List.mem_of_getElem? (i := 38) rfl) rfl
theorem gw_6_40 : Cond.instanceMethod ⟨"NightValleyModel", "corrected", "(II)I"⟩ ∈ GW := gw_6 (List.mem_of_getElem? (i := 40) rfl) rfl
theorem gw_6_41 : Cond.code ⟨"NightValleyModel", "corrected", "(II)I"⟩ prog_13_method_39_code 3 (Option.some FieldType.int) ∈ GW := gw_6 (List.mem_of_getElem? (i := 41) rfl) rfl
theorem gw_6_42 : Cond.methodLink "NightValleyLaw" 184 ⟨"NightValleyModel", "satellite", "(II)I"⟩ ∈ GW := gw_6 (List.mem_of_getElem? (i := 42) rfl) rfl
theorem gw_6_43 : Cond.instanceMethod ⟨"NightValleyModel", "satellite", "(II)I"⟩ ∈ GW := gw_6 (List.mem_of_getElem? (i := 43) rfl) rfl
theorem gw_6_44 : Cond.selects "NightValleyModel" ⟨"NightValleyModel", "satellite", "(II)I"⟩ ⟨"NightValleyModel", "satellite", "(II)I"⟩ ∈ GW := gw_6 (List.mem_of_getElem? (i := 44) rfl) rfl
theorem gw_6_45 : Cond.code ⟨"NightValleyModel", "satellite", "(II)I"⟩ prog_13_method_41_code 4 (Option.some FieldType.int) ∈ GW := gw_6 (List.mem_of_getElem? (i := 45) rfl) rfl
theorem gw_6_46 : Cond.methodLink "NightValleyLaw" 188 ⟨"NightValleyModel", "time", "()I"⟩ ∈ GW := gw_6 (List.mem_of_getElem? (i := 46) rfl) rfl
theorem gw_6_47 : Cond.instanceMethod ⟨"NightValleyModel", "time", "()I"⟩ ∈ GW := gw_6 (List.mem_of_getElem? (i := 47) rfl) rfl
theorem gw_6_48 : Cond.selects "NightValleyModel" ⟨"NightValleyModel", "time", "()I"⟩ ⟨"NightValleyModel", "time", "()I"⟩ ∈ GW := gw_6 (List.mem_of_getElem? (i := 48) rfl) rfl
theorem gw_6_49 : Cond.code ⟨"NightValleyModel", "time", "()I"⟩ prog_13_method_42_code 1 (Option.some FieldType.int) ∈ GW := gw_6 (List.mem_of_getElem? (i := 49) rfl) rfl
theorem gw_6_50 : Cond.methodLink "NightValleyLaw" 191 ⟨"NightValleyModel", "ofLamp", "(II)I"⟩ ∈ GW := gw_6 (List.mem_of_getElem? (i := 50) rfl) rfl
theorem gw_6_51 : Cond.instanceMethod ⟨"NightValleyModel", "ofLamp", "(II)I"⟩ ∈ GW := gw_6 (List.mem_of_getElem? (i := 51) rfl) rfl
theorem gw_6_52 : Cond.selects "NightValleyModel" ⟨"NightValleyModel", "ofLamp", "(II)I"⟩ ⟨"NightValleyModel", "ofLamp", "(II)I"⟩ ∈ GW := gw_6 (List.mem_of_getElem? (i := 52) rfl) rfl
theorem gw_6_53 : Cond.code ⟨"NightValleyModel", "ofLamp", "(II)I"⟩ prog_13_method_43_code 3 (Option.some FieldType.int) ∈ GW := gw_6 (List.mem_of_getElem? (i := 53) rfl) rfl
theorem gw_6_54 : Cond.methodLink "NightValleyLaw" 194 ⟨"NightValleyModel", "ofVillage", "(II)I"⟩ ∈ GW := gw_6 (List.mem_of_getElem? (i := 54) rfl) rfl
theorem gw_6_55 : Cond.instanceMethod ⟨"NightValleyModel", "ofVillage", "(II)I"⟩ ∈ GW := gw_6 (List.mem_of_getElem? (i := 55) rfl) rfl
theorem gw_6_56 : Cond.selects "NightValleyModel" ⟨"NightValleyModel", "ofVillage", "(II)I"⟩ ⟨"NightValleyModel", "ofVillage", "(II)I"⟩ ∈ GW := gw_6 (List.mem_of_getElem? (i := 56) rfl) rfl
theorem gw_6_57 : Cond.code ⟨"NightValleyModel", "ofVillage", "(II)I"⟩ prog_13_method_44_code 5 (Option.some FieldType.int) ∈ GW := gw_6 (List.mem_of_getElem? (i := 57) rfl) rfl
theorem gw_6_58 : Cond.methodLink "NightValleyLaw" 197 ⟨"NightValleyModel", "gives", "(II)I"⟩ ∈ GW := gw_6 (List.mem_of_getElem? (i := 58) rfl) rfl
theorem gw_6_59 : Cond.instanceMethod ⟨"NightValleyModel", "gives", "(II)I"⟩ ∈ GW := gw_6 (List.mem_of_getElem? (i := 59) rfl) rfl
theorem gw_6_60 : Cond.selects "NightValleyModel" ⟨"NightValleyModel", "gives", "(II)I"⟩ ⟨"NightValleyModel", "gives", "(II)I"⟩ ∈ GW := gw_6 (List.mem_of_getElem? (i := 60) rfl) rfl
theorem gw_6_61 : Cond.code ⟨"NightValleyModel", "gives", "(II)I"⟩ prog_13_method_45_code 3 (Option.some FieldType.int) ∈ GW := gw_6 (List.mem_of_getElem? (i := 61) rfl) rfl
theorem gw_6_62 : Cond.methodLink "NightValleyLaw" 200 ⟨"NightValleyModel", "glow", "(I)I"⟩ ∈ GW := gw_6 (List.mem_of_getElem? (i := 62) rfl) rfl
theorem gw_6_63 : Cond.instanceMethod ⟨"NightValleyModel", "glow", "(I)I"⟩ ∈ GW := gw_6 (List.mem_of_getElem? (i := 63) rfl) rfl
theorem gw_6_64 : Cond.selects "NightValleyModel" ⟨"NightValleyModel", "glow", "(I)I"⟩ ⟨"NightValleyModel", "glow", "(I)I"⟩ ∈ GW := gw_6 (List.mem_of_getElem? (i := 64) rfl) rfl
theorem gw_6_65 : Cond.code ⟨"NightValleyModel", "glow", "(I)I"⟩ prog_13_method_46_code 2 (Option.some FieldType.int) ∈ GW := gw_6 (List.mem_of_getElem? (i := 65) rfl) rfl
theorem gw_6_66 : Cond.methodLink "NightValleyLaw" 203 ⟨"NightValleyModel", "glowFrom", "(II)I"⟩ ∈ GW := gw_6 (List.mem_of_getElem? (i := 66) rfl) rfl
theorem gw_6_67 : Cond.instanceMethod ⟨"NightValleyModel", "glowFrom", "(II)I"⟩ ∈ GW := gw_6 (List.mem_of_getElem? (i := 67) rfl) rfl
theorem gw_6_68 : Cond.selects "NightValleyModel" ⟨"NightValleyModel", "glowFrom", "(II)I"⟩ ⟨"NightValleyModel", "glowFrom", "(II)I"⟩ ∈ GW := gw_6 (List.mem_of_getElem? (i := 68) rfl) rfl
theorem gw_6_69 : Cond.code ⟨"NightValleyModel", "glowFrom", "(II)I"⟩ prog_13_method_47_code 5 (Option.some FieldType.int) ∈ GW := gw_6 (List.mem_of_getElem? (i := 69) rfl) rfl
theorem gw_6_70 : Cond.methodLink "NightValleyModel" 203 ⟨"NightValleyModel", "direction", "(II)I"⟩ ∈ GW := gw_6 (List.mem_of_getElem? (i := 70) rfl) rfl
theorem gw_6_72 : Cond.instanceMethod ⟨"NightValleyModel", "direction", "(II)I"⟩ ∈ GW := gw_6 (List.mem_of_getElem? (i := 72) rfl) rfl
theorem gw_6_73 : Cond.code ⟨"NightValleyModel", "direction", "(II)I"⟩ prog_13_method_32_code 5 (Option.some FieldType.int) ∈ GW := gw_6 (List.mem_of_getElem? (i := 73) rfl) rfl
theorem gw_6_74 : Cond.methodLink "NightValleyLaw" 206 ⟨"NightValleyModel", "ground", "(I)I"⟩ ∈ GW := gw_6 (List.mem_of_getElem? (i := 74) rfl) rfl
theorem gw_6_75 : Cond.instanceMethod ⟨"NightValleyModel", "ground", "(I)I"⟩ ∈ GW := gw_6 (List.mem_of_getElem? (i := 75) rfl) rfl
theorem gw_6_76 : Cond.selects "NightValleyModel" ⟨"NightValleyModel", "ground", "(I)I"⟩ ⟨"NightValleyModel", "ground", "(I)I"⟩ ∈ GW := gw_6 (List.mem_of_getElem? (i := 76) rfl) rfl
theorem gw_6_77 : Cond.code ⟨"NightValleyModel", "ground", "(I)I"⟩ prog_13_method_48_code 2 (Option.some FieldType.int) ∈ GW := gw_6 (List.mem_of_getElem? (i := 77) rfl) rfl
theorem gw_6_78 : Cond.methodLink "NightValleyModel" 206 ⟨"NightValleyModel", "groundOf", "(I)I"⟩ ∈ GW := gw_6 (List.mem_of_getElem? (i := 78) rfl) rfl
theorem gw_6_80 : Cond.instanceMethod ⟨"NightValleyModel", "groundOf", "(I)I"⟩ ∈ GW := gw_6 (List.mem_of_getElem? (i := 80) rfl) rfl
theorem gw_6_81 : Cond.code ⟨"NightValleyModel", "groundOf", "(I)I"⟩ prog_13_method_34_code 4 (Option.some FieldType.int) ∈ GW := gw_6 (List.mem_of_getElem? (i := 81) rfl) rfl
theorem gw_6_82 : Cond.methodLink "NightValleyLaw" 209 ⟨"NightValleyModel", "way", "(III)I"⟩ ∈ GW := gw_6 (List.mem_of_getElem? (i := 82) rfl) rfl
theorem gw_6_83 : Cond.instanceMethod ⟨"NightValleyModel", "way", "(III)I"⟩ ∈ GW := gw_6 (List.mem_of_getElem? (i := 83) rfl) rfl
theorem gw_6_84 : Cond.selects "NightValleyModel" ⟨"NightValleyModel", "way", "(III)I"⟩ ⟨"NightValleyModel", "way", "(III)I"⟩ ∈ GW := gw_6 (List.mem_of_getElem? (i := 84) rfl) rfl
theorem gw_6_85 : Cond.code ⟨"NightValleyModel", "way", "(III)I"⟩ prog_13_method_49_code 8 (Option.some FieldType.int) ∈ GW := gw_6 (List.mem_of_getElem? (i := 85) rfl) rfl
theorem gw_6_86 : Cond.methodLink "NightValleyLaw" 212 ⟨"NightValleyModel", "ofReading", "(III)I"⟩ ∈ GW := gw_6 (List.mem_of_getElem? (i := 86) rfl) rfl
theorem gw_6_87 : Cond.instanceMethod ⟨"NightValleyModel", "ofReading", "(III)I"⟩ ∈ GW := gw_6 (List.mem_of_getElem? (i := 87) rfl) rfl
theorem gw_6_88 : Cond.selects "NightValleyModel" ⟨"NightValleyModel", "ofReading", "(III)I"⟩ ⟨"NightValleyModel", "ofReading", "(III)I"⟩ ∈ GW := gw_6 (List.mem_of_getElem? (i := 88) rfl) rfl
theorem gw_6_89 : Cond.code ⟨"NightValleyModel", "ofReading", "(III)I"⟩ prog_13_method_50_code 5 (Option.some FieldType.int) ∈ GW := gw_6 (List.mem_of_getElem? (i := 89) rfl) rfl
theorem gw_6_90 : Cond.methodLink "NightValleyLaw" 215 ⟨"NightValleyModel", "trend", "(I)J"⟩ ∈ GW := gw_6 (List.mem_of_getElem? (i := 90) rfl) rfl
theorem gw_6_91 : Cond.instanceMethod ⟨"NightValleyModel", "trend", "(I)J"⟩ ∈ GW := gw_6 (List.mem_of_getElem? (i := 91) rfl) rfl
theorem gw_6_92 : Cond.selects "NightValleyModel" ⟨"NightValleyModel", "trend", "(I)J"⟩ ⟨"NightValleyModel", "trend", "(I)J"⟩ ∈ GW := gw_6 (List.mem_of_getElem? (i := 92) rfl) rfl
theorem gw_6_93 : Cond.code ⟨"NightValleyModel", "trend", "(I)J"⟩ prog_13_method_51_code 15 (Option.some FieldType.long) ∈ GW := gw_6 (List.mem_of_getElem? (i := 93) rfl) rfl
theorem gw_6_94 : Cond.constantLong "NightValleyModel" 209 (1000 : Int64) ∈ GW := gw_6 (List.mem_of_getElem? (i := 94) rfl) rfl
theorem gw_6_95 : Cond.methodLink "NightValleyLaw" 220 ⟨"NightValleyModel", "isHeld", "()Z"⟩ ∈ GW := gw_6 (List.mem_of_getElem? (i := 95) rfl) rfl
theorem gw_6_96 : Cond.instanceMethod ⟨"NightValleyModel", "isHeld", "()Z"⟩ ∈ GW := gw_6 (List.mem_of_getElem? (i := 96) rfl) rfl
theorem gw_6_97 : Cond.selects "NightValleyModel" ⟨"NightValleyModel", "isHeld", "()Z"⟩ ⟨"NightValleyModel", "isHeld", "()Z"⟩ ∈ GW := gw_6 (List.mem_of_getElem? (i := 97) rfl) rfl
theorem gw_6_98 : Cond.code ⟨"NightValleyModel", "isHeld", "()Z"⟩ prog_13_method_52_code 1 (Option.some FieldType.boolean) ∈ GW := gw_6 (List.mem_of_getElem? (i := 98) rfl) rfl
theorem gw_6_99 : Cond.methodLink "NightValleyLaw" 223 ⟨"NightValleyModel", "trails", "(II)I"⟩ ∈ GW := gw_6 (List.mem_of_getElem? (i := 99) rfl) rfl
theorem gw_6_100 : Cond.instanceMethod ⟨"NightValleyModel", "trails", "(II)I"⟩ ∈ GW := gw_6 (List.mem_of_getElem? (i := 100) rfl) rfl
theorem gw_6_101 : Cond.selects "NightValleyModel" ⟨"NightValleyModel", "trails", "(II)I"⟩ ⟨"NightValleyModel", "trails", "(II)I"⟩ ∈ GW := gw_6 (List.mem_of_getElem? (i := 101) rfl) rfl
theorem gw_6_102 : Cond.code ⟨"NightValleyModel", "trails", "(II)I"⟩ prog_13_method_53_code 7 (Option.some FieldType.int) ∈ GW := gw_6 (List.mem_of_getElem? (i := 102) rfl) rfl
theorem gw_6_103 : Cond.methodLink "NightValleyLaw" 226 ⟨"NightValleyModel", "culprit", "(I)I"⟩ ∈ GW := gw_6 (List.mem_of_getElem? (i := 103) rfl) rfl
theorem gw_6_104 : Cond.instanceMethod ⟨"NightValleyModel", "culprit", "(I)I"⟩ ∈ GW := gw_6 (List.mem_of_getElem? (i := 104) rfl) rfl
theorem gw_6_105 : Cond.selects "NightValleyModel" ⟨"NightValleyModel", "culprit", "(I)I"⟩ ⟨"NightValleyModel", "culprit", "(I)I"⟩ ∈ GW := gw_6 (List.mem_of_getElem? (i := 105) rfl) rfl
theorem gw_6_106 : Cond.code ⟨"NightValleyModel", "culprit", "(I)I"⟩ prog_13_method_54_code 6 (Option.some FieldType.int) ∈ GW := gw_6 (List.mem_of_getElem? (i := 106) rfl) rfl
theorem gw_6_107 : Cond.methodLink "NightValleyLaw" 229 ⟨"NightValleyModel", "plan", "(III)I"⟩ ∈ GW := gw_6 (List.mem_of_getElem? (i := 107) rfl) rfl
theorem gw_6_108 : Cond.instanceMethod ⟨"NightValleyModel", "plan", "(III)I"⟩ ∈ GW := gw_6 (List.mem_of_getElem? (i := 108) rfl) rfl
theorem gw_6_109 : Cond.selects "NightValleyModel" ⟨"NightValleyModel", "plan", "(III)I"⟩ ⟨"NightValleyModel", "plan", "(III)I"⟩ ∈ GW := gw_6 (List.mem_of_getElem? (i := 109) rfl) rfl
theorem gw_6_110 : Cond.code ⟨"NightValleyModel", "plan", "(III)I"⟩ prog_13_method_55_code 14 (Option.some FieldType.int) ∈ GW := gw_6 (List.mem_of_getElem? (i := 110) rfl) rfl
theorem gw_6_111 : Cond.arrayClass FieldType.long ∈ GW := gw_6 (List.mem_of_getElem? (i := 111) rfl) rfl
theorem gw_6_112 : Cond.sameMethod "java/lang/Throwable" "java/lang/Throwable" "fillInStackTrace" "(I)Ljava/lang/Throwable;" ∈ GW := gw_6 (List.mem_of_getElem? (i := 112) rfl) rfl
theorem gw_6_130 : Cond.sameMethod "[Ljava/lang/Object;" "java/lang/Object" "getClass" "()Ljava/lang/Class;" ∈ GW := gw_6 (List.mem_of_getElem? (i := 130) rfl) rfl
theorem gw_6_131 : Cond.selects "[Ljava/lang/Object;" ⟨"java/lang/Object", "getClass", "()Ljava/lang/Class;"⟩ ⟨"java/lang/Object", "getClass", "()Ljava/lang/Class;"⟩ ∈ GW := gw_6 (List.mem_of_getElem? (i := 131) rfl) rfl
/-- words of the tables that are kept, but not by the kit's goodWord -/
def NWL : List Cond := [Cond.methodLinkNest "NightValley" 33 ⟨"NightValley$Label", "<init>", "()V"⟩ "NightValley", Cond.methodLinkNest "NightValley" 40 ⟨"NightValley$Walk", "<init>", "()V"⟩ "NightValley", Cond.methodLinkNest "NightValley" 47 ⟨"NightValley$Choice", "<init>", "()V"⟩ "NightValley", Cond.castable "java/lang/IndexOutOfBoundsException" "java/lang/IndexOutOfBoundsException", Cond.declares ⟨"java/lang/RuntimeException", "<init>", "()V"⟩, Cond.declares ⟨"java/lang/RuntimeException", "<init>", "(Ljava/lang/String;)V"⟩, Cond.declares ⟨"java/lang/Exception", "<init>", "()V"⟩, Cond.declares ⟨"java/lang/Exception", "<init>", "(Ljava/lang/String;)V"⟩, Cond.declares ⟨"java/lang/Throwable", "<init>", "()V"⟩, Cond.declares ⟨"java/lang/Throwable", "<init>", "(Ljava/lang/String;)V"⟩, Cond.castable "java/lang/IllegalArgumentException" "java/lang/IllegalArgumentException", Cond.castable "java/lang/IllegalStateException" "java/lang/IllegalStateException", Cond.methodLinkNest "NightValley$Meter" 49 ⟨"NightValley", "moonAt", "(I)I"⟩ "NightValley", Cond.methodLinkNest "NightValley$Walk" 36 ⟨"NightValley", "weakened", "(III)I"⟩ "NightValley", Cond.castable "NightValley" "java/lang/Object", Cond.castable "java/util/ArrayList" "java/lang/Object", Cond.castable "NightValley$Label" "java/lang/Object", Cond.castable "NightValley$Walk" "java/lang/Object", Cond.castable "NightValley$Choice" "java/lang/Object", Cond.castable "NightValley$Zone" "java/lang/Object", Cond.castable "NightValley$Place" "java/lang/Object", Cond.castable "NightValleyModel" "java/lang/Object", Cond.castable "java/lang/IndexOutOfBoundsException" "java/lang/Object", Cond.castable "java/lang/IllegalArgumentException" "java/lang/Object", Cond.castable "java/lang/IllegalStateException" "java/lang/Object", Cond.castable "NightValley$Village" "java/lang/Object", Cond.castable "NightValley$Lamp" "java/lang/Object", Cond.castable "NightValley$Meter" "java/lang/Object", Cond.castable "NightValley$Reading" "java/lang/Object", Cond.castable "NightValley$Satellite" "java/lang/Object", Cond.castable "java/lang/Throwable" "java/lang/Object", Cond.declares ⟨"java/lang/Object", "getClass", "()Ljava/lang/Class;"⟩, Cond.castable "[I" "java/lang/Object", Cond.castable "[Z" "java/lang/Object", Cond.castable "[Ljava/lang/Object;" "java/lang/Object", Cond.castable "[J" "java/lang/Object"]
theorem NWL_in : ∀ w ∈ NWL, w ∈ lw_tbl := by
  unfold NWL
  exact List.forall_mem_cons.mpr ⟨List.mem_append_right _ (List.mem_append_left _ (List.mem_of_getElem? (i := 64) rfl : _ ∈ tables_1_1)), List.forall_mem_cons.mpr ⟨List.mem_append_right _ (List.mem_append_left _ (List.mem_of_getElem? (i := 81) rfl : _ ∈ tables_1_1)), List.forall_mem_cons.mpr ⟨List.mem_append_right _ (List.mem_append_left _ (List.mem_of_getElem? (i := 101) rfl : _ ∈ tables_1_1)), List.forall_mem_cons.mpr ⟨List.mem_append_right _ (List.mem_append_right _ (List.mem_append_left _ (List.mem_of_getElem? (i := 59) rfl : _ ∈ tables_1_2))), List.forall_mem_cons.mpr ⟨List.mem_append_right _ (List.mem_append_right _ (List.mem_append_left _ (List.mem_of_getElem? (i := 60) rfl : _ ∈ tables_1_2))), List.forall_mem_cons.mpr ⟨List.mem_append_right _ (List.mem_append_right _ (List.mem_append_left _ (List.mem_of_getElem? (i := 61) rfl : _ ∈ tables_1_2))), List.forall_mem_cons.mpr ⟨List.mem_append_right _ (List.mem_append_right _ (List.mem_append_left _ (List.mem_of_getElem? (i := 62) rfl : _ ∈ tables_1_2))), List.forall_mem_cons.mpr ⟨List.mem_append_right _ (List.mem_append_right _ (List.mem_append_left _ (List.mem_of_getElem? (i := 63) rfl : _ ∈ tables_1_2))), List.forall_mem_cons.mpr ⟨List.mem_append_right _ (List.mem_append_right _ (List.mem_append_left _ (List.mem_of_getElem? (i := 64) rfl : _ ∈ tables_1_2))), List.forall_mem_cons.mpr ⟨List.mem_append_right _ (List.mem_append_right _ (List.mem_append_left _ (List.mem_of_getElem? (i := 65) rfl : _ ∈ tables_1_2))), List.forall_mem_cons.mpr ⟨List.mem_append_right _ (List.mem_append_right _ (List.mem_append_left _ (List.mem_of_getElem? (i := 158) rfl : _ ∈ tables_1_2))), List.forall_mem_cons.mpr ⟨List.mem_append_right _ (List.mem_append_right _ (List.mem_append_left _ (List.mem_of_getElem? (i := 202) rfl : _ ∈ tables_1_2))), List.forall_mem_cons.mpr ⟨List.mem_append_right _ (List.mem_append_right _ (List.mem_append_right _ (List.mem_append_right _ (List.mem_append_left _ (List.mem_of_getElem? (i := 66) rfl : _ ∈ tables_1_4))))), List.forall_mem_cons.mpr ⟨List.mem_append_right _ (List.mem_append_right _ (List.mem_append_right _ (List.mem_append_right _ (List.mem_append_left _ (List.mem_of_getElem? (i := 160) rfl : _ ∈ tables_1_4))))), List.forall_mem_cons.mpr ⟨List.mem_append_right _ (List.mem_append_right _ (List.mem_append_right _ (List.mem_append_right _ (List.mem_append_right _ (List.mem_append_right _ ((List.mem_of_getElem? (i := 113) rfl : _ ∈ tables_1_6))))))), List.forall_mem_cons.mpr ⟨List.mem_append_right _ (List.mem_append_right _ (List.mem_append_right _ (List.mem_append_right _ (List.mem_append_right _ (List.mem_append_right _ ((List.mem_of_getElem? (i := 114) rfl : _ ∈ tables_1_6))))))), List.forall_mem_cons.mpr ⟨List.mem_append_right _ (List.mem_append_right _ (List.mem_append_right _ (List.mem_append_right _ (List.mem_append_right _ (List.mem_append_right _ ((List.mem_of_getElem? (i := 115) rfl : _ ∈ tables_1_6))))))), List.forall_mem_cons.mpr ⟨List.mem_append_right _ (List.mem_append_right _ (List.mem_append_right _ (List.mem_append_right _ (List.mem_append_right _ (List.mem_append_right _ ((List.mem_of_getElem? (i := 116) rfl : _ ∈ tables_1_6))))))), List.forall_mem_cons.mpr ⟨List.mem_append_right _ (List.mem_append_right _ (List.mem_append_right _ (List.mem_append_right _ (List.mem_append_right _ (List.mem_append_right _ ((List.mem_of_getElem? (i := 117) rfl : _ ∈ tables_1_6))))))), List.forall_mem_cons.mpr ⟨List.mem_append_right _ (List.mem_append_right _ (List.mem_append_right _ (List.mem_append_right _ (List.mem_append_right _ (List.mem_append_right _ ((List.mem_of_getElem? (i := 118) rfl : _ ∈ tables_1_6))))))), List.forall_mem_cons.mpr ⟨List.mem_append_right _ (List.mem_append_right _ (List.mem_append_right _ (List.mem_append_right _ (List.mem_append_right _ (List.mem_append_right _ ((List.mem_of_getElem? (i := 119) rfl : _ ∈ tables_1_6))))))), List.forall_mem_cons.mpr ⟨List.mem_append_right _ (List.mem_append_right _ (List.mem_append_right _ (List.mem_append_right _ (List.mem_append_right _ (List.mem_append_right _ ((List.mem_of_getElem? (i := 120) rfl : _ ∈ tables_1_6))))))), List.forall_mem_cons.mpr ⟨List.mem_append_right _ (List.mem_append_right _ (List.mem_append_right _ (List.mem_append_right _ (List.mem_append_right _ (List.mem_append_right _ ((List.mem_of_getElem? (i := 121) rfl : _ ∈ tables_1_6))))))), List.forall_mem_cons.mpr ⟨List.mem_append_right _ (List.mem_append_right _ (List.mem_append_right _ (List.mem_append_right _ (List.mem_append_right _ (List.mem_append_right _ ((List.mem_of_getElem? (i := 122) rfl : _ ∈ tables_1_6))))))), List.forall_mem_cons.mpr ⟨List.mem_append_right _ (List.mem_append_right _ (List.mem_append_right _ (List.mem_append_right _ (List.mem_append_right _ (List.mem_append_right _ ((List.mem_of_getElem? (i := 123) rfl : _ ∈ tables_1_6))))))), List.forall_mem_cons.mpr ⟨List.mem_append_right _ (List.mem_append_right _ (List.mem_append_right _ (List.mem_append_right _ (List.mem_append_right _ (List.mem_append_right _ ((List.mem_of_getElem? (i := 124) rfl : _ ∈ tables_1_6))))))), List.forall_mem_cons.mpr ⟨List.mem_append_right _ (List.mem_append_right _ (List.mem_append_right _ (List.mem_append_right _ (List.mem_append_right _ (List.mem_append_right _ ((List.mem_of_getElem? (i := 125) rfl : _ ∈ tables_1_6))))))), List.forall_mem_cons.mpr ⟨List.mem_append_right _ (List.mem_append_right _ (List.mem_append_right _ (List.mem_append_right _ (List.mem_append_right _ (List.mem_append_right _ ((List.mem_of_getElem? (i := 126) rfl : _ ∈ tables_1_6))))))), List.forall_mem_cons.mpr ⟨List.mem_append_right _ (List.mem_append_right _ (List.mem_append_right _ (List.mem_append_right _ (List.mem_append_right _ (List.mem_append_right _ ((List.mem_of_getElem? (i := 127) rfl : _ ∈ tables_1_6))))))), List.forall_mem_cons.mpr ⟨List.mem_append_right _ (List.mem_append_right _ (List.mem_append_right _ (List.mem_append_right _ (List.mem_append_right _ (List.mem_append_right _ ((List.mem_of_getElem? (i := 128) rfl : _ ∈ tables_1_6))))))), List.forall_mem_cons.mpr ⟨List.mem_append_right _ (List.mem_append_right _ (List.mem_append_right _ (List.mem_append_right _ (List.mem_append_right _ (List.mem_append_right _ ((List.mem_of_getElem? (i := 129) rfl : _ ∈ tables_1_6))))))), List.forall_mem_cons.mpr ⟨List.mem_append_right _ (List.mem_append_right _ (List.mem_append_right _ (List.mem_append_right _ (List.mem_append_right _ (List.mem_append_right _ ((List.mem_of_getElem? (i := 132) rfl : _ ∈ tables_1_6))))))), List.forall_mem_cons.mpr ⟨List.mem_append_right _ (List.mem_append_right _ (List.mem_append_right _ (List.mem_append_right _ (List.mem_append_right _ (List.mem_append_right _ ((List.mem_of_getElem? (i := 133) rfl : _ ∈ tables_1_6))))))), List.forall_mem_cons.mpr ⟨List.mem_append_right _ (List.mem_append_right _ (List.mem_append_right _ (List.mem_append_right _ (List.mem_append_right _ (List.mem_append_right _ ((List.mem_of_getElem? (i := 134) rfl : _ ∈ tables_1_6))))))), List.forall_mem_cons.mpr ⟨List.mem_append_right _ (List.mem_append_right _ (List.mem_append_right _ (List.mem_append_right _ (List.mem_append_right _ (List.mem_append_right _ ((List.mem_of_getElem? (i := 135) rfl : _ ∈ tables_1_6))))))), List.forall_mem_cons.mpr ⟨List.mem_append_right _ (List.mem_append_right _ (List.mem_append_right _ (List.mem_append_right _ (List.mem_append_right _ (List.mem_append_right _ ((List.mem_of_getElem? (i := 136) rfl : _ ∈ tables_1_6))))))), List.forall_mem_nil _⟩⟩⟩⟩⟩⟩⟩⟩⟩⟩⟩⟩⟩⟩⟩⟩⟩⟩⟩⟩⟩⟩⟩⟩⟩⟩⟩⟩⟩⟩⟩⟩⟩⟩⟩⟩
