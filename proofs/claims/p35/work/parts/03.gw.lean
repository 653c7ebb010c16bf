def GW : List Cond := lw_tbl.filter goodWord
theorem gw_of {w : Cond} (h : w ∈ lw_tbl) (g : goodWord w = true) : w ∈ GW := List.mem_filter.mpr ⟨h, g⟩
theorem gw_s {w : Cond} (h : w ∈ k2_sels lw_privs) (g : goodWord w = true) : w ∈ GW := gw_of (List.mem_append_left _ h) g
theorem gw_t {w : Cond} (h : w ∈ tables_1) (g : goodWord w = true) : w ∈ GW := gw_of (List.mem_append_right _ h) g
theorem gw_1 {w : Cond} (h : w ∈ tables_1_1) (g : goodWord w = true) : w ∈ GW := gw_t (List.mem_append_left _ h) g
theorem gw_2 {w : Cond} (h : w ∈ tables_1_2) (g : goodWord w = true) : w ∈ GW := gw_t (List.mem_append_right _ (List.mem_append_left _ h)) g
theorem gw_3 {w : Cond} (h : w ∈ tables_1_3) (g : goodWord w = true) : w ∈ GW := gw_t (List.mem_append_right _ (List.mem_append_right _ (List.mem_append_left _ h))) g
theorem gw_4 {w : Cond} (h : w ∈ tables_1_4) (g : goodWord w = true) : w ∈ GW := gw_t (List.mem_append_right _ (List.mem_append_right _ (List.mem_append_right _ h))) g
theorem gws_0 : Cond.selects "java/util/ArrayList" ⟨"java/util/ArrayList", "add", "(Ljava/lang/Object;[Ljava/lang/Object;I)V"⟩ ⟨"java/util/ArrayList", "add", "(Ljava/lang/Object;[Ljava/lang/Object;I)V"⟩ ∈ GW := gw_s (List.mem_of_getElem? (i := 0) rfl) rfl
theorem gws_1 : Cond.selects "java/util/ArrayList" ⟨"java/util/ArrayList", "grow", "()[Ljava/lang/Object;"⟩ ⟨"java/util/ArrayList", "grow", "()[Ljava/lang/Object;"⟩ ∈ GW := gw_s (List.mem_of_getElem? (i := 1) rfl) rfl
theorem gws_2 : Cond.selects "java/util/ArrayList" ⟨"java/util/ArrayList", "grow", "(I)[Ljava/lang/Object;"⟩ ⟨"java/util/ArrayList", "grow", "(I)[Ljava/lang/Object;"⟩ ∈ GW := gw_s (List.mem_of_getElem? (i := 2) rfl) rfl
theorem gws_3 : Cond.selects "NightValley" ⟨"NightValley", "placeOf", "(I)LNightValley$Place;"⟩ ⟨"NightValley", "placeOf", "(I)LNightValley$Place;"⟩ ∈ GW := gw_s (List.mem_of_getElem? (i := 3) rfl) rfl
theorem gws_4 : Cond.selects "java/lang/Throwable" ⟨"java/lang/Throwable", "fillInStackTrace", "(I)Ljava/lang/Throwable;"⟩ ⟨"java/lang/Throwable", "fillInStackTrace", "(I)Ljava/lang/Throwable;"⟩ ∈ GW := gw_s (List.mem_of_getElem? (i := 4) rfl) rfl
theorem gws_5 : Cond.selects "NightValley" ⟨"NightValley", "givenBy", "(LNightValley$Lamp;LNightValley$Place;)I"⟩ ⟨"NightValley", "givenBy", "(LNightValley$Lamp;LNightValley$Place;)I"⟩ ∈ GW := gw_s (List.mem_of_getElem? (i := 5) rfl) rfl
theorem gws_6 : Cond.selects "NightValley" ⟨"NightValley", "isBurning", "(LNightValley$Lamp;)Z"⟩ ⟨"NightValley", "isBurning", "(LNightValley$Lamp;)Z"⟩ ∈ GW := gw_s (List.mem_of_getElem? (i := 6) rfl) rfl
theorem gws_7 : Cond.selects "NightValley" ⟨"NightValley", "isShaded", "(LNightValley$Place;LNightValley$Place;)Z"⟩ ⟨"NightValley", "isShaded", "(LNightValley$Place;LNightValley$Place;)Z"⟩ ∈ GW := gw_s (List.mem_of_getElem? (i := 7) rfl) rfl
theorem gws_8 : Cond.selects "NightValley$Place" ⟨"NightValley$Place", "isNearLine", "(LNightValley$Place;LNightValley$Place;)Z"⟩ ⟨"NightValley$Place", "isNearLine", "(LNightValley$Place;LNightValley$Place;)Z"⟩ ∈ GW := gw_s (List.mem_of_getElem? (i := 8) rfl) rfl
theorem gws_9 : Cond.selects "NightValley" ⟨"NightValley", "airFactor", "()I"⟩ ⟨"NightValley", "airFactor", "()I"⟩ ∈ GW := gw_s (List.mem_of_getElem? (i := 9) rfl) rfl
theorem gws_10 : Cond.selects "NightValley" ⟨"NightValley", "zoneOf", "(I)LNightValley$Zone;"⟩ ⟨"NightValley", "zoneOf", "(I)LNightValley$Zone;"⟩ ∈ GW := gw_s (List.mem_of_getElem? (i := 10) rfl) rfl
theorem gws_11 : Cond.selects "NightValley" ⟨"NightValley", "ageLamps", "()V"⟩ ⟨"NightValley", "ageLamps", "()V"⟩ ∈ GW := gw_s (List.mem_of_getElem? (i := 11) rfl) rfl
theorem gws_12 : Cond.selects "NightValley" ⟨"NightValley", "villageOf", "(I)LNightValley$Village;"⟩ ⟨"NightValley", "villageOf", "(I)LNightValley$Village;"⟩ ∈ GW := gw_s (List.mem_of_getElem? (i := 12) rfl) rfl
theorem gws_13 : Cond.selects "NightValley" ⟨"NightValley", "lampOf", "(I)LNightValley$Lamp;"⟩ ⟨"NightValley", "lampOf", "(I)LNightValley$Lamp;"⟩ ∈ GW := gw_s (List.mem_of_getElem? (i := 13) rfl) rfl
theorem gws_14 : Cond.selects "NightValley" ⟨"NightValley", "meterOf", "(I)LNightValley$Meter;"⟩ ⟨"NightValley", "meterOf", "(I)LNightValley$Meter;"⟩ ∈ GW := gw_s (List.mem_of_getElem? (i := 14) rfl) rfl
theorem gws_15 : Cond.selects "NightValley" ⟨"NightValley", "glowOf", "(LNightValley$Place;)I"⟩ ⟨"NightValley", "glowOf", "(LNightValley$Place;)I"⟩ ∈ GW := gw_s (List.mem_of_getElem? (i := 15) rfl) rfl
theorem gws_16 : Cond.selects "java/util/ArrayList" ⟨"java/util/ArrayList", "fastRemove", "([Ljava/lang/Object;I)V"⟩ ⟨"java/util/ArrayList", "fastRemove", "([Ljava/lang/Object;I)V"⟩ ∈ GW := gw_s (List.mem_of_getElem? (i := 16) rfl) rfl
theorem gws_17 : Cond.selects "NightValley" ⟨"NightValley", "burningLampsOf", "(LNightValley$Village;)I"⟩ ⟨"NightValley", "burningLampsOf", "(LNightValley$Village;)I"⟩ ∈ GW := gw_s (List.mem_of_getElem? (i := 17) rfl) rfl
theorem gws_18 : Cond.selects "NightValley$Walk" ⟨"NightValley$Walk", "reach", "(III)V"⟩ ⟨"NightValley$Walk", "reach", "(III)V"⟩ ∈ GW := gw_s (List.mem_of_getElem? (i := 18) rfl) rfl
theorem gws_19 : Cond.selects "NightValley$Walk" ⟨"NightValley$Walk", "goOn", "(II)V"⟩ ⟨"NightValley$Walk", "goOn", "(II)V"⟩ ∈ GW := gw_s (List.mem_of_getElem? (i := 19) rfl) rfl
theorem gws_20 : Cond.selects "NightValley" ⟨"NightValley", "planCost", "(LNightValley$Lamp;)I"⟩ ⟨"NightValley", "planCost", "(LNightValley$Lamp;)I"⟩ ∈ GW := gw_s (List.mem_of_getElem? (i := 20) rfl) rfl
theorem gws_21 : Cond.selects "NightValley$Choice" ⟨"NightValley$Choice", "sumOver", "(I[I)I"⟩ ⟨"NightValley$Choice", "sumOver", "(I[I)I"⟩ ∈ GW := gw_s (List.mem_of_getElem? (i := 21) rfl) rfl
theorem gw_1_0 : Cond.initialized "NightValleyLaw" ∈ GW := gw_1 (List.mem_of_getElem? (i := 0) rfl) rfl
theorem gw_1_1 : Cond.initialized "NightValley" ∈ GW := gw_1 (List.mem_of_getElem? (i := 1) rfl) rfl
theorem gw_1_2 : Cond.initialized "java/util/AbstractCollection" ∈ GW := gw_1 (List.mem_of_getElem? (i := 2) rfl) rfl
theorem gw_1_3 : Cond.initialized "java/util/AbstractList" ∈ GW := gw_1 (List.mem_of_getElem? (i := 3) rfl) rfl
theorem gw_1_4 : Cond.initialized "java/util/ArrayList" ∈ GW := gw_1 (List.mem_of_getElem? (i := 4) rfl) rfl
theorem gw_1_5 : Cond.initialized "NightValley$Label" ∈ GW := gw_1 (List.mem_of_getElem? (i := 5) rfl) rfl
theorem gw_1_6 : Cond.initialized "NightValley$Walk" ∈ GW := gw_1 (List.mem_of_getElem? (i := 6) rfl) rfl
theorem gw_1_7 : Cond.initialized "NightValley$Choice" ∈ GW := gw_1 (List.mem_of_getElem? (i := 7) rfl) rfl
theorem gw_1_8 : Cond.initialized "NightValley$Zone" ∈ GW := gw_1 (List.mem_of_getElem? (i := 8) rfl) rfl
theorem gw_1_9 : Cond.initialized "jdk/internal/util/ArraysSupport" ∈ GW := gw_1 (List.mem_of_getElem? (i := 9) rfl) rfl
theorem gw_1_10 : Cond.initialized "java/lang/Math" ∈ GW := gw_1 (List.mem_of_getElem? (i := 10) rfl) rfl
theorem gw_1_11 : Cond.initialized "java/util/Arrays" ∈ GW := gw_1 (List.mem_of_getElem? (i := 11) rfl) rfl
theorem gw_1_12 : Cond.initialized "java/lang/System" ∈ GW := gw_1 (List.mem_of_getElem? (i := 12) rfl) rfl
theorem gw_1_13 : Cond.initialized "NightValley$Place" ∈ GW := gw_1 (List.mem_of_getElem? (i := 13) rfl) rfl
theorem gw_1_14 : Cond.initialized "java/lang/Throwable" ∈ GW := gw_1 (List.mem_of_getElem? (i := 14) rfl) rfl
theorem gw_1_15 : Cond.initialized "java/lang/Exception" ∈ GW := gw_1 (List.mem_of_getElem? (i := 15) rfl) rfl
theorem gw_1_16 : Cond.initialized "java/lang/RuntimeException" ∈ GW := gw_1 (List.mem_of_getElem? (i := 16) rfl) rfl
theorem gw_1_17 : Cond.initialized "java/lang/IndexOutOfBoundsException" ∈ GW := gw_1 (List.mem_of_getElem? (i := 17) rfl) rfl
theorem gw_1_18 : Cond.initialized "java/util/Objects" ∈ GW := gw_1 (List.mem_of_getElem? (i := 18) rfl) rfl
theorem gw_1_19 : Cond.initialized "jdk/internal/util/Preconditions" ∈ GW := gw_1 (List.mem_of_getElem? (i := 19) rfl) rfl
theorem gw_1_20 : Cond.initialized "java/lang/IllegalArgumentException" ∈ GW := gw_1 (List.mem_of_getElem? (i := 20) rfl) rfl
theorem gw_1_21 : Cond.initialized "java/lang/IllegalStateException" ∈ GW := gw_1 (List.mem_of_getElem? (i := 21) rfl) rfl
theorem gw_1_22 : Cond.initialized "NightValley$Village" ∈ GW := gw_1 (List.mem_of_getElem? (i := 22) rfl) rfl
theorem gw_1_23 : Cond.initialized "NightValley$Lamp" ∈ GW := gw_1 (List.mem_of_getElem? (i := 23) rfl) rfl
theorem gw_1_24 : Cond.initialized "NightValley$Meter" ∈ GW := gw_1 (List.mem_of_getElem? (i := 24) rfl) rfl
theorem gw_1_25 : Cond.initialized "NightValley$Reading" ∈ GW := gw_1 (List.mem_of_getElem? (i := 25) rfl) rfl
theorem gw_1_26 : Cond.classLink "NightValleyLaw" 9 "NightValley" ∈ GW := gw_1 (List.mem_of_getElem? (i := 26) rfl) rfl
theorem gw_1_27 : Cond.instantiable "NightValley" 11 ∈ GW := gw_1 (List.mem_of_getElem? (i := 27) rfl) rfl
theorem gw_1_28 : Cond.methodLink "NightValleyLaw" 176 ⟨"NightValley", "<init>", "()V"⟩ ∈ GW := gw_1 (List.mem_of_getElem? (i := 28) rfl) rfl
theorem gw_1_29 : Cond.instanceMethod ⟨"NightValley", "<init>", "()V"⟩ ∈ GW := gw_1 (List.mem_of_getElem? (i := 29) rfl) rfl
theorem gw_1_30 : Cond.code ⟨"NightValley", "<init>", "()V"⟩ prog_1_method_1_code 3 (Option.none : Option FieldType) ∈ GW := gw_1 (List.mem_of_getElem? (i := 30) rfl) rfl
theorem gw_1_31 : Cond.methodLink "NightValley" 3 ⟨"java/lang/Object", "<init>", "()V"⟩ ∈ GW := gw_1 (List.mem_of_getElem? (i := 31) rfl) rfl
theorem gw_1_32 : Cond.instanceMethod ⟨"java/lang/Object", "<init>", "()V"⟩ ∈ GW := gw_1 (List.mem_of_getElem? (i := 32) rfl) rfl
theorem gw_1_33 : Cond.code ⟨"java/lang/Object", "<init>", "()V"⟩ object_method_1_code 1 (Option.none : Option FieldType) ∈ GW := gw_1 (List.mem_of_getElem? (i := 33) rfl) rfl
theorem gw_1_34 : Cond.classLink "NightValley" 9 "java/util/ArrayList" ∈ GW := gw_1 (List.mem_of_getElem? (i := 34) rfl) rfl
theorem gw_1_35 : Cond.instantiable "java/util/ArrayList" 3 ∈ GW := gw_1 (List.mem_of_getElem? (i := 35) rfl) rfl
theorem gw_1_36 : Cond.methodLink "NightValley" 11 ⟨"java/util/ArrayList", "<init>", "()V"⟩ ∈ GW := gw_1 (List.mem_of_getElem? (i := 36) rfl) rfl
theorem gw_1_37 : Cond.instanceMethod ⟨"java/util/ArrayList", "<init>", "()V"⟩ ∈ GW := gw_1 (List.mem_of_getElem? (i := 37) rfl) rfl
theorem gw_1_38 : Cond.code ⟨"java/util/ArrayList", "<init>", "()V"⟩ prog_27_method_2_code 1 (Option.none : Option FieldType) ∈ GW := gw_1 (List.mem_of_getElem? (i := 38) rfl) rfl
theorem gw_1_39 : Cond.methodLink "java/util/ArrayList" 1 ⟨"java/util/AbstractList", "<init>", "()V"⟩ ∈ GW := gw_1 (List.mem_of_getElem? (i := 39) rfl) rfl
theorem gw_1_40 : Cond.instanceMethod ⟨"java/util/AbstractList", "<init>", "()V"⟩ ∈ GW := gw_1 (List.mem_of_getElem? (i := 40) rfl) rfl
theorem gw_1_41 : Cond.code ⟨"java/util/AbstractList", "<init>", "()V"⟩ prog_26_method_1_code 1 (Option.none : Option FieldType) ∈ GW := gw_1 (List.mem_of_getElem? (i := 41) rfl) rfl
theorem gw_1_42 : Cond.methodLink "java/util/AbstractList" 1 ⟨"java/util/AbstractCollection", "<init>", "()V"⟩ ∈ GW := gw_1 (List.mem_of_getElem? (i := 42) rfl) rfl
theorem gw_1_43 : Cond.instanceMethod ⟨"java/util/AbstractCollection", "<init>", "()V"⟩ ∈ GW := gw_1 (List.mem_of_getElem? (i := 43) rfl) rfl
theorem gw_1_44 : Cond.code ⟨"java/util/AbstractCollection", "<init>", "()V"⟩ prog_25_method_1_code 1 (Option.none : Option FieldType) ∈ GW := gw_1 (List.mem_of_getElem? (i := 44) rfl) rfl
theorem gw_1_45 : Cond.methodLink "java/util/AbstractCollection" 1 ⟨"java/lang/Object", "<init>", "()V"⟩ ∈ GW := gw_1 (List.mem_of_getElem? (i := 45) rfl) rfl
theorem gw_1_46 : Cond.fieldLink "java/util/ArrayList" 39 "java/util/ArrayList" "DEFAULTCAPACITY_EMPTY_ELEMENTDATA" "[Ljava/lang/Object;" ∈ GW := gw_1 (List.mem_of_getElem? (i := 46) rfl) rfl
theorem gw_1_48 : Cond.fieldLink "java/util/ArrayList" 9 "java/util/ArrayList" "elementData" "[Ljava/lang/Object;" ∈ GW := gw_1 (List.mem_of_getElem? (i := 48) rfl) rfl
theorem gw_1_49 : Cond.fieldLink "java/util/ArrayList" 48 "java/util/ArrayList" "size" "I" ∈ GW := gw_1 (List.mem_of_getElem? (i := 49) rfl) rfl
theorem gw_1_50 : Cond.fieldLink "java/util/AbstractList" 7 "java/util/AbstractList" "modCount" "I" ∈ GW := gw_1 (List.mem_of_getElem? (i := 50) rfl) rfl
theorem gw_1_51 : Cond.fieldLink "java/util/ArrayList" 63 "java/util/ArrayList" "modCount" "I" ∈ GW := gw_1 (List.mem_of_getElem? (i := 51) rfl) rfl
theorem gw_1_52 : Cond.sameField "java/util/ArrayList" "java/util/AbstractList" "modCount" "I" ∈ GW := gw_1 (List.mem_of_getElem? (i := 52) rfl) rfl
theorem gw_1_53 : Cond.lays "java/util/ArrayList" "java/util/ArrayList" "elementData" "[Ljava/lang/Object;" ∈ GW := gw_1 (List.mem_of_getElem? (i := 53) rfl) rfl
theorem gw_1_54 : Cond.soleField "java/util/ArrayList" "elementData" ∈ GW := gw_1 (List.mem_of_getElem? (i := 54) rfl) rfl
theorem gw_1_55 : Cond.lays "java/util/ArrayList" "java/util/ArrayList" "size" "I" ∈ GW := gw_1 (List.mem_of_getElem? (i := 55) rfl) rfl
theorem gw_1_56 : Cond.soleField "java/util/ArrayList" "size" ∈ GW := gw_1 (List.mem_of_getElem? (i := 56) rfl) rfl
theorem gw_1_57 : Cond.lays "java/util/ArrayList" "java/util/AbstractList" "modCount" "I" ∈ GW := gw_1 (List.mem_of_getElem? (i := 57) rfl) rfl
theorem gw_1_58 : Cond.soleField "java/util/AbstractList" "modCount" ∈ GW := gw_1 (List.mem_of_getElem? (i := 58) rfl) rfl
theorem gw_1_59 : Cond.superclass "java/util/ArrayList" "java/util/AbstractList" ∈ GW := gw_1 (List.mem_of_getElem? (i := 59) rfl) rfl
theorem gw_1_60 : Cond.classLink "NightValley" 31 "NightValley$Label" ∈ GW := gw_1 (List.mem_of_getElem? (i := 60) rfl) rfl
theorem gw_1_61 : Cond.instantiable "NightValley$Label" 3 ∈ GW := gw_1 (List.mem_of_getElem? (i := 61) rfl) rfl
theorem gw_1_63 : Cond.instanceMethod ⟨"NightValley$Label", "<init>", "()V"⟩ ∈ GW := gw_1 (List.mem_of_getElem? (i := 63) rfl) rfl
theorem gw_1_64 : Cond.code ⟨"NightValley$Label", "<init>", "()V"⟩ prog_3_method_1_code 1 (Option.none : Option FieldType) ∈ GW := gw_1 (List.mem_of_getElem? (i := 64) rfl) rfl
theorem gw_1_65 : Cond.methodLink "NightValley$Label" 1 ⟨"java/lang/Object", "<init>", "()V"⟩ ∈ GW := gw_1 (List.mem_of_getElem? (i := 65) rfl) rfl
theorem gw_1_66 : Cond.fieldLink "NightValley$Label" 7 "NightValley$Label" "held" "Z" ∈ GW := gw_1 (List.mem_of_getElem? (i := 66) rfl) rfl
theorem gw_1_67 : Cond.fieldLink "NightValley" 317 "NightValley$Label" "held" "Z" ∈ GW := gw_1 (List.mem_of_getElem? (i := 67) rfl) rfl
theorem gw_1_68 : Cond.fieldLink "NightValley$Label" 13 "NightValley$Label" "successes" "I" ∈ GW := gw_1 (List.mem_of_getElem? (i := 68) rfl) rfl
theorem gw_1_69 : Cond.fieldLink "NightValley$Label" 17 "NightValley$Label" "failures" "I" ∈ GW := gw_1 (List.mem_of_getElem? (i := 69) rfl) rfl
theorem gw_1_70 : Cond.lays "NightValley$Label" "NightValley$Label" "held" "Z" ∈ GW := gw_1 (List.mem_of_getElem? (i := 70) rfl) rfl
theorem gw_1_71 : Cond.soleField "NightValley$Label" "held" ∈ GW := gw_1 (List.mem_of_getElem? (i := 71) rfl) rfl
theorem gw_1_72 : Cond.lays "NightValley$Label" "NightValley$Label" "successes" "I" ∈ GW := gw_1 (List.mem_of_getElem? (i := 72) rfl) rfl
theorem gw_1_73 : Cond.soleField "NightValley$Label" "successes" ∈ GW := gw_1 (List.mem_of_getElem? (i := 73) rfl) rfl
theorem gw_1_74 : Cond.lays "NightValley$Label" "NightValley$Label" "failures" "I" ∈ GW := gw_1 (List.mem_of_getElem? (i := 74) rfl) rfl
theorem gw_1_75 : Cond.soleField "NightValley$Label" "failures" ∈ GW := gw_1 (List.mem_of_getElem? (i := 75) rfl) rfl
theorem gw_1_76 : Cond.superclass "NightValley$Label" "java/lang/Object" ∈ GW := gw_1 (List.mem_of_getElem? (i := 76) rfl) rfl
theorem gw_1_77 : Cond.classLink "NightValley" 38 "NightValley$Walk" ∈ GW := gw_1 (List.mem_of_getElem? (i := 77) rfl) rfl
theorem gw_1_78 : Cond.instantiable "NightValley$Walk" 4 ∈ GW := gw_1 (List.mem_of_getElem? (i := 78) rfl) rfl
theorem gw_1_80 : Cond.instanceMethod ⟨"NightValley$Walk", "<init>", "()V"⟩ ∈ GW := gw_1 (List.mem_of_getElem? (i := 80) rfl) rfl
theorem gw_1_81 : Cond.code ⟨"NightValley$Walk", "<init>", "()V"⟩ prog_10_method_1_code 1 (Option.none : Option FieldType) ∈ GW := gw_1 (List.mem_of_getElem? (i := 81) rfl) rfl
theorem gw_1_82 : Cond.methodLink "NightValley$Walk" 3 ⟨"java/lang/Object", "<init>", "()V"⟩ ∈ GW := gw_1 (List.mem_of_getElem? (i := 82) rfl) rfl
theorem gw_1_83 : Cond.fieldLink "NightValley$Walk" 9 "NightValley$Walk" "grounds" "[I" ∈ GW := gw_1 (List.mem_of_getElem? (i := 83) rfl) rfl
theorem gw_1_84 : Cond.fieldLink "NightValley$Walk" 15 "NightValley$Walk" "steps" "[I" ∈ GW := gw_1 (List.mem_of_getElem? (i := 84) rfl) rfl
theorem gw_1_85 : Cond.fieldLink "NightValley$Walk" 18 "NightValley$Walk" "reached" "[I" ∈ GW := gw_1 (List.mem_of_getElem? (i := 85) rfl) rfl
theorem gw_1_86 : Cond.fieldLink "NightValley$Walk" 40 "NightValley$Walk" "reachedCount" "I" ∈ GW := gw_1 (List.mem_of_getElem? (i := 86) rfl) rfl
theorem gw_1_87 : Cond.laysFinal "NightValley$Walk" "NightValley$Walk" "grounds" "[I" ∈ GW := gw_1 (List.mem_of_getElem? (i := 87) rfl) rfl
theorem gw_1_88 : Cond.soleField "NightValley$Walk" "grounds" ∈ GW := gw_1 (List.mem_of_getElem? (i := 88) rfl) rfl
theorem gw_1_89 : Cond.laysFinal "NightValley$Walk" "NightValley$Walk" "steps" "[I" ∈ GW := gw_1 (List.mem_of_getElem? (i := 89) rfl) rfl
theorem gw_1_90 : Cond.soleField "NightValley$Walk" "steps" ∈ GW := gw_1 (List.mem_of_getElem? (i := 90) rfl) rfl
theorem gw_1_91 : Cond.laysFinal "NightValley$Walk" "NightValley$Walk" "reached" "[I" ∈ GW := gw_1 (List.mem_of_getElem? (i := 91) rfl) rfl
theorem gw_1_92 : Cond.soleField "NightValley$Walk" "reached" ∈ GW := gw_1 (List.mem_of_getElem? (i := 92) rfl) rfl
theorem gw_1_93 : Cond.lays "NightValley$Walk" "NightValley$Walk" "reachedCount" "I" ∈ GW := gw_1 (List.mem_of_getElem? (i := 93) rfl) rfl
theorem gw_1_94 : Cond.soleField "NightValley$Walk" "reachedCount" ∈ GW := gw_1 (List.mem_of_getElem? (i := 94) rfl) rfl
theorem gw_1_95 : Cond.superclass "NightValley$Walk" "java/lang/Object" ∈ GW := gw_1 (List.mem_of_getElem? (i := 95) rfl) rfl
theorem gw_1_96 : Cond.arrayClass FieldType.int ∈ GW := gw_1 (List.mem_of_getElem? (i := 96) rfl) rfl
theorem gw_1_97 : Cond.classLink "NightValley" 45 "NightValley$Choice" ∈ GW := gw_1 (List.mem_of_getElem? (i := 97) rfl) rfl
theorem gw_1_98 : Cond.instantiable "NightValley$Choice" 3 ∈ GW := gw_1 (List.mem_of_getElem? (i := 98) rfl) rfl
theorem gw_1_100 : Cond.instanceMethod ⟨"NightValley$Choice", "<init>", "()V"⟩ ∈ GW := gw_1 (List.mem_of_getElem? (i := 100) rfl) rfl
theorem gw_1_101 : Cond.code ⟨"NightValley$Choice", "<init>", "()V"⟩ prog_2_method_1_code 1 (Option.none : Option FieldType) ∈ GW := gw_1 (List.mem_of_getElem? (i := 101) rfl) rfl
theorem gw_1_102 : Cond.methodLink "NightValley$Choice" 3 ⟨"java/lang/Object", "<init>", "()V"⟩ ∈ GW := gw_1 (List.mem_of_getElem? (i := 102) rfl) rfl
theorem gw_1_103 : Cond.fieldLink "NightValley$Choice" 9 "NightValley$Choice" "costs" "[I" ∈ GW := gw_1 (List.mem_of_getElem? (i := 103) rfl) rfl
theorem gw_1_104 : Cond.fieldLink "NightValley$Choice" 15 "NightValley$Choice" "spares" "[I" ∈ GW := gw_1 (List.mem_of_getElem? (i := 104) rfl) rfl
theorem gw_1_105 : Cond.fieldLink "NightValley$Choice" 18 "NightValley$Choice" "count" "I" ∈ GW := gw_1 (List.mem_of_getElem? (i := 105) rfl) rfl
theorem gw_1_106 : Cond.laysFinal "NightValley$Choice" "NightValley$Choice" "costs" "[I" ∈ GW := gw_1 (List.mem_of_getElem? (i := 106) rfl) rfl
theorem gw_1_107 : Cond.soleField "NightValley$Choice" "costs" ∈ GW := gw_1 (List.mem_of_getElem? (i := 107) rfl) rfl
theorem gw_1_108 : Cond.laysFinal "NightValley$Choice" "NightValley$Choice" "spares" "[I" ∈ GW := gw_1 (List.mem_of_getElem? (i := 108) rfl) rfl
theorem gw_1_109 : Cond.soleField "NightValley$Choice" "spares" ∈ GW := gw_1 (List.mem_of_getElem? (i := 109) rfl) rfl
theorem gw_1_110 : Cond.lays "NightValley$Choice" "NightValley$Choice" "count" "I" ∈ GW := gw_1 (List.mem_of_getElem? (i := 110) rfl) rfl
theorem gw_1_111 : Cond.soleField "NightValley$Choice" "count" ∈ GW := gw_1 (List.mem_of_getElem? (i := 111) rfl) rfl
theorem gw_1_112 : Cond.superclass "NightValley$Choice" "java/lang/Object" ∈ GW := gw_1 (List.mem_of_getElem? (i := 112) rfl) rfl
theorem gw_1_113 : Cond.classLink "NightValley" 52 "NightValley$Zone" ∈ GW := gw_1 (List.mem_of_getElem? (i := 113) rfl) rfl
theorem gw_1_114 : Cond.instantiable "NightValley$Zone" 6 ∈ GW := gw_1 (List.mem_of_getElem? (i := 114) rfl) rfl
theorem gw_1_115 : Cond.methodLink "NightValley" 54 ⟨"NightValley$Zone", "<init>", "(I)V"⟩ ∈ GW := gw_1 (List.mem_of_getElem? (i := 115) rfl) rfl
theorem gw_1_116 : Cond.instanceMethod ⟨"NightValley$Zone", "<init>", "(I)V"⟩ ∈ GW := gw_1 (List.mem_of_getElem? (i := 116) rfl) rfl
theorem gw_1_117 : Cond.code ⟨"NightValley$Zone", "<init>", "(I)V"⟩ prog_11_method_1_code 2 (Option.none : Option FieldType) ∈ GW := gw_1 (List.mem_of_getElem? (i := 117) rfl) rfl
theorem gw_1_118 : Cond.methodLink "NightValley$Zone" 3 ⟨"java/lang/Object", "<init>", "()V"⟩ ∈ GW := gw_1 (List.mem_of_getElem? (i := 118) rfl) rfl
theorem gw_1_119 : Cond.fieldLink "NightValley$Zone" 22 "NightValley$Zone" "number" "I" ∈ GW := gw_1 (List.mem_of_getElem? (i := 119) rfl) rfl
theorem gw_1_120 : Cond.fieldLink "NightValley" 82 "NightValley$Zone" "number" "I" ∈ GW := gw_1 (List.mem_of_getElem? (i := 120) rfl) rfl
theorem gw_1_121 : Cond.fieldLink "NightValley$Zone" 9 "NightValley$Zone" "feasts" "[Z" ∈ GW := gw_1 (List.mem_of_getElem? (i := 121) rfl) rfl
theorem gw_1_122 : Cond.fieldLink "NightValley$Zone" 25 "NightValley$Zone" "feastDays" "I" ∈ GW := gw_1 (List.mem_of_getElem? (i := 122) rfl) rfl
theorem gw_1_123 : Cond.fieldLink "NightValley" 102 "NightValley$Zone" "feastDays" "I" ∈ GW := gw_1 (List.mem_of_getElem? (i := 123) rfl) rfl
theorem gw_1_124 : Cond.fieldLink "NightValley$Zone" 15 "NightValley$Zone" "curfew" "I" ∈ GW := gw_1 (List.mem_of_getElem? (i := 124) rfl) rfl
theorem gw_1_125 : Cond.fieldLink "NightValley" 90 "NightValley$Zone" "curfew" "I" ∈ GW := gw_1 (List.mem_of_getElem? (i := 125) rfl) rfl
theorem gw_1_126 : Cond.fieldLink "NightValley$Zone" 19 "NightValley$Zone" "greatestColour" "I" ∈ GW := gw_1 (List.mem_of_getElem? (i := 126) rfl) rfl
theorem gw_1_127 : Cond.fieldLink "NightValley" 93 "NightValley$Zone" "greatestColour" "I" ∈ GW := gw_1 (List.mem_of_getElem? (i := 127) rfl) rfl
theorem gw_1_128 : Cond.fieldLink "NightValley$Lamp" 61 "NightValley$Zone" "greatestColour" "I" ∈ GW := gw_1 (List.mem_of_getElem? (i := 128) rfl) rfl
theorem gw_1_129 : Cond.fieldLink "NightValley" 96 "NightValley$Zone" "leastShield" "I" ∈ GW := gw_1 (List.mem_of_getElem? (i := 129) rfl) rfl
theorem gw_1_130 : Cond.fieldLink "NightValley$Lamp" 66 "NightValley$Zone" "leastShield" "I" ∈ GW := gw_1 (List.mem_of_getElem? (i := 130) rfl) rfl
theorem gw_1_131 : Cond.laysFinal "NightValley$Zone" "NightValley$Zone" "number" "I" ∈ GW := gw_1 (List.mem_of_getElem? (i := 131) rfl) rfl
theorem gw_1_132 : Cond.soleField "NightValley$Zone" "number" ∈ GW := gw_1 (List.mem_of_getElem? (i := 132) rfl) rfl
theorem gw_1_133 : Cond.laysFinal "NightValley$Zone" "NightValley$Zone" "feasts" "[Z" ∈ GW := gw_1 (List.mem_of_getElem? (i := 133) rfl) rfl
theorem gw_1_134 : Cond.soleField "NightValley$Zone" "feasts" ∈ GW := gw_1 (List.mem_of_getElem? (i := 134) rfl) rfl
theorem gw_1_135 : Cond.lays "NightValley$Zone" "NightValley$Zone" "feastDays" "I" ∈ GW := gw_1 (List.mem_of_getElem? (i := 135) rfl) rfl
theorem gw_1_136 : Cond.soleField "NightValley$Zone" "feastDays" ∈ GW := gw_1 (List.mem_of_getElem? (i := 136) rfl) rfl
theorem gw_1_137 : Cond.lays "NightValley$Zone" "NightValley$Zone" "curfew" "I" ∈ GW := gw_1 (List.mem_of_getElem? (i := 137) rfl) rfl
theorem gw_1_138 : Cond.soleField "NightValley$Zone" "curfew" ∈ GW := gw_1 (List.mem_of_getElem? (i := 138) rfl) rfl
theorem gw_1_139 : Cond.lays "NightValley$Zone" "NightValley$Zone" "greatestColour" "I" ∈ GW := gw_1 (List.mem_of_getElem? (i := 139) rfl) rfl
theorem gw_1_140 : Cond.soleField "NightValley$Zone" "greatestColour" ∈ GW := gw_1 (List.mem_of_getElem? (i := 140) rfl) rfl
theorem gw_1_141 : Cond.lays "NightValley$Zone" "NightValley$Zone" "leastShield" "I" ∈ GW := gw_1 (List.mem_of_getElem? (i := 141) rfl) rfl
theorem gw_1_142 : Cond.soleField "NightValley$Zone" "leastShield" ∈ GW := gw_1 (List.mem_of_getElem? (i := 142) rfl) rfl
theorem gw_1_143 : Cond.superclass "NightValley$Zone" "java/lang/Object" ∈ GW := gw_1 (List.mem_of_getElem? (i := 143) rfl) rfl
theorem gw_1_144 : Cond.arrayClass FieldType.boolean ∈ GW := gw_1 (List.mem_of_getElem? (i := 144) rfl) rfl
theorem gw_1_145 : Cond.methodLink "NightValley" 57 ⟨"java/util/ArrayList", "add", "(Ljava/lang/Object;)Z"⟩ ∈ GW := gw_1 (List.mem_of_getElem? (i := 145) rfl) rfl
theorem gw_1_146 : Cond.instanceMethod ⟨"java/util/ArrayList", "add", "(Ljava/lang/Object;)Z"⟩ ∈ GW := gw_1 (List.mem_of_getElem? (i := 146) rfl) rfl
theorem gw_1_147 : Cond.selects "java/util/ArrayList" ⟨"java/util/ArrayList", "add", "(Ljava/lang/Object;)Z"⟩ ⟨"java/util/ArrayList", "add", "(Ljava/lang/Object;)Z"⟩ ∈ GW := gw_1 (List.mem_of_getElem? (i := 147) rfl) rfl
theorem gw_1_148 : Cond.code ⟨"java/util/ArrayList", "add", "(Ljava/lang/Object;)Z"⟩ prog_27_method_25_code 2 (Option.some FieldType.boolean) ∈ GW := gw_1 (List.mem_of_getElem? (i := 148) rfl) rfl
theorem gw_1_149 : Cond.methodLink "java/util/ArrayList" 131 ⟨"java/util/ArrayList", "add", "(Ljava/lang/Object;[Ljava/lang/Object;I)V"⟩ ∈ GW := gw_1 (List.mem_of_getElem? (i := 149) rfl) rfl
theorem gw_1_151 : Cond.instanceMethod ⟨"java/util/ArrayList", "add", "(Ljava/lang/Object;[Ljava/lang/Object;I)V"⟩ ∈ GW := gw_1 (List.mem_of_getElem? (i := 151) rfl) rfl
theorem gw_1_152 : Cond.code ⟨"java/util/ArrayList", "add", "(Ljava/lang/Object;[Ljava/lang/Object;I)V"⟩ prog_27_method_24_code 4 (Option.none : Option FieldType) ∈ GW := gw_1 (List.mem_of_getElem? (i := 152) rfl) rfl
theorem gw_1_153 : Cond.methodLink "java/util/ArrayList" 129 ⟨"java/util/ArrayList", "grow", "()[Ljava/lang/Object;"⟩ ∈ GW := gw_1 (List.mem_of_getElem? (i := 153) rfl) rfl
theorem gw_1_155 : Cond.instanceMethod ⟨"java/util/ArrayList", "grow", "()[Ljava/lang/Object;"⟩ ∈ GW := gw_1 (List.mem_of_getElem? (i := 155) rfl) rfl
theorem gw_1_156 : Cond.code ⟨"java/util/ArrayList", "grow", "()[Ljava/lang/Object;"⟩ prog_27_method_7_code 1 (Option.some (FieldType.array (FieldType.object "java/lang/Object"))) ∈ GW := gw_1 (List.mem_of_getElem? (i := 156) rfl) rfl
theorem gw_1_157 : Cond.methodLink "java/util/ArrayList" 69 ⟨"java/util/ArrayList", "grow", "(I)[Ljava/lang/Object;"⟩ ∈ GW := gw_1 (List.mem_of_getElem? (i := 157) rfl) rfl
theorem gw_1_159 : Cond.instanceMethod ⟨"java/util/ArrayList", "grow", "(I)[Ljava/lang/Object;"⟩ ∈ GW := gw_1 (List.mem_of_getElem? (i := 159) rfl) rfl
theorem gw_1_160 : Cond.code ⟨"java/util/ArrayList", "grow", "(I)[Ljava/lang/Object;"⟩ prog_27_method_6_code 4 (Option.some (FieldType.array (FieldType.object "java/lang/Object"))) ∈ GW := gw_1 (List.mem_of_getElem? (i := 160) rfl) rfl
theorem gw_1_161 : Cond.methodLink "java/util/ArrayList" 73 ⟨"jdk/internal/util/ArraysSupport", "newLength", "(III)I"⟩ ∈ GW := gw_1 (List.mem_of_getElem? (i := 161) rfl) rfl
theorem gw_1_162 : Cond.static ⟨"jdk/internal/util/ArraysSupport", "newLength", "(III)I"⟩ ∈ GW := gw_1 (List.mem_of_getElem? (i := 162) rfl) rfl
theorem gw_1_163 : Cond.code ⟨"jdk/internal/util/ArraysSupport", "newLength", "(III)I"⟩ prog_34_method_27_code 4 (Option.some FieldType.int) ∈ GW := gw_1 (List.mem_of_getElem? (i := 163) rfl) rfl
theorem gw_1_164 : Cond.methodLink "jdk/internal/util/ArraysSupport" 194 ⟨"java/lang/Math", "max", "(II)I"⟩ ∈ GW := gw_1 (List.mem_of_getElem? (i := 164) rfl) rfl
theorem gw_1_165 : Cond.static ⟨"java/lang/Math", "max", "(II)I"⟩ ∈ GW := gw_1 (List.mem_of_getElem? (i := 165) rfl) rfl
theorem gw_1_166 : Cond.code ⟨"java/lang/Math", "max", "(II)I"⟩ prog_21_method_65_code 2 (Option.some FieldType.int) ∈ GW := gw_1 (List.mem_of_getElem? (i := 166) rfl) rfl
theorem gw_1_167 : Cond.constant "jdk/internal/util/ArraysSupport" 200 (2147483639 : Int32) ∈ GW := gw_1 (List.mem_of_getElem? (i := 167) rfl) rfl
theorem gw_1_168 : Cond.methodLink "jdk/internal/util/ArraysSupport" 201 ⟨"jdk/internal/util/ArraysSupport", "hugeLength", "(II)I"⟩ ∈ GW := gw_1 (List.mem_of_getElem? (i := 168) rfl) rfl
theorem gw_1_169 : Cond.static ⟨"jdk/internal/util/ArraysSupport", "hugeLength", "(II)I"⟩ ∈ GW := gw_1 (List.mem_of_getElem? (i := 169) rfl) rfl
theorem gw_1_170 : Cond.code ⟨"jdk/internal/util/ArraysSupport", "hugeLength", "(II)I"⟩ prog_34_method_28_code 3 (Option.some FieldType.int) ∈ GW := gw_1 (List.mem_of_getElem? (i := 170) rfl) rfl
theorem gw_1_171 : Cond.methodLink "java/util/ArrayList" 66 ⟨"java/util/Arrays", "copyOf", "([Ljava/lang/Object;I)[Ljava/lang/Object;"⟩ ∈ GW := gw_1 (List.mem_of_getElem? (i := 171) rfl) rfl
theorem gw_1_172 : Cond.static ⟨"java/util/Arrays", "copyOf", "([Ljava/lang/Object;I)[Ljava/lang/Object;"⟩ ∈ GW := gw_1 (List.mem_of_getElem? (i := 172) rfl) rfl
theorem gw_1_173 : Cond.code ⟨"java/util/Arrays", "copyOf", "([Ljava/lang/Object;I)[Ljava/lang/Object;"⟩ prog_28_method_119_code 2 (Option.some (FieldType.array (FieldType.object "java/lang/Object"))) ∈ GW := gw_1 (List.mem_of_getElem? (i := 173) rfl) rfl
theorem gw_1_174 : Cond.methodLink "java/util/Arrays" 86 ⟨"java/lang/Object", "getClass", "()Ljava/lang/Class;"⟩ ∈ GW := gw_1 (List.mem_of_getElem? (i := 174) rfl) rfl
theorem gw_1_175 : Cond.instanceMethod ⟨"java/lang/Object", "getClass", "()Ljava/lang/Class;"⟩ ∈ GW := gw_1 (List.mem_of_getElem? (i := 175) rfl) rfl
theorem gw_1_176 : Cond.sameMethod "java/lang/Object" "java/lang/Object" "getClass" "()Ljava/lang/Class;" ∈ GW := gw_1 (List.mem_of_getElem? (i := 176) rfl) rfl
theorem gw_1_177 : Cond.selects "NightValley" ⟨"java/lang/Object", "getClass", "()Ljava/lang/Class;"⟩ ⟨"java/lang/Object", "getClass", "()Ljava/lang/Class;"⟩ ∈ GW := gw_1 (List.mem_of_getElem? (i := 177) rfl) rfl
theorem gw_1_178 : Cond.selects "NightValley$Choice" ⟨"java/lang/Object", "getClass", "()Ljava/lang/Class;"⟩ ⟨"java/lang/Object", "getClass", "()Ljava/lang/Class;"⟩ ∈ GW := gw_1 (List.mem_of_getElem? (i := 178) rfl) rfl
theorem gw_1_179 : Cond.selects "NightValley$Label" ⟨"java/lang/Object", "getClass", "()Ljava/lang/Class;"⟩ ⟨"java/lang/Object", "getClass", "()Ljava/lang/Class;"⟩ ∈ GW := gw_1 (List.mem_of_getElem? (i := 179) rfl) rfl
theorem gw_1_180 : Cond.selects "NightValley$Lamp" ⟨"java/lang/Object", "getClass", "()Ljava/lang/Class;"⟩ ⟨"java/lang/Object", "getClass", "()Ljava/lang/Class;"⟩ ∈ GW := gw_1 (List.mem_of_getElem? (i := 180) rfl) rfl
theorem gw_1_181 : Cond.selects "NightValley$Meter" ⟨"java/lang/Object", "getClass", "()Ljava/lang/Class;"⟩ ⟨"java/lang/Object", "getClass", "()Ljava/lang/Class;"⟩ ∈ GW := gw_1 (List.mem_of_getElem? (i := 181) rfl) rfl
theorem gw_1_182 : Cond.selects "NightValley$Place" ⟨"java/lang/Object", "getClass", "()Ljava/lang/Class;"⟩ ⟨"java/lang/Object", "getClass", "()Ljava/lang/Class;"⟩ ∈ GW := gw_1 (List.mem_of_getElem? (i := 182) rfl) rfl
theorem gw_1_183 : Cond.selects "NightValley$Reading" ⟨"java/lang/Object", "getClass", "()Ljava/lang/Class;"⟩ ⟨"java/lang/Object", "getClass", "()Ljava/lang/Class;"⟩ ∈ GW := gw_1 (List.mem_of_getElem? (i := 183) rfl) rfl
theorem gw_1_184 : Cond.selects "NightValley$Village" ⟨"java/lang/Object", "getClass", "()Ljava/lang/Class;"⟩ ⟨"java/lang/Object", "getClass", "()Ljava/lang/Class;"⟩ ∈ GW := gw_1 (List.mem_of_getElem? (i := 184) rfl) rfl
theorem gw_1_185 : Cond.selects "NightValley$Walk" ⟨"java/lang/Object", "getClass", "()Ljava/lang/Class;"⟩ ⟨"java/lang/Object", "getClass", "()Ljava/lang/Class;"⟩ ∈ GW := gw_1 (List.mem_of_getElem? (i := 185) rfl) rfl
theorem gw_1_186 : Cond.selects "NightValley$Zone" ⟨"java/lang/Object", "getClass", "()Ljava/lang/Class;"⟩ ⟨"java/lang/Object", "getClass", "()Ljava/lang/Class;"⟩ ∈ GW := gw_1 (List.mem_of_getElem? (i := 186) rfl) rfl
theorem gw_1_187 : Cond.selects "java/lang/IllegalArgumentException" ⟨"java/lang/Object", "getClass", "()Ljava/lang/Class;"⟩ ⟨"java/lang/Object", "getClass", "()Ljava/lang/Class;"⟩ ∈ GW := gw_1 (List.mem_of_getElem? (i := 187) rfl) rfl
theorem gw_1_188 : Cond.selects "java/lang/IllegalStateException" ⟨"java/lang/Object", "getClass", "()Ljava/lang/Class;"⟩ ⟨"java/lang/Object", "getClass", "()Ljava/lang/Class;"⟩ ∈ GW := gw_1 (List.mem_of_getElem? (i := 188) rfl) rfl
theorem gw_1_189 : Cond.selects "java/lang/IndexOutOfBoundsException" ⟨"java/lang/Object", "getClass", "()Ljava/lang/Class;"⟩ ⟨"java/lang/Object", "getClass", "()Ljava/lang/Class;"⟩ ∈ GW := gw_1 (List.mem_of_getElem? (i := 189) rfl) rfl
theorem gw_1_190 : Cond.selects "java/util/ArrayList" ⟨"java/lang/Object", "getClass", "()Ljava/lang/Class;"⟩ ⟨"java/lang/Object", "getClass", "()Ljava/lang/Class;"⟩ ∈ GW := gw_1 (List.mem_of_getElem? (i := 190) rfl) rfl
theorem gw_1_191 : Cond.native ⟨"java/lang/Object", "getClass", "()Ljava/lang/Class;"⟩ ∈ GW := gw_1 (List.mem_of_getElem? (i := 191) rfl) rfl
theorem gw_1_192 : Cond.methodLink "java/util/Arrays" 300 ⟨"java/util/Arrays", "copyOf", "([Ljava/lang/Object;ILjava/lang/Class;)[Ljava/lang/Object;"⟩ ∈ GW := gw_1 (List.mem_of_getElem? (i := 192) rfl) rfl
theorem gw_1_193 : Cond.static ⟨"java/util/Arrays", "copyOf", "([Ljava/lang/Object;ILjava/lang/Class;)[Ljava/lang/Object;"⟩ ∈ GW := gw_1 (List.mem_of_getElem? (i := 193) rfl) rfl
theorem gw_1_194 : Cond.code ⟨"java/util/Arrays", "copyOf", "([Ljava/lang/Object;ILjava/lang/Class;)[Ljava/lang/Object;"⟩ prog_28_method_120_code 4 (Option.some (FieldType.array (FieldType.object "java/lang/Object"))) ∈ GW := gw_1 (List.mem_of_getElem? (i := 194) rfl) rfl
theorem gw_1_195 : Cond.classLink "java/util/Arrays" 110 "[Ljava/lang/Object;" ∈ GW := gw_1 (List.mem_of_getElem? (i := 195) rfl) rfl
theorem gw_1_197 : Cond.classLink "java/util/Arrays" 2 "java/lang/Object" ∈ GW := gw_1 (List.mem_of_getElem? (i := 197) rfl) rfl
theorem gw_1_198 : Cond.methodLink "java/util/Arrays" 304 ⟨"java/lang/Math", "min", "(II)I"⟩ ∈ GW := gw_1 (List.mem_of_getElem? (i := 198) rfl) rfl
theorem gw_1_199 : Cond.static ⟨"java/lang/Math", "min", "(II)I"⟩ ∈ GW := gw_1 (List.mem_of_getElem? (i := 199) rfl) rfl
theorem gw_1_200 : Cond.code ⟨"java/lang/Math", "min", "(II)I"⟩ prog_21_method_69_code 2 (Option.some FieldType.int) ∈ GW := gw_1 (List.mem_of_getElem? (i := 200) rfl) rfl
theorem gw_1_201 : Cond.methodLink "java/util/Arrays" 150 ⟨"java/lang/System", "arraycopy", "(Ljava/lang/Object;ILjava/lang/Object;II)V"⟩ ∈ GW := gw_1 (List.mem_of_getElem? (i := 201) rfl) rfl
theorem gw_1_202 : Cond.static ⟨"java/lang/System", "arraycopy", "(Ljava/lang/Object;ILjava/lang/Object;II)V"⟩ ∈ GW := gw_1 (List.mem_of_getElem? (i := 202) rfl) rfl
theorem gw_1_203 : Cond.native ⟨"java/lang/System", "arraycopy", "(Ljava/lang/Object;ILjava/lang/Object;II)V"⟩ ∈ GW := gw_1 (List.mem_of_getElem? (i := 203) rfl) rfl
theorem gw_1_204 : Cond.methodLink "java/util/ArrayList" 79 ⟨"java/lang/Math", "max", "(II)I"⟩ ∈ GW := gw_1 (List.mem_of_getElem? (i := 204) rfl) rfl
theorem gw_1_205 : Cond.classLink "java/util/ArrayList" 7 "java/lang/Object" ∈ GW := gw_1 (List.mem_of_getElem? (i := 205) rfl) rfl
theorem gw_1_206 : Cond.classLink "NightValley" 61 "NightValley$Place" ∈ GW := gw_1 (List.mem_of_getElem? (i := 206) rfl) rfl
theorem gw_1_207 : Cond.instantiable "NightValley$Place" 4 ∈ GW := gw_1 (List.mem_of_getElem? (i := 207) rfl) rfl
theorem gw_1_208 : Cond.methodLink "NightValley" 63 ⟨"NightValley$Place", "<init>", "(ILNightValley$Zone;)V"⟩ ∈ GW := gw_1 (List.mem_of_getElem? (i := 208) rfl) rfl
theorem gw_1_209 : Cond.instanceMethod ⟨"NightValley$Place", "<init>", "(ILNightValley$Zone;)V"⟩ ∈ GW := gw_1 (List.mem_of_getElem? (i := 209) rfl) rfl
theorem gw_1_210 : Cond.code ⟨"NightValley$Place", "<init>", "(ILNightValley$Zone;)V"⟩ prog_6_method_1_code 3 (Option.none : Option FieldType) ∈ GW := gw_1 (List.mem_of_getElem? (i := 210) rfl) rfl
theorem gw_1_211 : Cond.methodLink "NightValley$Place" 3 ⟨"java/lang/Object", "<init>", "()V"⟩ ∈ GW := gw_1 (List.mem_of_getElem? (i := 211) rfl) rfl
theorem gw_1_212 : Cond.fieldLink "NightValley$Place" 9 "NightValley$Place" "x" "I" ∈ GW := gw_1 (List.mem_of_getElem? (i := 212) rfl) rfl
theorem gw_1_213 : Cond.fieldLink "NightValley$Walk" 27 "NightValley$Place" "x" "I" ∈ GW := gw_1 (List.mem_of_getElem? (i := 213) rfl) rfl
theorem gw_1_214 : Cond.fieldLink "NightValley" 277 "NightValley$Place" "x" "I" ∈ GW := gw_1 (List.mem_of_getElem? (i := 214) rfl) rfl
theorem gw_1_215 : Cond.fieldLink "NightValley$Place" 15 "NightValley$Place" "y" "I" ∈ GW := gw_1 (List.mem_of_getElem? (i := 215) rfl) rfl
theorem gw_1_216 : Cond.fieldLink "NightValley$Walk" 33 "NightValley$Place" "y" "I" ∈ GW := gw_1 (List.mem_of_getElem? (i := 216) rfl) rfl
theorem gw_1_217 : Cond.fieldLink "NightValley" 280 "NightValley$Place" "y" "I" ∈ GW := gw_1 (List.mem_of_getElem? (i := 217) rfl) rfl
theorem gw_1_218 : Cond.fieldLink "NightValley$Place" 18 "NightValley$Place" "zone" "LNightValley$Zone;" ∈ GW := gw_1 (List.mem_of_getElem? (i := 218) rfl) rfl
theorem gw_1_219 : Cond.fieldLink "NightValley" 78 "NightValley$Place" "zone" "LNightValley$Zone;" ∈ GW := gw_1 (List.mem_of_getElem? (i := 219) rfl) rfl
theorem gw_1_220 : Cond.fieldLink "NightValley$Lamp" 55 "NightValley$Place" "zone" "LNightValley$Zone;" ∈ GW := gw_1 (List.mem_of_getElem? (i := 220) rfl) rfl
theorem gw_1_221 : Cond.fieldLink "NightValley$Place" 22 "NightValley$Place" "ridge" "Z" ∈ GW := gw_1 (List.mem_of_getElem? (i := 221) rfl) rfl
theorem gw_1_222 : Cond.fieldLink "NightValley" 70 "NightValley$Place" "ridge" "Z" ∈ GW := gw_1 (List.mem_of_getElem? (i := 222) rfl) rfl
theorem gw_1_223 : Cond.laysFinal "NightValley$Place" "NightValley$Place" "x" "I" ∈ GW := gw_1 (List.mem_of_getElem? (i := 223) rfl) rfl
theorem gw_1_224 : Cond.soleField "NightValley$Place" "x" ∈ GW := gw_1 (List.mem_of_getElem? (i := 224) rfl) rfl
theorem gw_1_225 : Cond.laysFinal "NightValley$Place" "NightValley$Place" "y" "I" ∈ GW := gw_1 (List.mem_of_getElem? (i := 225) rfl) rfl
theorem gw_1_226 : Cond.soleField "NightValley$Place" "y" ∈ GW := gw_1 (List.mem_of_getElem? (i := 226) rfl) rfl
theorem gw_1_227 : Cond.lays "NightValley$Place" "NightValley$Place" "zone" "LNightValley$Zone;" ∈ GW := gw_1 (List.mem_of_getElem? (i := 227) rfl) rfl
theorem gw_1_228 : Cond.soleField "NightValley$Place" "zone" ∈ GW := gw_1 (List.mem_of_getElem? (i := 228) rfl) rfl
theorem gw_1_229 : Cond.lays "NightValley$Place" "NightValley$Place" "ridge" "Z" ∈ GW := gw_1 (List.mem_of_getElem? (i := 229) rfl) rfl
theorem gw_1_230 : Cond.soleField "NightValley$Place" "ridge" ∈ GW := gw_1 (List.mem_of_getElem? (i := 230) rfl) rfl
theorem gw_1_231 : Cond.superclass "NightValley$Place" "java/lang/Object" ∈ GW := gw_1 (List.mem_of_getElem? (i := 231) rfl) rfl
theorem gw_1_232 : Cond.fieldLink "NightValley" 12 "NightValley" "zones" "Ljava/util/ArrayList;" ∈ GW := gw_1 (List.mem_of_getElem? (i := 232) rfl) rfl
theorem gw_1_233 : Cond.fieldLink "NightValley" 16 "NightValley" "places" "Ljava/util/ArrayList;" ∈ GW := gw_1 (List.mem_of_getElem? (i := 233) rfl) rfl
theorem gw_1_234 : Cond.fieldLink "NightValley" 19 "NightValley" "villages" "Ljava/util/ArrayList;" ∈ GW := gw_1 (List.mem_of_getElem? (i := 234) rfl) rfl
theorem gw_1_235 : Cond.fieldLink "NightValley" 22 "NightValley" "lamps" "Ljava/util/ArrayList;" ∈ GW := gw_1 (List.mem_of_getElem? (i := 235) rfl) rfl
theorem gw_1_236 : Cond.fieldLink "NightValley" 25 "NightValley" "meters" "Ljava/util/ArrayList;" ∈ GW := gw_1 (List.mem_of_getElem? (i := 236) rfl) rfl
theorem gw_1_237 : Cond.fieldLink "NightValley" 28 "NightValley" "satellites" "Ljava/util/ArrayList;" ∈ GW := gw_1 (List.mem_of_getElem? (i := 237) rfl) rfl
theorem gw_1_238 : Cond.fieldLink "NightValley" 34 "NightValley" "label" "LNightValley$Label;" ∈ GW := gw_1 (List.mem_of_getElem? (i := 238) rfl) rfl
theorem gw_1_239 : Cond.fieldLink "NightValley" 41 "NightValley" "walk" "LNightValley$Walk;" ∈ GW := gw_1 (List.mem_of_getElem? (i := 239) rfl) rfl
theorem gw_2_0 : Cond.fieldLink "NightValley" 48 "NightValley" "choice" "LNightValley$Choice;" ∈ GW := gw_2 (List.mem_of_getElem? (i := 0) rfl) rfl
theorem gw_2_1 : Cond.fieldLink "NightValley" 108 "NightValley" "time" "I" ∈ GW := gw_2 (List.mem_of_getElem? (i := 1) rfl) rfl
theorem gw_2_2 : Cond.fieldLink "NightValley" 105 "NightValley" "air" "I" ∈ GW := gw_2 (List.mem_of_getElem? (i := 2) rfl) rfl
theorem gw_2_3 : Cond.laysFinal "NightValley" "NightValley" "zones" "Ljava/util/ArrayList;" ∈ GW := gw_2 (List.mem_of_getElem? (i := 3) rfl) rfl
theorem gw_2_4 : Cond.soleField "NightValley" "zones" ∈ GW := gw_2 (List.mem_of_getElem? (i := 4) rfl) rfl
theorem gw_2_5 : Cond.laysFinal "NightValley" "NightValley" "places" "Ljava/util/ArrayList;" ∈ GW := gw_2 (List.mem_of_getElem? (i := 5) rfl) rfl
theorem gw_2_6 : Cond.soleField "NightValley" "places" ∈ GW := gw_2 (List.mem_of_getElem? (i := 6) rfl) rfl
theorem gw_2_7 : Cond.laysFinal "NightValley" "NightValley" "villages" "Ljava/util/ArrayList;" ∈ GW := gw_2 (List.mem_of_getElem? (i := 7) rfl) rfl
theorem gw_2_8 : Cond.soleField "NightValley" "villages" ∈ GW := gw_2 (List.mem_of_getElem? (i := 8) rfl) rfl
theorem gw_2_9 : Cond.laysFinal "NightValley" "NightValley" "lamps" "Ljava/util/ArrayList;" ∈ GW := gw_2 (List.mem_of_getElem? (i := 9) rfl) rfl
theorem gw_2_10 : Cond.soleField "NightValley" "lamps" ∈ GW := gw_2 (List.mem_of_getElem? (i := 10) rfl) rfl
theorem gw_2_11 : Cond.laysFinal "NightValley" "NightValley" "meters" "Ljava/util/ArrayList;" ∈ GW := gw_2 (List.mem_of_getElem? (i := 11) rfl) rfl
theorem gw_2_12 : Cond.soleField "NightValley" "meters" ∈ GW := gw_2 (List.mem_of_getElem? (i := 12) rfl) rfl
theorem gw_2_13 : Cond.laysFinal "NightValley" "NightValley" "satellites" "Ljava/util/ArrayList;" ∈ GW := gw_2 (List.mem_of_getElem? (i := 13) rfl) rfl
theorem gw_2_14 : Cond.soleField "NightValley" "satellites" ∈ GW := gw_2 (List.mem_of_getElem? (i := 14) rfl) rfl
theorem gw_2_15 : Cond.laysFinal "NightValley" "NightValley" "label" "LNightValley$Label;" ∈ GW := gw_2 (List.mem_of_getElem? (i := 15) rfl) rfl
theorem gw_2_16 : Cond.soleField "NightValley" "label" ∈ GW := gw_2 (List.mem_of_getElem? (i := 16) rfl) rfl
theorem gw_2_17 : Cond.laysFinal "NightValley" "NightValley" "walk" "LNightValley$Walk;" ∈ GW := gw_2 (List.mem_of_getElem? (i := 17) rfl) rfl
theorem gw_2_18 : Cond.soleField "NightValley" "walk" ∈ GW := gw_2 (List.mem_of_getElem? (i := 18) rfl) rfl
theorem gw_2_19 : Cond.laysFinal "NightValley" "NightValley" "choice" "LNightValley$Choice;" ∈ GW := gw_2 (List.mem_of_getElem? (i := 19) rfl) rfl
theorem gw_2_20 : Cond.soleField "NightValley" "choice" ∈ GW := gw_2 (List.mem_of_getElem? (i := 20) rfl) rfl
theorem gw_2_21 : Cond.lays "NightValley" "NightValley" "time" "I" ∈ GW := gw_2 (List.mem_of_getElem? (i := 21) rfl) rfl
theorem gw_2_22 : Cond.soleField "NightValley" "time" ∈ GW := gw_2 (List.mem_of_getElem? (i := 22) rfl) rfl
theorem gw_2_23 : Cond.lays "NightValley" "NightValley" "air" "I" ∈ GW := gw_2 (List.mem_of_getElem? (i := 23) rfl) rfl
theorem gw_2_24 : Cond.soleField "NightValley" "air" ∈ GW := gw_2 (List.mem_of_getElem? (i := 24) rfl) rfl
theorem gw_2_25 : Cond.superclass "NightValley" "java/lang/Object" ∈ GW := gw_2 (List.mem_of_getElem? (i := 25) rfl) rfl
theorem gw_2_26 : Cond.methodLink "NightValleyLaw" 134 ⟨"NightValley", "culprit", "(I)I"⟩ ∈ GW := gw_2 (List.mem_of_getElem? (i := 26) rfl) rfl
theorem gw_2_27 : Cond.instanceMethod ⟨"NightValley", "culprit", "(I)I"⟩ ∈ GW := gw_2 (List.mem_of_getElem? (i := 27) rfl) rfl
theorem gw_2_28 : Cond.selects "NightValley" ⟨"NightValley", "culprit", "(I)I"⟩ ⟨"NightValley", "culprit", "(I)I"⟩ ∈ GW := gw_2 (List.mem_of_getElem? (i := 28) rfl) rfl
theorem gw_2_29 : Cond.code ⟨"NightValley", "culprit", "(I)I"⟩ prog_1_method_32_code 7 (Option.some FieldType.int) ∈ GW := gw_2 (List.mem_of_getElem? (i := 29) rfl) rfl
theorem gw_2_30 : Cond.methodLink "NightValley" 66 ⟨"NightValley", "placeOf", "(I)LNightValley$Place;"⟩ ∈ GW := gw_2 (List.mem_of_getElem? (i := 30) rfl) rfl
theorem gw_2_32 : Cond.instanceMethod ⟨"NightValley", "placeOf", "(I)LNightValley$Place;"⟩ ∈ GW := gw_2 (List.mem_of_getElem? (i := 32) rfl) rfl
theorem gw_2_33 : Cond.code ⟨"NightValley", "placeOf", "(I)LNightValley$Place;"⟩ prog_1_method_37_code 2 (Option.some (FieldType.object "NightValley$Place")) ∈ GW := gw_2 (List.mem_of_getElem? (i := 33) rfl) rfl
theorem gw_2_34 : Cond.methodLink "NightValley" 118 ⟨"java/util/ArrayList", "size", "()I"⟩ ∈ GW := gw_2 (List.mem_of_getElem? (i := 34) rfl) rfl
theorem gw_2_35 : Cond.instanceMethod ⟨"java/util/ArrayList", "size", "()I"⟩ ∈ GW := gw_2 (List.mem_of_getElem? (i := 35) rfl) rfl
theorem gw_2_36 : Cond.selects "java/util/ArrayList" ⟨"java/util/ArrayList", "size", "()I"⟩ ⟨"java/util/ArrayList", "size", "()I"⟩ ∈ GW := gw_2 (List.mem_of_getElem? (i := 36) rfl) rfl
theorem gw_2_37 : Cond.code ⟨"java/util/ArrayList", "size", "()I"⟩ prog_27_method_8_code 1 (Option.some FieldType.int) ∈ GW := gw_2 (List.mem_of_getElem? (i := 37) rfl) rfl
theorem gw_2_38 : Cond.methodLink "NightValley" 287 ⟨"NightValley", "needNumber", "(II)V"⟩ ∈ GW := gw_2 (List.mem_of_getElem? (i := 38) rfl) rfl
theorem gw_2_39 : Cond.static ⟨"NightValley", "needNumber", "(II)V"⟩ ∈ GW := gw_2 (List.mem_of_getElem? (i := 39) rfl) rfl
theorem gw_2_40 : Cond.code ⟨"NightValley", "needNumber", "(II)V"⟩ prog_1_method_34_code 2 (Option.none : Option FieldType) ∈ GW := gw_2 (List.mem_of_getElem? (i := 40) rfl) rfl
theorem gw_2_41 : Cond.classLink "NightValley" 339 "java/lang/IndexOutOfBoundsException" ∈ GW := gw_2 (List.mem_of_getElem? (i := 41) rfl) rfl
theorem gw_2_42 : Cond.instantiable "java/lang/IndexOutOfBoundsException" 6 ∈ GW := gw_2 (List.mem_of_getElem? (i := 42) rfl) rfl
theorem gw_2_50 : Cond.selects "java/lang/IndexOutOfBoundsException" ⟨"java/lang/Throwable", "fillInStackTrace", "(I)Ljava/lang/Throwable;"⟩ ⟨"java/lang/Throwable", "fillInStackTrace", "(I)Ljava/lang/Throwable;"⟩ ∈ GW := gw_2 (List.mem_of_getElem? (i := 50) rfl) rfl
theorem gw_2_51 : Cond.selects "java/lang/IndexOutOfBoundsException" ⟨"java/lang/Throwable", "fillInStackTrace", "()Ljava/lang/Throwable;"⟩ ⟨"java/lang/Throwable", "fillInStackTrace", "()Ljava/lang/Throwable;"⟩ ∈ GW := gw_2 (List.mem_of_getElem? (i := 51) rfl) rfl
theorem gw_2_52 : Cond.lays "java/lang/IndexOutOfBoundsException" "java/lang/Throwable" "cause" "Ljava/lang/Throwable;" ∈ GW := gw_2 (List.mem_of_getElem? (i := 52) rfl) rfl
theorem gw_2_53 : Cond.lays "java/lang/Throwable" "java/lang/Throwable" "cause" "Ljava/lang/Throwable;" ∈ GW := gw_2 (List.mem_of_getElem? (i := 53) rfl) rfl
theorem gw_2_54 : Cond.lays "java/lang/IndexOutOfBoundsException" "java/lang/Throwable" "stackTrace" "[Ljava/lang/StackTraceElement;" ∈ GW := gw_2 (List.mem_of_getElem? (i := 54) rfl) rfl
theorem gw_2_55 : Cond.lays "java/lang/Throwable" "java/lang/Throwable" "stackTrace" "[Ljava/lang/StackTraceElement;" ∈ GW := gw_2 (List.mem_of_getElem? (i := 55) rfl) rfl
theorem gw_2_56 : Cond.lays "java/lang/IndexOutOfBoundsException" "java/lang/Throwable" "suppressedExceptions" "Ljava/util/List;" ∈ GW := gw_2 (List.mem_of_getElem? (i := 56) rfl) rfl
theorem gw_2_57 : Cond.lays "java/lang/Throwable" "java/lang/Throwable" "suppressedExceptions" "Ljava/util/List;" ∈ GW := gw_2 (List.mem_of_getElem? (i := 57) rfl) rfl
theorem gw_2_58 : Cond.lays "java/lang/IndexOutOfBoundsException" "java/lang/Throwable" "detailMessage" "Ljava/lang/String;" ∈ GW := gw_2 (List.mem_of_getElem? (i := 58) rfl) rfl
theorem gw_2_59 : Cond.lays "java/lang/Throwable" "java/lang/Throwable" "detailMessage" "Ljava/lang/String;" ∈ GW := gw_2 (List.mem_of_getElem? (i := 59) rfl) rfl
theorem gw_2_60 : Cond.lays "java/lang/IndexOutOfBoundsException" "java/lang/Throwable" "backtrace" "Ljava/lang/Object;" ∈ GW := gw_2 (List.mem_of_getElem? (i := 60) rfl) rfl
theorem gw_2_61 : Cond.lays "java/lang/Throwable" "java/lang/Throwable" "backtrace" "Ljava/lang/Object;" ∈ GW := gw_2 (List.mem_of_getElem? (i := 61) rfl) rfl
theorem gw_2_62 : Cond.fieldLink "java/lang/Throwable" 198 "java/lang/Throwable" "backtrace" "Ljava/lang/Object;" ∈ GW := gw_2 (List.mem_of_getElem? (i := 62) rfl) rfl
theorem gw_2_63 : Cond.superclass "java/lang/Throwable" "java/lang/Object" ∈ GW := gw_2 (List.mem_of_getElem? (i := 63) rfl) rfl
theorem gw_2_64 : Cond.instanceMethod ⟨"java/lang/Throwable", "<init>", "()V"⟩ ∈ GW := gw_2 (List.mem_of_getElem? (i := 64) rfl) rfl
theorem gw_2_65 : Cond.code ⟨"java/lang/Throwable", "<init>", "()V"⟩ prog_24_method_1_code 1 (Option.none : Option FieldType) ∈ GW := gw_2 (List.mem_of_getElem? (i := 65) rfl) rfl
theorem gw_2_66 : Cond.methodLink "java/lang/Throwable" 1 ⟨"java/lang/Object", "<init>", "()V"⟩ ∈ GW := gw_2 (List.mem_of_getElem? (i := 66) rfl) rfl
theorem gw_2_67 : Cond.fieldLink "java/lang/Throwable" 13 "java/lang/Throwable" "UNASSIGNED_STACK" "[Ljava/lang/StackTraceElement;" ∈ GW := gw_2 (List.mem_of_getElem? (i := 67) rfl) rfl
theorem gw_2_69 : Cond.fieldLink "java/lang/Throwable" 20 "java/lang/Throwable" "SUPPRESSED_SENTINEL" "Ljava/util/List;" ∈ GW := gw_2 (List.mem_of_getElem? (i := 69) rfl) rfl
theorem gw_2_71 : Cond.methodLink "java/lang/Throwable" 27 ⟨"java/lang/Throwable", "fillInStackTrace", "()Ljava/lang/Throwable;"⟩ ∈ GW := gw_2 (List.mem_of_getElem? (i := 71) rfl) rfl
theorem gw_2_72 : Cond.instanceMethod ⟨"java/lang/Throwable", "fillInStackTrace", "()Ljava/lang/Throwable;"⟩ ∈ GW := gw_2 (List.mem_of_getElem? (i := 72) rfl) rfl
theorem gw_2_73 : Cond.sameMethod "java/lang/Throwable" "java/lang/Throwable" "fillInStackTrace" "()Ljava/lang/Throwable;" ∈ GW := gw_2 (List.mem_of_getElem? (i := 73) rfl) rfl
theorem gw_2_74 : Cond.selects "java/lang/IllegalArgumentException" ⟨"java/lang/Throwable", "fillInStackTrace", "()Ljava/lang/Throwable;"⟩ ⟨"java/lang/Throwable", "fillInStackTrace", "()Ljava/lang/Throwable;"⟩ ∈ GW := gw_2 (List.mem_of_getElem? (i := 74) rfl) rfl
theorem gw_2_75 : Cond.selects "java/lang/IllegalStateException" ⟨"java/lang/Throwable", "fillInStackTrace", "()Ljava/lang/Throwable;"⟩ ⟨"java/lang/Throwable", "fillInStackTrace", "()Ljava/lang/Throwable;"⟩ ∈ GW := gw_2 (List.mem_of_getElem? (i := 75) rfl) rfl
theorem gw_2_76 : Cond.codeSync ⟨"java/lang/Throwable", "fillInStackTrace", "()Ljava/lang/Throwable;"⟩ prog_24_method_18_code 1 (Option.some (FieldType.object "java/lang/Throwable")) ∈ GW := gw_2 (List.mem_of_getElem? (i := 76) rfl) rfl
theorem gw_2_77 : Cond.methodLink "java/lang/Throwable" 202 ⟨"java/lang/Throwable", "fillInStackTrace", "(I)Ljava/lang/Throwable;"⟩ ∈ GW := gw_2 (List.mem_of_getElem? (i := 77) rfl) rfl
theorem gw_2_79 : Cond.instanceMethod ⟨"java/lang/Throwable", "fillInStackTrace", "(I)Ljava/lang/Throwable;"⟩ ∈ GW := gw_2 (List.mem_of_getElem? (i := 79) rfl) rfl
theorem gw_2_80 : Cond.instantiable "java/lang/Throwable" 6 ∈ GW := gw_2 (List.mem_of_getElem? (i := 80) rfl) rfl
theorem gw_2_81 : Cond.native ⟨"java/lang/Throwable", "fillInStackTrace", "(I)Ljava/lang/Throwable;"⟩ ∈ GW := gw_2 (List.mem_of_getElem? (i := 81) rfl) rfl
theorem gw_2_82 : Cond.methodLink "NightValley" 341 ⟨"java/lang/IndexOutOfBoundsException", "<init>", "()V"⟩ ∈ GW := gw_2 (List.mem_of_getElem? (i := 82) rfl) rfl
theorem gw_2_83 : Cond.instanceMethod ⟨"java/lang/IndexOutOfBoundsException", "<init>", "()V"⟩ ∈ GW := gw_2 (List.mem_of_getElem? (i := 83) rfl) rfl
theorem gw_2_84 : Cond.code ⟨"java/lang/IndexOutOfBoundsException", "<init>", "()V"⟩ prog_19_method_1_code 1 (Option.none : Option FieldType) ∈ GW := gw_2 (List.mem_of_getElem? (i := 84) rfl) rfl
theorem gw_2_85 : Cond.methodLink "java/lang/IndexOutOfBoundsException" 1 ⟨"java/lang/RuntimeException", "<init>", "()V"⟩ ∈ GW := gw_2 (List.mem_of_getElem? (i := 85) rfl) rfl
theorem gw_2_86 : Cond.instanceMethod ⟨"java/lang/RuntimeException", "<init>", "()V"⟩ ∈ GW := gw_2 (List.mem_of_getElem? (i := 86) rfl) rfl
theorem gw_2_87 : Cond.code ⟨"java/lang/RuntimeException", "<init>", "()V"⟩ prog_22_method_1_code 1 (Option.none : Option FieldType) ∈ GW := gw_2 (List.mem_of_getElem? (i := 87) rfl) rfl
theorem gw_2_88 : Cond.methodLink "java/lang/RuntimeException" 1 ⟨"java/lang/Exception", "<init>", "()V"⟩ ∈ GW := gw_2 (List.mem_of_getElem? (i := 88) rfl) rfl
theorem gw_2_89 : Cond.instanceMethod ⟨"java/lang/Exception", "<init>", "()V"⟩ ∈ GW := gw_2 (List.mem_of_getElem? (i := 89) rfl) rfl
theorem gw_2_90 : Cond.code ⟨"java/lang/Exception", "<init>", "()V"⟩ prog_16_method_1_code 1 (Option.none : Option FieldType) ∈ GW := gw_2 (List.mem_of_getElem? (i := 90) rfl) rfl
theorem gw_2_91 : Cond.methodLink "java/lang/Exception" 1 ⟨"java/lang/Throwable", "<init>", "()V"⟩ ∈ GW := gw_2 (List.mem_of_getElem? (i := 91) rfl) rfl
theorem gw_2_92 : Cond.fieldLink "java/lang/Throwable" 198 "java/lang/Throwable" "backtrace" "Ljava/lang/Object;" ∈ GW := gw_2 (List.mem_of_getElem? (i := 92) rfl) rfl
theorem gw_2_93 : Cond.fieldLink "java/lang/Throwable" 7 "java/lang/Throwable" "cause" "Ljava/lang/Throwable;" ∈ GW := gw_2 (List.mem_of_getElem? (i := 93) rfl) rfl
theorem gw_2_94 : Cond.fieldLink "java/lang/Throwable" 17 "java/lang/Throwable" "stackTrace" "[Ljava/lang/StackTraceElement;" ∈ GW := gw_2 (List.mem_of_getElem? (i := 94) rfl) rfl
theorem gw_2_95 : Cond.fieldLink "java/lang/Throwable" 24 "java/lang/Throwable" "suppressedExceptions" "Ljava/util/List;" ∈ GW := gw_2 (List.mem_of_getElem? (i := 95) rfl) rfl
theorem gw_2_96 : Cond.soleField "java/lang/Throwable" "backtrace" ∈ GW := gw_2 (List.mem_of_getElem? (i := 96) rfl) rfl
theorem gw_2_97 : Cond.soleField "java/lang/Throwable" "detailMessage" ∈ GW := gw_2 (List.mem_of_getElem? (i := 97) rfl) rfl
theorem gw_2_98 : Cond.soleField "java/lang/Throwable" "cause" ∈ GW := gw_2 (List.mem_of_getElem? (i := 98) rfl) rfl
theorem gw_2_99 : Cond.soleField "java/lang/Throwable" "stackTrace" ∈ GW := gw_2 (List.mem_of_getElem? (i := 99) rfl) rfl
theorem gw_2_100 : Cond.lays "java/lang/IndexOutOfBoundsException" "java/lang/Throwable" "depth" "I" ∈ GW := gw_2 (List.mem_of_getElem? (i := 100) rfl) rfl
theorem gw_2_101 : Cond.soleField "java/lang/Throwable" "depth" ∈ GW := gw_2 (List.mem_of_getElem? (i := 101) rfl) rfl
theorem gw_2_102 : Cond.soleField "java/lang/Throwable" "suppressedExceptions" ∈ GW := gw_2 (List.mem_of_getElem? (i := 102) rfl) rfl
theorem gw_2_103 : Cond.superclass "java/lang/IndexOutOfBoundsException" "java/lang/RuntimeException" ∈ GW := gw_2 (List.mem_of_getElem? (i := 103) rfl) rfl
theorem gw_2_104 : Cond.methodLink "NightValley" 191 ⟨"java/util/ArrayList", "get", "(I)Ljava/lang/Object;"⟩ ∈ GW := gw_2 (List.mem_of_getElem? (i := 104) rfl) rfl
theorem gw_2_105 : Cond.instanceMethod ⟨"java/util/ArrayList", "get", "(I)Ljava/lang/Object;"⟩ ∈ GW := gw_2 (List.mem_of_getElem? (i := 105) rfl) rfl
theorem gw_2_106 : Cond.selects "java/util/ArrayList" ⟨"java/util/ArrayList", "get", "(I)Ljava/lang/Object;"⟩ ⟨"java/util/ArrayList", "get", "(I)Ljava/lang/Object;"⟩ ∈ GW := gw_2 (List.mem_of_getElem? (i := 106) rfl) rfl
theorem gw_2_107 : Cond.code ⟨"java/util/ArrayList", "get", "(I)Ljava/lang/Object;"⟩ prog_27_method_20_code 2 (Option.some (FieldType.object "java/lang/Object")) ∈ GW := gw_2 (List.mem_of_getElem? (i := 107) rfl) rfl
theorem gw_2_108 : Cond.methodLink "java/util/ArrayList" 118 ⟨"java/util/Objects", "checkIndex", "(II)I"⟩ ∈ GW := gw_2 (List.mem_of_getElem? (i := 108) rfl) rfl
theorem gw_2_109 : Cond.static ⟨"java/util/Objects", "checkIndex", "(II)I"⟩ ∈ GW := gw_2 (List.mem_of_getElem? (i := 109) rfl) rfl
theorem gw_2_110 : Cond.code ⟨"java/util/Objects", "checkIndex", "(II)I"⟩ prog_31_method_17_code 2 (Option.some FieldType.int) ∈ GW := gw_2 (List.mem_of_getElem? (i := 110) rfl) rfl
theorem gw_2_111 : Cond.methodLink "java/util/Objects" 105 ⟨"jdk/internal/util/Preconditions", "checkIndex", "(IILjava/util/function/BiFunction;)I"⟩ ∈ GW := gw_2 (List.mem_of_getElem? (i := 111) rfl) rfl
theorem gw_2_112 : Cond.static ⟨"jdk/internal/util/Preconditions", "checkIndex", "(IILjava/util/function/BiFunction;)I"⟩ ∈ GW := gw_2 (List.mem_of_getElem? (i := 112) rfl) rfl
theorem gw_2_113 : Cond.code ⟨"jdk/internal/util/Preconditions", "checkIndex", "(IILjava/util/function/BiFunction;)I"⟩ prog_35_method_11_code 3 (Option.some FieldType.int) ∈ GW := gw_2 (List.mem_of_getElem? (i := 113) rfl) rfl
theorem gw_2_114 : Cond.methodLink "java/util/ArrayList" 123 ⟨"java/util/ArrayList", "elementData", "(I)Ljava/lang/Object;"⟩ ∈ GW := gw_2 (List.mem_of_getElem? (i := 114) rfl) rfl
theorem gw_2_115 : Cond.instanceMethod ⟨"java/util/ArrayList", "elementData", "(I)Ljava/lang/Object;"⟩ ∈ GW := gw_2 (List.mem_of_getElem? (i := 115) rfl) rfl
theorem gw_2_116 : Cond.selects "java/util/ArrayList" ⟨"java/util/ArrayList", "elementData", "(I)Ljava/lang/Object;"⟩ ⟨"java/util/ArrayList", "elementData", "(I)Ljava/lang/Object;"⟩ ∈ GW := gw_2 (List.mem_of_getElem? (i := 116) rfl) rfl
theorem gw_2_117 : Cond.code ⟨"java/util/ArrayList", "elementData", "(I)Ljava/lang/Object;"⟩ prog_27_method_18_code 2 (Option.some (FieldType.object "java/lang/Object")) ∈ GW := gw_2 (List.mem_of_getElem? (i := 117) rfl) rfl
theorem gw_2_118 : Cond.classLink "NightValley" 134 "NightValley$Lamp" ∈ GW := gw_2 (List.mem_of_getElem? (i := 118) rfl) rfl
theorem gw_2_119 : Cond.methodLink "NightValley" 270 ⟨"NightValley", "givenBy", "(LNightValley$Lamp;LNightValley$Place;)I"⟩ ∈ GW := gw_2 (List.mem_of_getElem? (i := 119) rfl) rfl
theorem gw_2_121 : Cond.instanceMethod ⟨"NightValley", "givenBy", "(LNightValley$Lamp;LNightValley$Place;)I"⟩ ∈ GW := gw_2 (List.mem_of_getElem? (i := 121) rfl) rfl
theorem gw_2_122 : Cond.code ⟨"NightValley", "givenBy", "(LNightValley$Lamp;LNightValley$Place;)I"⟩ prog_1_method_48_code 6 (Option.some FieldType.int) ∈ GW := gw_2 (List.mem_of_getElem? (i := 122) rfl) rfl
theorem gw_2_123 : Cond.methodLink "NightValley" 253 ⟨"NightValley", "isBurning", "(LNightValley$Lamp;)Z"⟩ ∈ GW := gw_2 (List.mem_of_getElem? (i := 123) rfl) rfl
theorem gw_2_125 : Cond.instanceMethod ⟨"NightValley", "isBurning", "(LNightValley$Lamp;)Z"⟩ ∈ GW := gw_2 (List.mem_of_getElem? (i := 125) rfl) rfl
theorem gw_2_126 : Cond.code ⟨"NightValley", "isBurning", "(LNightValley$Lamp;)Z"⟩ prog_1_method_46_code 4 (Option.some FieldType.boolean) ∈ GW := gw_2 (List.mem_of_getElem? (i := 126) rfl) rfl
theorem gw_2_127 : Cond.methodLink "NightValley" 351 ⟨"NightValley$Lamp", "hasHour", "(I)Z"⟩ ∈ GW := gw_2 (List.mem_of_getElem? (i := 127) rfl) rfl
theorem gw_2_128 : Cond.instanceMethod ⟨"NightValley$Lamp", "hasHour", "(I)Z"⟩ ∈ GW := gw_2 (List.mem_of_getElem? (i := 128) rfl) rfl
theorem gw_2_129 : Cond.selects "NightValley$Lamp" ⟨"NightValley$Lamp", "hasHour", "(I)Z"⟩ ⟨"NightValley$Lamp", "hasHour", "(I)Z"⟩ ∈ GW := gw_2 (List.mem_of_getElem? (i := 129) rfl) rfl
theorem gw_2_130 : Cond.code ⟨"NightValley$Lamp", "hasHour", "(I)Z"⟩ prog_4_method_2_code 2 (Option.some FieldType.boolean) ∈ GW := gw_2 (List.mem_of_getElem? (i := 130) rfl) rfl
theorem gw_2_131 : Cond.methodLink "NightValley" 354 ⟨"NightValley$Zone", "isOpenAt", "(I)Z"⟩ ∈ GW := gw_2 (List.mem_of_getElem? (i := 131) rfl) rfl
theorem gw_2_132 : Cond.instanceMethod ⟨"NightValley$Zone", "isOpenAt", "(I)Z"⟩ ∈ GW := gw_2 (List.mem_of_getElem? (i := 132) rfl) rfl
theorem gw_2_133 : Cond.selects "NightValley$Zone" ⟨"NightValley$Zone", "isOpenAt", "(I)Z"⟩ ⟨"NightValley$Zone", "isOpenAt", "(I)Z"⟩ ∈ GW := gw_2 (List.mem_of_getElem? (i := 133) rfl) rfl
theorem gw_2_134 : Cond.code ⟨"NightValley$Zone", "isOpenAt", "(I)Z"⟩ prog_11_method_4_code 2 (Option.some FieldType.boolean) ∈ GW := gw_2 (List.mem_of_getElem? (i := 134) rfl) rfl
theorem gw_2_135 : Cond.methodLink "NightValley" 357 ⟨"NightValley$Zone", "hasFeast", "(I)Z"⟩ ∈ GW := gw_2 (List.mem_of_getElem? (i := 135) rfl) rfl
theorem gw_2_136 : Cond.instanceMethod ⟨"NightValley$Zone", "hasFeast", "(I)Z"⟩ ∈ GW := gw_2 (List.mem_of_getElem? (i := 136) rfl) rfl
theorem gw_2_137 : Cond.selects "NightValley$Zone" ⟨"NightValley$Zone", "hasFeast", "(I)Z"⟩ ⟨"NightValley$Zone", "hasFeast", "(I)Z"⟩ ∈ GW := gw_2 (List.mem_of_getElem? (i := 137) rfl) rfl
theorem gw_2_138 : Cond.code ⟨"NightValley$Zone", "hasFeast", "(I)Z"⟩ prog_11_method_3_code 2 (Option.some FieldType.boolean) ∈ GW := gw_2 (List.mem_of_getElem? (i := 138) rfl) rfl
theorem gw_2_139 : Cond.methodLink "NightValley" 360 ⟨"NightValley$Lamp", "skyLight", "()I"⟩ ∈ GW := gw_2 (List.mem_of_getElem? (i := 139) rfl) rfl
theorem gw_2_140 : Cond.instanceMethod ⟨"NightValley$Lamp", "skyLight", "()I"⟩ ∈ GW := gw_2 (List.mem_of_getElem? (i := 140) rfl) rfl
theorem gw_2_141 : Cond.selects "NightValley$Lamp" ⟨"NightValley$Lamp", "skyLight", "()I"⟩ ⟨"NightValley$Lamp", "skyLight", "()I"⟩ ∈ GW := gw_2 (List.mem_of_getElem? (i := 141) rfl) rfl
theorem gw_2_142 : Cond.code ⟨"NightValley$Lamp", "skyLight", "()I"⟩ prog_4_method_4_code 2 (Option.some FieldType.int) ∈ GW := gw_2 (List.mem_of_getElem? (i := 142) rfl) rfl
theorem gw_2_143 : Cond.methodLink "NightValley$Lamp" 47 ⟨"NightValley$Lamp", "light", "()I"⟩ ∈ GW := gw_2 (List.mem_of_getElem? (i := 143) rfl) rfl
theorem gw_2_144 : Cond.instanceMethod ⟨"NightValley$Lamp", "light", "()I"⟩ ∈ GW := gw_2 (List.mem_of_getElem? (i := 144) rfl) rfl
theorem gw_2_145 : Cond.selects "NightValley$Lamp" ⟨"NightValley$Lamp", "light", "()I"⟩ ⟨"NightValley$Lamp", "light", "()I"⟩ ∈ GW := gw_2 (List.mem_of_getElem? (i := 145) rfl) rfl
theorem gw_2_146 : Cond.code ⟨"NightValley$Lamp", "light", "()I"⟩ prog_4_method_3_code 2 (Option.some FieldType.int) ∈ GW := gw_2 (List.mem_of_getElem? (i := 146) rfl) rfl
theorem gw_2_147 : Cond.methodLink "NightValley$Lamp" 38 ⟨"java/lang/Math", "min", "(II)I"⟩ ∈ GW := gw_2 (List.mem_of_getElem? (i := 147) rfl) rfl
theorem gw_2_148 : Cond.methodLink "NightValley" 283 ⟨"NightValley", "weakened", "(III)I"⟩ ∈ GW := gw_2 (List.mem_of_getElem? (i := 148) rfl) rfl
theorem gw_2_149 : Cond.static ⟨"NightValley", "weakened", "(III)I"⟩ ∈ GW := gw_2 (List.mem_of_getElem? (i := 149) rfl) rfl
theorem gw_2_150 : Cond.code ⟨"NightValley", "weakened", "(III)I"⟩ prog_1_method_44_code 4 (Option.some FieldType.int) ∈ GW := gw_2 (List.mem_of_getElem? (i := 150) rfl) rfl
theorem gw_2_151 : Cond.methodLink "NightValley" 363 ⟨"NightValley", "isShaded", "(LNightValley$Place;LNightValley$Place;)Z"⟩ ∈ GW := gw_2 (List.mem_of_getElem? (i := 151) rfl) rfl
theorem gw_2_153 : Cond.instanceMethod ⟨"NightValley", "isShaded", "(LNightValley$Place;LNightValley$Place;)Z"⟩ ∈ GW := gw_2 (List.mem_of_getElem? (i := 153) rfl) rfl
theorem gw_2_154 : Cond.code ⟨"NightValley", "isShaded", "(LNightValley$Place;LNightValley$Place;)Z"⟩ prog_1_method_51_code 10 (Option.some FieldType.boolean) ∈ GW := gw_2 (List.mem_of_getElem? (i := 154) rfl) rfl
theorem gw_2_155 : Cond.methodLink "NightValley" 370 ⟨"java/lang/Math", "min", "(II)I"⟩ ∈ GW := gw_2 (List.mem_of_getElem? (i := 155) rfl) rfl
theorem gw_2_156 : Cond.methodLink "NightValley" 159 ⟨"java/lang/Math", "max", "(II)I"⟩ ∈ GW := gw_2 (List.mem_of_getElem? (i := 156) rfl) rfl
theorem gw_2_157 : Cond.methodLink "NightValley" 373 ⟨"NightValley$Place", "shades", "(LNightValley$Place;LNightValley$Place;)Z"⟩ ∈ GW := gw_2 (List.mem_of_getElem? (i := 157) rfl) rfl
theorem gw_2_158 : Cond.instanceMethod ⟨"NightValley$Place", "shades", "(LNightValley$Place;LNightValley$Place;)Z"⟩ ∈ GW := gw_2 (List.mem_of_getElem? (i := 158) rfl) rfl
theorem gw_2_159 : Cond.selects "NightValley$Place" ⟨"NightValley$Place", "shades", "(LNightValley$Place;LNightValley$Place;)Z"⟩ ⟨"NightValley$Place", "shades", "(LNightValley$Place;LNightValley$Place;)Z"⟩ ∈ GW := gw_2 (List.mem_of_getElem? (i := 159) rfl) rfl
theorem gw_2_160 : Cond.code ⟨"NightValley$Place", "shades", "(LNightValley$Place;LNightValley$Place;)Z"⟩ prog_6_method_2_code 3 (Option.some FieldType.boolean) ∈ GW := gw_2 (List.mem_of_getElem? (i := 160) rfl) rfl
theorem gw_2_161 : Cond.methodLink "NightValley$Place" 26 ⟨"NightValley$Place", "isNearLine", "(LNightValley$Place;LNightValley$Place;)Z"⟩ ∈ GW := gw_2 (List.mem_of_getElem? (i := 161) rfl) rfl
theorem gw_2_163 : Cond.instanceMethod ⟨"NightValley$Place", "isNearLine", "(LNightValley$Place;LNightValley$Place;)Z"⟩ ∈ GW := gw_2 (List.mem_of_getElem? (i := 163) rfl) rfl
theorem gw_2_164 : Cond.code ⟨"NightValley$Place", "isNearLine", "(LNightValley$Place;LNightValley$Place;)Z"⟩ prog_6_method_3_code 6 (Option.some FieldType.boolean) ∈ GW := gw_2 (List.mem_of_getElem? (i := 164) rfl) rfl
theorem gw_2_165 : Cond.methodLink "NightValley$Place" 30 ⟨"java/lang/Math", "abs", "(I)I"⟩ ∈ GW := gw_2 (List.mem_of_getElem? (i := 165) rfl) rfl
theorem gw_2_166 : Cond.static ⟨"java/lang/Math", "abs", "(I)I"⟩ ∈ GW := gw_2 (List.mem_of_getElem? (i := 166) rfl) rfl
theorem gw_2_167 : Cond.code ⟨"java/lang/Math", "abs", "(I)I"⟩ prog_21_method_59_code 1 (Option.some FieldType.int) ∈ GW := gw_2 (List.mem_of_getElem? (i := 167) rfl) rfl
theorem gw_2_168 : Cond.methodLink "NightValley$Place" 36 ⟨"java/lang/Math", "max", "(II)I"⟩ ∈ GW := gw_2 (List.mem_of_getElem? (i := 168) rfl) rfl
theorem gw_2_169 : Cond.methodLink "NightValley" 367 ⟨"NightValley", "airFactor", "()I"⟩ ∈ GW := gw_2 (List.mem_of_getElem? (i := 169) rfl) rfl
theorem gw_2_171 : Cond.instanceMethod ⟨"NightValley", "airFactor", "()I"⟩ ∈ GW := gw_2 (List.mem_of_getElem? (i := 171) rfl) rfl
theorem gw_2_172 : Cond.code ⟨"NightValley", "airFactor", "()I"⟩ prog_1_method_49_code 1 (Option.some FieldType.int) ∈ GW := gw_2 (List.mem_of_getElem? (i := 172) rfl) rfl
theorem gw_2_173 : Cond.methodLink "NightValleyLaw" 177 ⟨"NightValleyLaw", "part", "([III)I"⟩ ∈ GW := gw_2 (List.mem_of_getElem? (i := 173) rfl) rfl
theorem gw_2_174 : Cond.static ⟨"NightValleyLaw", "part", "([III)I"⟩ ∈ GW := gw_2 (List.mem_of_getElem? (i := 174) rfl) rfl
theorem gw_2_175 : Cond.code ⟨"NightValleyLaw", "part", "([III)I"⟩ method_2_code 4 (Option.some FieldType.int) ∈ GW := gw_2 (List.mem_of_getElem? (i := 175) rfl) rfl
theorem gw_2_176 : Cond.constant "NightValleyLaw" 7 (2147483647 : Int32) ∈ GW := gw_2 (List.mem_of_getElem? (i := 176) rfl) rfl
theorem gw_2_177 : Cond.methodLink "NightValleyLaw" 155 ⟨"NightValleyLaw", "does", "(LNightValley;IIIIII)I"⟩ ∈ GW := gw_2 (List.mem_of_getElem? (i := 177) rfl) rfl
theorem gw_2_178 : Cond.static ⟨"NightValleyLaw", "does", "(LNightValley;IIIIII)I"⟩ ∈ GW := gw_2 (List.mem_of_getElem? (i := 178) rfl) rfl
theorem gw_2_179 : Cond.codeWith ⟨"NightValleyLaw", "does", "(LNightValley;IIIIII)I"⟩ method_3_code 8 (Option.some FieldType.int) [(0, 291, 292, 75), (0, 291, 297, 78), (0, 291, 302, 81)] ∈ GW := gw_2 (List.mem_of_getElem? (i := 179) rfl) rfl
theorem gw_2_180 : Cond.classLink "NightValleyLaw" 75 "java/lang/IndexOutOfBoundsException" ∈ GW := gw_2 (List.mem_of_getElem? (i := 180) rfl) rfl
theorem gw_2_181 : Cond.classLink "NightValleyLaw" 78 "java/lang/IllegalArgumentException" ∈ GW := gw_2 (List.mem_of_getElem? (i := 181) rfl) rfl
theorem gw_2_182 : Cond.classLink "NightValleyLaw" 81 "java/lang/IllegalStateException" ∈ GW := gw_2 (List.mem_of_getElem? (i := 182) rfl) rfl
theorem gw_2_183 : Cond.methodLink "NightValleyLaw" 8 ⟨"NightValley", "zone", "(II)I"⟩ ∈ GW := gw_2 (List.mem_of_getElem? (i := 183) rfl) rfl
theorem gw_2_184 : Cond.instanceMethod ⟨"NightValley", "zone", "(II)I"⟩ ∈ GW := gw_2 (List.mem_of_getElem? (i := 184) rfl) rfl
theorem gw_2_185 : Cond.selects "NightValley" ⟨"NightValley", "zone", "(II)I"⟩ ⟨"NightValley", "zone", "(II)I"⟩ ∈ GW := gw_2 (List.mem_of_getElem? (i := 185) rfl) rfl
theorem gw_2_186 : Cond.code ⟨"NightValley", "zone", "(II)I"⟩ prog_1_method_3_code 6 (Option.some FieldType.int) ∈ GW := gw_2 (List.mem_of_getElem? (i := 186) rfl) rfl
theorem gw_2_187 : Cond.methodLink "NightValley" 74 ⟨"NightValley", "zoneOf", "(I)LNightValley$Zone;"⟩ ∈ GW := gw_2 (List.mem_of_getElem? (i := 187) rfl) rfl
theorem gw_2_189 : Cond.instanceMethod ⟨"NightValley", "zoneOf", "(I)LNightValley$Zone;"⟩ ∈ GW := gw_2 (List.mem_of_getElem? (i := 189) rfl) rfl
theorem gw_2_190 : Cond.code ⟨"NightValley", "zoneOf", "(I)LNightValley$Zone;"⟩ prog_1_method_38_code 2 (Option.some (FieldType.object "NightValley$Zone")) ∈ GW := gw_2 (List.mem_of_getElem? (i := 190) rfl) rfl
theorem gw_2_191 : Cond.methodLink "NightValleyLaw" 14 ⟨"NightValleyLaw", "ruled", "(LNightValley;IIII)I"⟩ ∈ GW := gw_2 (List.mem_of_getElem? (i := 191) rfl) rfl
theorem gw_2_192 : Cond.static ⟨"NightValleyLaw", "ruled", "(LNightValley;IIII)I"⟩ ∈ GW := gw_2 (List.mem_of_getElem? (i := 192) rfl) rfl
theorem gw_2_193 : Cond.code ⟨"NightValleyLaw", "ruled", "(LNightValley;IIII)I"⟩ method_4_code 5 (Option.some FieldType.int) ∈ GW := gw_2 (List.mem_of_getElem? (i := 193) rfl) rfl
theorem gw_2_194 : Cond.methodLink "NightValleyLaw" 84 ⟨"NightValley", "law", "(IIII)V"⟩ ∈ GW := gw_2 (List.mem_of_getElem? (i := 194) rfl) rfl
theorem gw_2_195 : Cond.instanceMethod ⟨"NightValley", "law", "(IIII)V"⟩ ∈ GW := gw_2 (List.mem_of_getElem? (i := 195) rfl) rfl
theorem gw_2_196 : Cond.selects "NightValley" ⟨"NightValley", "law", "(IIII)V"⟩ ⟨"NightValley", "law", "(IIII)V"⟩ ∈ GW := gw_2 (List.mem_of_getElem? (i := 196) rfl) rfl
theorem gw_2_197 : Cond.code ⟨"NightValley", "law", "(IIII)V"⟩ prog_1_method_4_code 6 (Option.none : Option FieldType) ∈ GW := gw_2 (List.mem_of_getElem? (i := 197) rfl) rfl
theorem gw_2_198 : Cond.methodLink "NightValley" 86 ⟨"NightValley", "needRange", "(III)V"⟩ ∈ GW := gw_2 (List.mem_of_getElem? (i := 198) rfl) rfl
theorem gw_2_199 : Cond.static ⟨"NightValley", "needRange", "(III)V"⟩ ∈ GW := gw_2 (List.mem_of_getElem? (i := 199) rfl) rfl
theorem gw_2_200 : Cond.code ⟨"NightValley", "needRange", "(III)V"⟩ prog_1_method_35_code 3 (Option.none : Option FieldType) ∈ GW := gw_2 (List.mem_of_getElem? (i := 200) rfl) rfl
theorem gw_2_201 : Cond.classLink "NightValley" 342 "java/lang/IllegalArgumentException" ∈ GW := gw_2 (List.mem_of_getElem? (i := 201) rfl) rfl
theorem gw_2_202 : Cond.instantiable "java/lang/IllegalArgumentException" 6 ∈ GW := gw_2 (List.mem_of_getElem? (i := 202) rfl) rfl
theorem gw_2_204 : Cond.selects "java/lang/IllegalArgumentException" ⟨"java/lang/Throwable", "fillInStackTrace", "(I)Ljava/lang/Throwable;"⟩ ⟨"java/lang/Throwable", "fillInStackTrace", "(I)Ljava/lang/Throwable;"⟩ ∈ GW := gw_2 (List.mem_of_getElem? (i := 204) rfl) rfl
theorem gw_2_205 : Cond.lays "java/lang/IllegalArgumentException" "java/lang/Throwable" "cause" "Ljava/lang/Throwable;" ∈ GW := gw_2 (List.mem_of_getElem? (i := 205) rfl) rfl
theorem gw_2_206 : Cond.lays "java/lang/IllegalArgumentException" "java/lang/Throwable" "stackTrace" "[Ljava/lang/StackTraceElement;" ∈ GW := gw_2 (List.mem_of_getElem? (i := 206) rfl) rfl
theorem gw_2_207 : Cond.lays "java/lang/IllegalArgumentException" "java/lang/Throwable" "suppressedExceptions" "Ljava/util/List;" ∈ GW := gw_2 (List.mem_of_getElem? (i := 207) rfl) rfl
theorem gw_2_208 : Cond.lays "java/lang/IllegalArgumentException" "java/lang/Throwable" "detailMessage" "Ljava/lang/String;" ∈ GW := gw_2 (List.mem_of_getElem? (i := 208) rfl) rfl
theorem gw_2_209 : Cond.lays "java/lang/IllegalArgumentException" "java/lang/Throwable" "backtrace" "Ljava/lang/Object;" ∈ GW := gw_2 (List.mem_of_getElem? (i := 209) rfl) rfl
theorem gw_2_210 : Cond.methodLink "NightValley" 344 ⟨"java/lang/IllegalArgumentException", "<init>", "()V"⟩ ∈ GW := gw_2 (List.mem_of_getElem? (i := 210) rfl) rfl
theorem gw_2_211 : Cond.instanceMethod ⟨"java/lang/IllegalArgumentException", "<init>", "()V"⟩ ∈ GW := gw_2 (List.mem_of_getElem? (i := 211) rfl) rfl
theorem gw_2_212 : Cond.code ⟨"java/lang/IllegalArgumentException", "<init>", "()V"⟩ prog_17_method_1_code 1 (Option.none : Option FieldType) ∈ GW := gw_2 (List.mem_of_getElem? (i := 212) rfl) rfl
theorem gw_2_213 : Cond.methodLink "java/lang/IllegalArgumentException" 1 ⟨"java/lang/RuntimeException", "<init>", "()V"⟩ ∈ GW := gw_2 (List.mem_of_getElem? (i := 213) rfl) rfl
theorem gw_2_214 : Cond.lays "java/lang/IllegalArgumentException" "java/lang/Throwable" "depth" "I" ∈ GW := gw_2 (List.mem_of_getElem? (i := 214) rfl) rfl
theorem gw_2_215 : Cond.superclass "java/lang/IllegalArgumentException" "java/lang/RuntimeException" ∈ GW := gw_2 (List.mem_of_getElem? (i := 215) rfl) rfl
theorem gw_2_216 : Cond.methodLink "NightValleyLaw" 20 ⟨"NightValley", "feast", "(II)I"⟩ ∈ GW := gw_2 (List.mem_of_getElem? (i := 216) rfl) rfl
theorem gw_2_217 : Cond.instanceMethod ⟨"NightValley", "feast", "(II)I"⟩ ∈ GW := gw_2 (List.mem_of_getElem? (i := 217) rfl) rfl
theorem gw_2_218 : Cond.selects "NightValley" ⟨"NightValley", "feast", "(II)I"⟩ ⟨"NightValley", "feast", "(II)I"⟩ ∈ GW := gw_2 (List.mem_of_getElem? (i := 218) rfl) rfl
theorem gw_2_219 : Cond.code ⟨"NightValley", "feast", "(II)I"⟩ prog_1_method_5_code 4 (Option.some FieldType.int) ∈ GW := gw_2 (List.mem_of_getElem? (i := 219) rfl) rfl
theorem gw_2_220 : Cond.methodLink "NightValley" 99 ⟨"NightValley$Zone", "celebrate", "(I)V"⟩ ∈ GW := gw_2 (List.mem_of_getElem? (i := 220) rfl) rfl
theorem gw_2_221 : Cond.instanceMethod ⟨"NightValley$Zone", "celebrate", "(I)V"⟩ ∈ GW := gw_2 (List.mem_of_getElem? (i := 221) rfl) rfl
theorem gw_2_222 : Cond.selects "NightValley$Zone" ⟨"NightValley$Zone", "celebrate", "(I)V"⟩ ⟨"NightValley$Zone", "celebrate", "(I)V"⟩ ∈ GW := gw_2 (List.mem_of_getElem? (i := 222) rfl) rfl
theorem gw_2_223 : Cond.code ⟨"NightValley$Zone", "celebrate", "(I)V"⟩ prog_11_method_2_code 2 (Option.none : Option FieldType) ∈ GW := gw_2 (List.mem_of_getElem? (i := 223) rfl) rfl
theorem gw_2_224 : Cond.methodLink "NightValleyLaw" 23 ⟨"NightValley", "air", "(I)I"⟩ ∈ GW := gw_2 (List.mem_of_getElem? (i := 224) rfl) rfl
theorem gw_2_225 : Cond.instanceMethod ⟨"NightValley", "air", "(I)I"⟩ ∈ GW := gw_2 (List.mem_of_getElem? (i := 225) rfl) rfl
theorem gw_2_226 : Cond.selects "NightValley" ⟨"NightValley", "air", "(I)I"⟩ ⟨"NightValley", "air", "(I)I"⟩ ∈ GW := gw_2 (List.mem_of_getElem? (i := 226) rfl) rfl
theorem gw_2_227 : Cond.code ⟨"NightValley", "air", "(I)I"⟩ prog_1_method_6_code 3 (Option.some FieldType.int) ∈ GW := gw_2 (List.mem_of_getElem? (i := 227) rfl) rfl
theorem gw_2_228 : Cond.methodLink "NightValleyLaw" 27 ⟨"NightValley", "pass", "(I)I"⟩ ∈ GW := gw_2 (List.mem_of_getElem? (i := 228) rfl) rfl
theorem gw_2_229 : Cond.instanceMethod ⟨"NightValley", "pass", "(I)I"⟩ ∈ GW := gw_2 (List.mem_of_getElem? (i := 229) rfl) rfl
theorem gw_2_230 : Cond.selects "NightValley" ⟨"NightValley", "pass", "(I)I"⟩ ⟨"NightValley", "pass", "(I)I"⟩ ∈ GW := gw_2 (List.mem_of_getElem? (i := 230) rfl) rfl
theorem gw_2_231 : Cond.code ⟨"NightValley", "pass", "(I)I"⟩ prog_1_method_7_code 3 (Option.some FieldType.int) ∈ GW := gw_2 (List.mem_of_getElem? (i := 231) rfl) rfl
theorem gw_2_232 : Cond.methodLink "NightValley" 111 ⟨"NightValley", "needState", "(Z)V"⟩ ∈ GW := gw_2 (List.mem_of_getElem? (i := 232) rfl) rfl
theorem gw_2_233 : Cond.static ⟨"NightValley", "needState", "(Z)V"⟩ ∈ GW := gw_2 (List.mem_of_getElem? (i := 233) rfl) rfl
theorem gw_2_234 : Cond.code ⟨"NightValley", "needState", "(Z)V"⟩ prog_1_method_36_code 1 (Option.none : Option FieldType) ∈ GW := gw_2 (List.mem_of_getElem? (i := 234) rfl) rfl
theorem gw_2_235 : Cond.classLink "NightValley" 345 "java/lang/IllegalStateException" ∈ GW := gw_2 (List.mem_of_getElem? (i := 235) rfl) rfl
theorem gw_2_236 : Cond.instantiable "java/lang/IllegalStateException" 6 ∈ GW := gw_2 (List.mem_of_getElem? (i := 236) rfl) rfl
theorem gw_2_238 : Cond.selects "java/lang/IllegalStateException" ⟨"java/lang/Throwable", "fillInStackTrace", "(I)Ljava/lang/Throwable;"⟩ ⟨"java/lang/Throwable", "fillInStackTrace", "(I)Ljava/lang/Throwable;"⟩ ∈ GW := gw_2 (List.mem_of_getElem? (i := 238) rfl) rfl
theorem gw_2_239 : Cond.lays "java/lang/IllegalStateException" "java/lang/Throwable" "cause" "Ljava/lang/Throwable;" ∈ GW := gw_2 (List.mem_of_getElem? (i := 239) rfl) rfl
theorem gw_3_0 : Cond.lays "java/lang/IllegalStateException" "java/lang/Throwable" "stackTrace" "[Ljava/lang/StackTraceElement;" ∈ GW := gw_3 (List.mem_of_getElem? (i := 0) rfl) rfl
theorem gw_3_1 : Cond.lays "java/lang/IllegalStateException" "java/lang/Throwable" "suppressedExceptions" "Ljava/util/List;" ∈ GW := gw_3 (List.mem_of_getElem? (i := 1) rfl) rfl
theorem gw_3_2 : Cond.lays "java/lang/IllegalStateException" "java/lang/Throwable" "detailMessage" "Ljava/lang/String;" ∈ GW := gw_3 (List.mem_of_getElem? (i := 2) rfl) rfl
theorem gw_3_3 : Cond.lays "java/lang/IllegalStateException" "java/lang/Throwable" "backtrace" "Ljava/lang/Object;" ∈ GW := gw_3 (List.mem_of_getElem? (i := 3) rfl) rfl
theorem gw_3_4 : Cond.methodLink "NightValley" 347 ⟨"java/lang/IllegalStateException", "<init>", "()V"⟩ ∈ GW := gw_3 (List.mem_of_getElem? (i := 4) rfl) rfl
theorem gw_3_5 : Cond.instanceMethod ⟨"java/lang/IllegalStateException", "<init>", "()V"⟩ ∈ GW := gw_3 (List.mem_of_getElem? (i := 5) rfl) rfl
theorem gw_3_6 : Cond.code ⟨"java/lang/IllegalStateException", "<init>", "()V"⟩ prog_18_method_1_code 1 (Option.none : Option FieldType) ∈ GW := gw_3 (List.mem_of_getElem? (i := 6) rfl) rfl
theorem gw_3_7 : Cond.methodLink "java/lang/IllegalStateException" 1 ⟨"java/lang/RuntimeException", "<init>", "()V"⟩ ∈ GW := gw_3 (List.mem_of_getElem? (i := 7) rfl) rfl
theorem gw_3_8 : Cond.lays "java/lang/IllegalStateException" "java/lang/Throwable" "depth" "I" ∈ GW := gw_3 (List.mem_of_getElem? (i := 8) rfl) rfl
theorem gw_3_9 : Cond.superclass "java/lang/IllegalStateException" "java/lang/RuntimeException" ∈ GW := gw_3 (List.mem_of_getElem? (i := 9) rfl) rfl
theorem gw_3_10 : Cond.methodLink "NightValley" 115 ⟨"NightValley", "ageLamps", "()V"⟩ ∈ GW := gw_3 (List.mem_of_getElem? (i := 10) rfl) rfl
theorem gw_3_12 : Cond.instanceMethod ⟨"NightValley", "ageLamps", "()V"⟩ ∈ GW := gw_3 (List.mem_of_getElem? (i := 12) rfl) rfl
theorem gw_3_13 : Cond.code ⟨"NightValley", "ageLamps", "()V"⟩ prog_1_method_45_code 3 (Option.none : Option FieldType) ∈ GW := gw_3 (List.mem_of_getElem? (i := 13) rfl) rfl
theorem gw_3_14 : Cond.methodLink "NightValleyLaw" 30 ⟨"NightValley", "village", "(II)I"⟩ ∈ GW := gw_3 (List.mem_of_getElem? (i := 14) rfl) rfl
theorem gw_3_15 : Cond.instanceMethod ⟨"NightValley", "village", "(II)I"⟩ ∈ GW := gw_3 (List.mem_of_getElem? (i := 15) rfl) rfl
theorem gw_3_16 : Cond.selects "NightValley" ⟨"NightValley", "village", "(II)I"⟩ ⟨"NightValley", "village", "(II)I"⟩ ∈ GW := gw_3 (List.mem_of_getElem? (i := 16) rfl) rfl
theorem gw_3_17 : Cond.code ⟨"NightValley", "village", "(II)I"⟩ prog_1_method_8_code 3 (Option.some FieldType.int) ∈ GW := gw_3 (List.mem_of_getElem? (i := 17) rfl) rfl
theorem gw_3_18 : Cond.classLink "NightValley" 122 "NightValley$Village" ∈ GW := gw_3 (List.mem_of_getElem? (i := 18) rfl) rfl
theorem gw_3_19 : Cond.instantiable "NightValley$Village" 5 ∈ GW := gw_3 (List.mem_of_getElem? (i := 19) rfl) rfl
theorem gw_3_20 : Cond.methodLink "NightValley" 124 ⟨"NightValley$Village", "<init>", "(II)V"⟩ ∈ GW := gw_3 (List.mem_of_getElem? (i := 20) rfl) rfl
theorem gw_3_21 : Cond.instanceMethod ⟨"NightValley$Village", "<init>", "(II)V"⟩ ∈ GW := gw_3 (List.mem_of_getElem? (i := 21) rfl) rfl
theorem gw_3_22 : Cond.code ⟨"NightValley$Village", "<init>", "(II)V"⟩ prog_9_method_1_code 3 (Option.none : Option FieldType) ∈ GW := gw_3 (List.mem_of_getElem? (i := 22) rfl) rfl
theorem gw_3_23 : Cond.methodLink "NightValley$Village" 3 ⟨"java/lang/Object", "<init>", "()V"⟩ ∈ GW := gw_3 (List.mem_of_getElem? (i := 23) rfl) rfl
theorem gw_3_24 : Cond.fieldLink "NightValley$Village" 9 "NightValley$Village" "households" "I" ∈ GW := gw_3 (List.mem_of_getElem? (i := 24) rfl) rfl
theorem gw_3_25 : Cond.fieldLink "NightValley" 175 "NightValley$Village" "households" "I" ∈ GW := gw_3 (List.mem_of_getElem? (i := 25) rfl) rfl
theorem gw_3_26 : Cond.fieldLink "NightValley$Village" 15 "NightValley$Village" "coins" "I" ∈ GW := gw_3 (List.mem_of_getElem? (i := 26) rfl) rfl
theorem gw_3_27 : Cond.fieldLink "NightValley" 185 "NightValley$Village" "coins" "I" ∈ GW := gw_3 (List.mem_of_getElem? (i := 27) rfl) rfl
theorem gw_3_28 : Cond.fieldLink "NightValley$Village" 18 "NightValley$Village" "fined" "I" ∈ GW := gw_3 (List.mem_of_getElem? (i := 28) rfl) rfl
theorem gw_3_29 : Cond.fieldLink "NightValley" 267 "NightValley$Village" "fined" "I" ∈ GW := gw_3 (List.mem_of_getElem? (i := 29) rfl) rfl
theorem gw_3_30 : Cond.fieldLink "NightValley" 131 "NightValley$Village" "lampCount" "I" ∈ GW := gw_3 (List.mem_of_getElem? (i := 30) rfl) rfl
theorem gw_3_31 : Cond.fieldLink "NightValley" 156 "NightValley$Village" "outageEnd" "I" ∈ GW := gw_3 (List.mem_of_getElem? (i := 31) rfl) rfl
theorem gw_3_32 : Cond.laysFinal "NightValley$Village" "NightValley$Village" "households" "I" ∈ GW := gw_3 (List.mem_of_getElem? (i := 32) rfl) rfl
theorem gw_3_33 : Cond.soleField "NightValley$Village" "households" ∈ GW := gw_3 (List.mem_of_getElem? (i := 33) rfl) rfl
theorem gw_3_34 : Cond.lays "NightValley$Village" "NightValley$Village" "coins" "I" ∈ GW := gw_3 (List.mem_of_getElem? (i := 34) rfl) rfl
theorem gw_3_35 : Cond.soleField "NightValley$Village" "coins" ∈ GW := gw_3 (List.mem_of_getElem? (i := 35) rfl) rfl
theorem gw_3_36 : Cond.lays "NightValley$Village" "NightValley$Village" "fined" "I" ∈ GW := gw_3 (List.mem_of_getElem? (i := 36) rfl) rfl
theorem gw_3_37 : Cond.soleField "NightValley$Village" "fined" ∈ GW := gw_3 (List.mem_of_getElem? (i := 37) rfl) rfl
theorem gw_3_38 : Cond.lays "NightValley$Village" "NightValley$Village" "lampCount" "I" ∈ GW := gw_3 (List.mem_of_getElem? (i := 38) rfl) rfl
theorem gw_3_39 : Cond.soleField "NightValley$Village" "lampCount" ∈ GW := gw_3 (List.mem_of_getElem? (i := 39) rfl) rfl
theorem gw_3_40 : Cond.lays "NightValley$Village" "NightValley$Village" "outageEnd" "I" ∈ GW := gw_3 (List.mem_of_getElem? (i := 40) rfl) rfl
theorem gw_3_41 : Cond.soleField "NightValley$Village" "outageEnd" ∈ GW := gw_3 (List.mem_of_getElem? (i := 41) rfl) rfl
theorem gw_3_42 : Cond.superclass "NightValley$Village" "java/lang/Object" ∈ GW := gw_3 (List.mem_of_getElem? (i := 42) rfl) rfl
theorem gw_3_43 : Cond.methodLink "NightValleyLaw" 33 ⟨"NightValley", "lamp", "(IIIII)I"⟩ ∈ GW := gw_3 (List.mem_of_getElem? (i := 43) rfl) rfl
theorem gw_3_44 : Cond.instanceMethod ⟨"NightValley", "lamp", "(IIIII)I"⟩ ∈ GW := gw_3 (List.mem_of_getElem? (i := 44) rfl) rfl
theorem gw_3_45 : Cond.selects "NightValley" ⟨"NightValley", "lamp", "(IIIII)I"⟩ ⟨"NightValley", "lamp", "(IIIII)I"⟩ ∈ GW := gw_3 (List.mem_of_getElem? (i := 45) rfl) rfl
theorem gw_3_46 : Cond.code ⟨"NightValley", "lamp", "(IIIII)I"⟩ prog_1_method_9_code 8 (Option.some FieldType.int) ∈ GW := gw_3 (List.mem_of_getElem? (i := 46) rfl) rfl
theorem gw_3_47 : Cond.methodLink "NightValley" 127 ⟨"NightValley", "villageOf", "(I)LNightValley$Village;"⟩ ∈ GW := gw_3 (List.mem_of_getElem? (i := 47) rfl) rfl
theorem gw_3_49 : Cond.instanceMethod ⟨"NightValley", "villageOf", "(I)LNightValley$Village;"⟩ ∈ GW := gw_3 (List.mem_of_getElem? (i := 49) rfl) rfl
theorem gw_3_50 : Cond.code ⟨"NightValley", "villageOf", "(I)LNightValley$Village;"⟩ prog_1_method_39_code 2 (Option.some (FieldType.object "NightValley$Village")) ∈ GW := gw_3 (List.mem_of_getElem? (i := 50) rfl) rfl
theorem gw_3_51 : Cond.instantiable "NightValley$Lamp" 12 ∈ GW := gw_3 (List.mem_of_getElem? (i := 51) rfl) rfl
theorem gw_3_52 : Cond.methodLink "NightValley" 136 ⟨"NightValley$Lamp", "<init>", "(LNightValley$Village;LNightValley$Place;III)V"⟩ ∈ GW := gw_3 (List.mem_of_getElem? (i := 52) rfl) rfl
theorem gw_3_53 : Cond.instanceMethod ⟨"NightValley$Lamp", "<init>", "(LNightValley$Village;LNightValley$Place;III)V"⟩ ∈ GW := gw_3 (List.mem_of_getElem? (i := 53) rfl) rfl
theorem gw_3_54 : Cond.code ⟨"NightValley$Lamp", "<init>", "(LNightValley$Village;LNightValley$Place;III)V"⟩ prog_4_method_1_code 6 (Option.none : Option FieldType) ∈ GW := gw_3 (List.mem_of_getElem? (i := 54) rfl) rfl
theorem gw_3_55 : Cond.methodLink "NightValley$Lamp" 3 ⟨"java/lang/Object", "<init>", "()V"⟩ ∈ GW := gw_3 (List.mem_of_getElem? (i := 55) rfl) rfl
theorem gw_3_56 : Cond.fieldLink "NightValley$Lamp" 18 "NightValley$Lamp" "village" "LNightValley$Village;" ∈ GW := gw_3 (List.mem_of_getElem? (i := 56) rfl) rfl
theorem gw_3_57 : Cond.fieldLink "NightValley" 165 "NightValley$Lamp" "village" "LNightValley$Village;" ∈ GW := gw_3 (List.mem_of_getElem? (i := 57) rfl) rfl
theorem gw_3_58 : Cond.fieldLink "NightValley$Lamp" 22 "NightValley$Lamp" "place" "LNightValley$Place;" ∈ GW := gw_3 (List.mem_of_getElem? (i := 58) rfl) rfl
theorem gw_3_59 : Cond.fieldLink "NightValley" 195 "NightValley$Lamp" "place" "LNightValley$Place;" ∈ GW := gw_3 (List.mem_of_getElem? (i := 59) rfl) rfl
theorem gw_3_60 : Cond.fieldLink "NightValley$Lamp" 26 "NightValley$Lamp" "flux" "I" ∈ GW := gw_3 (List.mem_of_getElem? (i := 60) rfl) rfl
theorem gw_3_61 : Cond.fieldLink "NightValley$Lamp" 29 "NightValley$Lamp" "colour" "I" ∈ GW := gw_3 (List.mem_of_getElem? (i := 61) rfl) rfl
theorem gw_3_62 : Cond.fieldLink "NightValley$Lamp" 32 "NightValley$Lamp" "shield" "I" ∈ GW := gw_3 (List.mem_of_getElem? (i := 62) rfl) rfl
theorem gw_3_63 : Cond.fieldLink "NightValley" 169 "NightValley$Lamp" "shield" "I" ∈ GW := gw_3 (List.mem_of_getElem? (i := 63) rfl) rfl
theorem gw_3_64 : Cond.fieldLink "NightValley$Lamp" 44 "NightValley$Lamp" "dim" "I" ∈ GW := gw_3 (List.mem_of_getElem? (i := 64) rfl) rfl
theorem gw_3_65 : Cond.fieldLink "NightValley" 172 "NightValley$Lamp" "dim" "I" ∈ GW := gw_3 (List.mem_of_getElem? (i := 65) rfl) rfl
theorem gw_3_66 : Cond.fieldLink "NightValley$Lamp" 9 "NightValley$Lamp" "from" "I" ∈ GW := gw_3 (List.mem_of_getElem? (i := 66) rfl) rfl
theorem gw_3_67 : Cond.fieldLink "NightValley" 147 "NightValley$Lamp" "from" "I" ∈ GW := gw_3 (List.mem_of_getElem? (i := 67) rfl) rfl
theorem gw_3_68 : Cond.fieldLink "NightValley$Lamp" 15 "NightValley$Lamp" "to" "I" ∈ GW := gw_3 (List.mem_of_getElem? (i := 68) rfl) rfl
theorem gw_3_69 : Cond.fieldLink "NightValley" 150 "NightValley$Lamp" "to" "I" ∈ GW := gw_3 (List.mem_of_getElem? (i := 69) rfl) rfl
theorem gw_3_70 : Cond.fieldLink "NightValley$Lamp" 51 "NightValley$Lamp" "exempt" "Z" ∈ GW := gw_3 (List.mem_of_getElem? (i := 70) rfl) rfl
theorem gw_3_71 : Cond.fieldLink "NightValley" 153 "NightValley$Lamp" "exempt" "Z" ∈ GW := gw_3 (List.mem_of_getElem? (i := 71) rfl) rfl
theorem gw_3_72 : Cond.fieldLink "NightValley$Lamp" 35 "NightValley$Lamp" "age" "I" ∈ GW := gw_3 (List.mem_of_getElem? (i := 72) rfl) rfl
theorem gw_3_73 : Cond.fieldLink "NightValley" 260 "NightValley$Lamp" "age" "I" ∈ GW := gw_3 (List.mem_of_getElem? (i := 73) rfl) rfl
theorem gw_3_74 : Cond.fieldLink "NightValley$Lamp" 69 "NightValley$Lamp" "boundEnd" "I" ∈ GW := gw_3 (List.mem_of_getElem? (i := 74) rfl) rfl
theorem gw_3_75 : Cond.fieldLink "NightValley" 203 "NightValley$Lamp" "nextFine" "I" ∈ GW := gw_3 (List.mem_of_getElem? (i := 75) rfl) rfl
theorem gw_3_76 : Cond.laysFinal "NightValley$Lamp" "NightValley$Lamp" "village" "LNightValley$Village;" ∈ GW := gw_3 (List.mem_of_getElem? (i := 76) rfl) rfl
theorem gw_3_77 : Cond.soleField "NightValley$Lamp" "village" ∈ GW := gw_3 (List.mem_of_getElem? (i := 77) rfl) rfl
theorem gw_3_78 : Cond.laysFinal "NightValley$Lamp" "NightValley$Lamp" "place" "LNightValley$Place;" ∈ GW := gw_3 (List.mem_of_getElem? (i := 78) rfl) rfl
theorem gw_3_79 : Cond.soleField "NightValley$Lamp" "place" ∈ GW := gw_3 (List.mem_of_getElem? (i := 79) rfl) rfl
theorem gw_3_80 : Cond.laysFinal "NightValley$Lamp" "NightValley$Lamp" "flux" "I" ∈ GW := gw_3 (List.mem_of_getElem? (i := 80) rfl) rfl
theorem gw_3_81 : Cond.soleField "NightValley$Lamp" "flux" ∈ GW := gw_3 (List.mem_of_getElem? (i := 81) rfl) rfl
theorem gw_3_82 : Cond.laysFinal "NightValley$Lamp" "NightValley$Lamp" "colour" "I" ∈ GW := gw_3 (List.mem_of_getElem? (i := 82) rfl) rfl
theorem gw_3_83 : Cond.soleField "NightValley$Lamp" "colour" ∈ GW := gw_3 (List.mem_of_getElem? (i := 83) rfl) rfl
theorem gw_3_84 : Cond.lays "NightValley$Lamp" "NightValley$Lamp" "shield" "I" ∈ GW := gw_3 (List.mem_of_getElem? (i := 84) rfl) rfl
theorem gw_3_85 : Cond.soleField "NightValley$Lamp" "shield" ∈ GW := gw_3 (List.mem_of_getElem? (i := 85) rfl) rfl
theorem gw_3_86 : Cond.lays "NightValley$Lamp" "NightValley$Lamp" "dim" "I" ∈ GW := gw_3 (List.mem_of_getElem? (i := 86) rfl) rfl
theorem gw_3_87 : Cond.soleField "NightValley$Lamp" "dim" ∈ GW := gw_3 (List.mem_of_getElem? (i := 87) rfl) rfl
theorem gw_3_88 : Cond.lays "NightValley$Lamp" "NightValley$Lamp" "from" "I" ∈ GW := gw_3 (List.mem_of_getElem? (i := 88) rfl) rfl
theorem gw_3_89 : Cond.soleField "NightValley$Lamp" "from" ∈ GW := gw_3 (List.mem_of_getElem? (i := 89) rfl) rfl
theorem gw_3_90 : Cond.lays "NightValley$Lamp" "NightValley$Lamp" "to" "I" ∈ GW := gw_3 (List.mem_of_getElem? (i := 90) rfl) rfl
theorem gw_3_91 : Cond.soleField "NightValley$Lamp" "to" ∈ GW := gw_3 (List.mem_of_getElem? (i := 91) rfl) rfl
theorem gw_3_92 : Cond.lays "NightValley$Lamp" "NightValley$Lamp" "exempt" "Z" ∈ GW := gw_3 (List.mem_of_getElem? (i := 92) rfl) rfl
theorem gw_3_93 : Cond.soleField "NightValley$Lamp" "exempt" ∈ GW := gw_3 (List.mem_of_getElem? (i := 93) rfl) rfl
theorem gw_3_94 : Cond.lays "NightValley$Lamp" "NightValley$Lamp" "age" "I" ∈ GW := gw_3 (List.mem_of_getElem? (i := 94) rfl) rfl
theorem gw_3_95 : Cond.soleField "NightValley$Lamp" "age" ∈ GW := gw_3 (List.mem_of_getElem? (i := 95) rfl) rfl
theorem gw_3_96 : Cond.lays "NightValley$Lamp" "NightValley$Lamp" "boundEnd" "I" ∈ GW := gw_3 (List.mem_of_getElem? (i := 96) rfl) rfl
theorem gw_3_97 : Cond.soleField "NightValley$Lamp" "boundEnd" ∈ GW := gw_3 (List.mem_of_getElem? (i := 97) rfl) rfl
theorem gw_3_98 : Cond.lays "NightValley$Lamp" "NightValley$Lamp" "nextFine" "I" ∈ GW := gw_3 (List.mem_of_getElem? (i := 98) rfl) rfl
theorem gw_3_99 : Cond.soleField "NightValley$Lamp" "nextFine" ∈ GW := gw_3 (List.mem_of_getElem? (i := 99) rfl) rfl
theorem gw_3_100 : Cond.superclass "NightValley$Lamp" "java/lang/Object" ∈ GW := gw_3 (List.mem_of_getElem? (i := 100) rfl) rfl
theorem gw_3_101 : Cond.methodLink "NightValleyLaw" 37 ⟨"NightValleyLaw", "timed", "(LNightValley;III)I"⟩ ∈ GW := gw_3 (List.mem_of_getElem? (i := 101) rfl) rfl
theorem gw_3_102 : Cond.static ⟨"NightValleyLaw", "timed", "(LNightValley;III)I"⟩ ∈ GW := gw_3 (List.mem_of_getElem? (i := 102) rfl) rfl
theorem gw_3_103 : Cond.code ⟨"NightValleyLaw", "timed", "(LNightValley;III)I"⟩ method_5_code 4 (Option.some FieldType.int) ∈ GW := gw_3 (List.mem_of_getElem? (i := 103) rfl) rfl
theorem gw_3_104 : Cond.methodLink "NightValleyLaw" 88 ⟨"NightValley", "hours", "(III)V"⟩ ∈ GW := gw_3 (List.mem_of_getElem? (i := 104) rfl) rfl
theorem gw_3_105 : Cond.instanceMethod ⟨"NightValley", "hours", "(III)V"⟩ ∈ GW := gw_3 (List.mem_of_getElem? (i := 105) rfl) rfl
theorem gw_3_106 : Cond.selects "NightValley" ⟨"NightValley", "hours", "(III)V"⟩ ⟨"NightValley", "hours", "(III)V"⟩ ∈ GW := gw_3 (List.mem_of_getElem? (i := 106) rfl) rfl
theorem gw_3_107 : Cond.code ⟨"NightValley", "hours", "(III)V"⟩ prog_1_method_10_code 5 (Option.none : Option FieldType) ∈ GW := gw_3 (List.mem_of_getElem? (i := 107) rfl) rfl
theorem gw_3_108 : Cond.methodLink "NightValley" 139 ⟨"NightValley", "lampOf", "(I)LNightValley$Lamp;"⟩ ∈ GW := gw_3 (List.mem_of_getElem? (i := 108) rfl) rfl
theorem gw_3_110 : Cond.instanceMethod ⟨"NightValley", "lampOf", "(I)LNightValley$Lamp;"⟩ ∈ GW := gw_3 (List.mem_of_getElem? (i := 110) rfl) rfl
theorem gw_3_111 : Cond.code ⟨"NightValley", "lampOf", "(I)LNightValley$Lamp;"⟩ prog_1_method_40_code 2 (Option.some (FieldType.object "NightValley$Lamp")) ∈ GW := gw_3 (List.mem_of_getElem? (i := 111) rfl) rfl
theorem gw_3_112 : Cond.methodLink "NightValley" 143 ⟨"NightValley$Lamp", "boundHours", "(I)I"⟩ ∈ GW := gw_3 (List.mem_of_getElem? (i := 112) rfl) rfl
theorem gw_3_113 : Cond.instanceMethod ⟨"NightValley$Lamp", "boundHours", "(I)I"⟩ ∈ GW := gw_3 (List.mem_of_getElem? (i := 113) rfl) rfl
theorem gw_3_114 : Cond.selects "NightValley$Lamp" ⟨"NightValley$Lamp", "boundHours", "(I)I"⟩ ⟨"NightValley$Lamp", "boundHours", "(I)I"⟩ ∈ GW := gw_3 (List.mem_of_getElem? (i := 114) rfl) rfl
theorem gw_3_115 : Cond.code ⟨"NightValley$Lamp", "boundHours", "(I)I"⟩ prog_4_method_6_code 2 (Option.some FieldType.int) ∈ GW := gw_3 (List.mem_of_getElem? (i := 115) rfl) rfl
theorem gw_3_116 : Cond.methodLink "NightValley$Lamp" 72 ⟨"java/lang/Math", "max", "(II)I"⟩ ∈ GW := gw_3 (List.mem_of_getElem? (i := 116) rfl) rfl
theorem gw_3_117 : Cond.methodLink "NightValleyLaw" 41 ⟨"NightValley", "outage", "(II)I"⟩ ∈ GW := gw_3 (List.mem_of_getElem? (i := 117) rfl) rfl
theorem gw_3_118 : Cond.instanceMethod ⟨"NightValley", "outage", "(II)I"⟩ ∈ GW := gw_3 (List.mem_of_getElem? (i := 118) rfl) rfl
theorem gw_3_119 : Cond.selects "NightValley" ⟨"NightValley", "outage", "(II)I"⟩ ⟨"NightValley", "outage", "(II)I"⟩ ∈ GW := gw_3 (List.mem_of_getElem? (i := 119) rfl) rfl
theorem gw_3_120 : Cond.code ⟨"NightValley", "outage", "(II)I"⟩ prog_1_method_12_code 5 (Option.some FieldType.int) ∈ GW := gw_3 (List.mem_of_getElem? (i := 120) rfl) rfl
theorem gw_3_121 : Cond.methodLink "NightValleyLaw" 44 ⟨"NightValley", "vote", "(IIIII)I"⟩ ∈ GW := gw_3 (List.mem_of_getElem? (i := 121) rfl) rfl
theorem gw_3_122 : Cond.instanceMethod ⟨"NightValley", "vote", "(IIIII)I"⟩ ∈ GW := gw_3 (List.mem_of_getElem? (i := 122) rfl) rfl
theorem gw_3_123 : Cond.selects "NightValley" ⟨"NightValley", "vote", "(IIIII)I"⟩ ⟨"NightValley", "vote", "(IIIII)I"⟩ ∈ GW := gw_3 (List.mem_of_getElem? (i := 123) rfl) rfl
theorem gw_3_124 : Cond.code ⟨"NightValley", "vote", "(IIIII)I"⟩ prog_1_method_13_code 10 (Option.some FieldType.int) ∈ GW := gw_3 (List.mem_of_getElem? (i := 124) rfl) rfl
theorem gw_3_125 : Cond.methodLink "NightValley" 178 ⟨"NightValley$Lamp", "refitCost", "(II)I"⟩ ∈ GW := gw_3 (List.mem_of_getElem? (i := 125) rfl) rfl
theorem gw_3_126 : Cond.instanceMethod ⟨"NightValley$Lamp", "refitCost", "(II)I"⟩ ∈ GW := gw_3 (List.mem_of_getElem? (i := 126) rfl) rfl
theorem gw_3_127 : Cond.selects "NightValley$Lamp" ⟨"NightValley$Lamp", "refitCost", "(II)I"⟩ ⟨"NightValley$Lamp", "refitCost", "(II)I"⟩ ∈ GW := gw_3 (List.mem_of_getElem? (i := 127) rfl) rfl
theorem gw_3_128 : Cond.code ⟨"NightValley$Lamp", "refitCost", "(II)I"⟩ prog_4_method_7_code 3 (Option.some FieldType.int) ∈ GW := gw_3 (List.mem_of_getElem? (i := 128) rfl) rfl
theorem gw_3_129 : Cond.methodLink "NightValley" 181 ⟨"NightValley$Village", "agrees", "(II)Z"⟩ ∈ GW := gw_3 (List.mem_of_getElem? (i := 129) rfl) rfl
theorem gw_3_130 : Cond.instanceMethod ⟨"NightValley$Village", "agrees", "(II)Z"⟩ ∈ GW := gw_3 (List.mem_of_getElem? (i := 130) rfl) rfl
theorem gw_3_131 : Cond.selects "NightValley$Village" ⟨"NightValley$Village", "agrees", "(II)Z"⟩ ⟨"NightValley$Village", "agrees", "(II)Z"⟩ ∈ GW := gw_3 (List.mem_of_getElem? (i := 131) rfl) rfl
theorem gw_3_132 : Cond.code ⟨"NightValley$Village", "agrees", "(II)Z"⟩ prog_9_method_2_code 3 (Option.some FieldType.boolean) ∈ GW := gw_3 (List.mem_of_getElem? (i := 132) rfl) rfl
theorem gw_3_133 : Cond.methodLink "NightValley" 188 ⟨"NightValley$Lamp", "refit", "(III)V"⟩ ∈ GW := gw_3 (List.mem_of_getElem? (i := 133) rfl) rfl
theorem gw_3_134 : Cond.instanceMethod ⟨"NightValley$Lamp", "refit", "(III)V"⟩ ∈ GW := gw_3 (List.mem_of_getElem? (i := 134) rfl) rfl
theorem gw_3_135 : Cond.selects "NightValley$Lamp" ⟨"NightValley$Lamp", "refit", "(III)V"⟩ ⟨"NightValley$Lamp", "refit", "(III)V"⟩ ∈ GW := gw_3 (List.mem_of_getElem? (i := 135) rfl) rfl
theorem gw_3_136 : Cond.code ⟨"NightValley$Lamp", "refit", "(III)V"⟩ prog_4_method_8_code 4 (Option.none : Option FieldType) ∈ GW := gw_3 (List.mem_of_getElem? (i := 136) rfl) rfl
theorem gw_3_137 : Cond.methodLink "NightValleyLaw" 47 ⟨"NightValley", "inspect", "(I)I"⟩ ∈ GW := gw_3 (List.mem_of_getElem? (i := 137) rfl) rfl
theorem gw_3_138 : Cond.instanceMethod ⟨"NightValley", "inspect", "(I)I"⟩ ∈ GW := gw_3 (List.mem_of_getElem? (i := 138) rfl) rfl
theorem gw_3_139 : Cond.selects "NightValley" ⟨"NightValley", "inspect", "(I)I"⟩ ⟨"NightValley", "inspect", "(I)I"⟩ ∈ GW := gw_3 (List.mem_of_getElem? (i := 139) rfl) rfl
theorem gw_3_140 : Cond.code ⟨"NightValley", "inspect", "(I)I"⟩ prog_1_method_14_code 6 (Option.some FieldType.int) ∈ GW := gw_3 (List.mem_of_getElem? (i := 140) rfl) rfl
theorem gw_3_141 : Cond.methodLink "NightValley" 199 ⟨"NightValley$Lamp", "isUnlawful", "()Z"⟩ ∈ GW := gw_3 (List.mem_of_getElem? (i := 141) rfl) rfl
theorem gw_3_142 : Cond.instanceMethod ⟨"NightValley$Lamp", "isUnlawful", "()Z"⟩ ∈ GW := gw_3 (List.mem_of_getElem? (i := 142) rfl) rfl
theorem gw_3_143 : Cond.selects "NightValley$Lamp" ⟨"NightValley$Lamp", "isUnlawful", "()Z"⟩ ⟨"NightValley$Lamp", "isUnlawful", "()Z"⟩ ∈ GW := gw_3 (List.mem_of_getElem? (i := 143) rfl) rfl
theorem gw_3_144 : Cond.code ⟨"NightValley$Lamp", "isUnlawful", "()Z"⟩ prog_4_method_5_code 1 (Option.some FieldType.boolean) ∈ GW := gw_3 (List.mem_of_getElem? (i := 144) rfl) rfl
theorem gw_3_145 : Cond.methodLink "NightValley" 206 ⟨"NightValley$Village", "payFine", "()V"⟩ ∈ GW := gw_3 (List.mem_of_getElem? (i := 145) rfl) rfl
theorem gw_3_146 : Cond.instanceMethod ⟨"NightValley$Village", "payFine", "()V"⟩ ∈ GW := gw_3 (List.mem_of_getElem? (i := 146) rfl) rfl
theorem gw_3_147 : Cond.selects "NightValley$Village" ⟨"NightValley$Village", "payFine", "()V"⟩ ⟨"NightValley$Village", "payFine", "()V"⟩ ∈ GW := gw_3 (List.mem_of_getElem? (i := 147) rfl) rfl
theorem gw_3_148 : Cond.code ⟨"NightValley$Village", "payFine", "()V"⟩ prog_9_method_3_code 1 (Option.none : Option FieldType) ∈ GW := gw_3 (List.mem_of_getElem? (i := 148) rfl) rfl
theorem gw_3_149 : Cond.methodLink "NightValleyLaw" 50 ⟨"NightValley", "meter", "(III)I"⟩ ∈ GW := gw_3 (List.mem_of_getElem? (i := 149) rfl) rfl
theorem gw_3_150 : Cond.instanceMethod ⟨"NightValley", "meter", "(III)I"⟩ ∈ GW := gw_3 (List.mem_of_getElem? (i := 150) rfl) rfl
theorem gw_3_151 : Cond.selects "NightValley" ⟨"NightValley", "meter", "(III)I"⟩ ⟨"NightValley", "meter", "(III)I"⟩ ∈ GW := gw_3 (List.mem_of_getElem? (i := 151) rfl) rfl
theorem gw_3_152 : Cond.code ⟨"NightValley", "meter", "(III)I"⟩ prog_1_method_15_code 5 (Option.some FieldType.int) ∈ GW := gw_3 (List.mem_of_getElem? (i := 152) rfl) rfl
theorem gw_3_153 : Cond.classLink "NightValley" 209 "NightValley$Meter" ∈ GW := gw_3 (List.mem_of_getElem? (i := 153) rfl) rfl
theorem gw_3_154 : Cond.instantiable "NightValley$Meter" 5 ∈ GW := gw_3 (List.mem_of_getElem? (i := 154) rfl) rfl
theorem gw_3_155 : Cond.methodLink "NightValley" 211 ⟨"NightValley$Meter", "<init>", "(LNightValley$Place;II)V"⟩ ∈ GW := gw_3 (List.mem_of_getElem? (i := 155) rfl) rfl
theorem gw_3_156 : Cond.instanceMethod ⟨"NightValley$Meter", "<init>", "(LNightValley$Place;II)V"⟩ ∈ GW := gw_3 (List.mem_of_getElem? (i := 156) rfl) rfl
theorem gw_3_157 : Cond.code ⟨"NightValley$Meter", "<init>", "(LNightValley$Place;II)V"⟩ prog_5_method_1_code 4 (Option.none : Option FieldType) ∈ GW := gw_3 (List.mem_of_getElem? (i := 157) rfl) rfl
theorem gw_3_158 : Cond.methodLink "NightValley$Meter" 3 ⟨"java/lang/Object", "<init>", "()V"⟩ ∈ GW := gw_3 (List.mem_of_getElem? (i := 158) rfl) rfl
theorem gw_3_159 : Cond.classLink "NightValley$Meter" 9 "java/util/ArrayList" ∈ GW := gw_3 (List.mem_of_getElem? (i := 159) rfl) rfl
theorem gw_3_160 : Cond.methodLink "NightValley$Meter" 11 ⟨"java/util/ArrayList", "<init>", "()V"⟩ ∈ GW := gw_3 (List.mem_of_getElem? (i := 160) rfl) rfl
theorem gw_3_161 : Cond.fieldLink "NightValley$Meter" 18 "NightValley$Meter" "place" "LNightValley$Place;" ∈ GW := gw_3 (List.mem_of_getElem? (i := 161) rfl) rfl
theorem gw_3_162 : Cond.fieldLink "NightValley" 224 "NightValley$Meter" "place" "LNightValley$Place;" ∈ GW := gw_3 (List.mem_of_getElem? (i := 162) rfl) rfl
theorem gw_3_163 : Cond.fieldLink "NightValley$Meter" 22 "NightValley$Meter" "zero" "I" ∈ GW := gw_3 (List.mem_of_getElem? (i := 163) rfl) rfl
theorem gw_3_164 : Cond.fieldLink "NightValley" 218 "NightValley$Meter" "zero" "I" ∈ GW := gw_3 (List.mem_of_getElem? (i := 164) rfl) rfl
theorem gw_3_165 : Cond.fieldLink "NightValley$Meter" 26 "NightValley$Meter" "drift" "I" ∈ GW := gw_3 (List.mem_of_getElem? (i := 165) rfl) rfl
theorem gw_3_166 : Cond.fieldLink "NightValley" 221 "NightValley$Meter" "drift" "I" ∈ GW := gw_3 (List.mem_of_getElem? (i := 166) rfl) rfl
theorem gw_3_167 : Cond.fieldLink "NightValley$Meter" 12 "NightValley$Meter" "readings" "Ljava/util/ArrayList;" ∈ GW := gw_3 (List.mem_of_getElem? (i := 167) rfl) rfl
theorem gw_3_168 : Cond.fieldLink "NightValley" 300 "NightValley$Meter" "readings" "Ljava/util/ArrayList;" ∈ GW := gw_3 (List.mem_of_getElem? (i := 168) rfl) rfl
theorem gw_3_169 : Cond.fieldLink "NightValley$Meter" 53 "NightValley$Meter" "toldZero" "I" ∈ GW := gw_3 (List.mem_of_getElem? (i := 169) rfl) rfl
theorem gw_3_170 : Cond.fieldLink "NightValley" 239 "NightValley$Meter" "toldZero" "I" ∈ GW := gw_3 (List.mem_of_getElem? (i := 170) rfl) rfl
theorem gw_3_171 : Cond.laysFinal "NightValley$Meter" "NightValley$Meter" "place" "LNightValley$Place;" ∈ GW := gw_3 (List.mem_of_getElem? (i := 171) rfl) rfl
theorem gw_3_172 : Cond.soleField "NightValley$Meter" "place" ∈ GW := gw_3 (List.mem_of_getElem? (i := 172) rfl) rfl
theorem gw_3_173 : Cond.laysFinal "NightValley$Meter" "NightValley$Meter" "zero" "I" ∈ GW := gw_3 (List.mem_of_getElem? (i := 173) rfl) rfl
theorem gw_3_174 : Cond.soleField "NightValley$Meter" "zero" ∈ GW := gw_3 (List.mem_of_getElem? (i := 174) rfl) rfl
theorem gw_3_175 : Cond.laysFinal "NightValley$Meter" "NightValley$Meter" "drift" "I" ∈ GW := gw_3 (List.mem_of_getElem? (i := 175) rfl) rfl
theorem gw_3_176 : Cond.soleField "NightValley$Meter" "drift" ∈ GW := gw_3 (List.mem_of_getElem? (i := 176) rfl) rfl
theorem gw_3_177 : Cond.laysFinal "NightValley$Meter" "NightValley$Meter" "readings" "Ljava/util/ArrayList;" ∈ GW := gw_3 (List.mem_of_getElem? (i := 177) rfl) rfl
theorem gw_3_178 : Cond.soleField "NightValley$Meter" "readings" ∈ GW := gw_3 (List.mem_of_getElem? (i := 178) rfl) rfl
theorem gw_3_179 : Cond.lays "NightValley$Meter" "NightValley$Meter" "toldZero" "I" ∈ GW := gw_3 (List.mem_of_getElem? (i := 179) rfl) rfl
theorem gw_3_180 : Cond.soleField "NightValley$Meter" "toldZero" ∈ GW := gw_3 (List.mem_of_getElem? (i := 180) rfl) rfl
theorem gw_3_181 : Cond.superclass "NightValley$Meter" "java/lang/Object" ∈ GW := gw_3 (List.mem_of_getElem? (i := 181) rfl) rfl
theorem gw_3_182 : Cond.methodLink "NightValleyLaw" 54 ⟨"NightValley", "read", "(I)I"⟩ ∈ GW := gw_3 (List.mem_of_getElem? (i := 182) rfl) rfl
theorem gw_3_183 : Cond.instanceMethod ⟨"NightValley", "read", "(I)I"⟩ ∈ GW := gw_3 (List.mem_of_getElem? (i := 183) rfl) rfl
theorem gw_3_184 : Cond.selects "NightValley" ⟨"NightValley", "read", "(I)I"⟩ ⟨"NightValley", "read", "(I)I"⟩ ∈ GW := gw_3 (List.mem_of_getElem? (i := 184) rfl) rfl
theorem gw_3_185 : Cond.code ⟨"NightValley", "read", "(I)I"⟩ prog_1_method_16_code 5 (Option.some FieldType.int) ∈ GW := gw_3 (List.mem_of_getElem? (i := 185) rfl) rfl
theorem gw_3_186 : Cond.methodLink "NightValley" 214 ⟨"NightValley", "meterOf", "(I)LNightValley$Meter;"⟩ ∈ GW := gw_3 (List.mem_of_getElem? (i := 186) rfl) rfl
theorem gw_3_188 : Cond.instanceMethod ⟨"NightValley", "meterOf", "(I)LNightValley$Meter;"⟩ ∈ GW := gw_3 (List.mem_of_getElem? (i := 188) rfl) rfl
theorem gw_3_189 : Cond.code ⟨"NightValley", "meterOf", "(I)LNightValley$Meter;"⟩ prog_1_method_41_code 2 (Option.some (FieldType.object "NightValley$Meter")) ∈ GW := gw_3 (List.mem_of_getElem? (i := 189) rfl) rfl
theorem gw_3_190 : Cond.methodLink "NightValley" 225 ⟨"NightValley", "glowOf", "(LNightValley$Place;)I"⟩ ∈ GW := gw_3 (List.mem_of_getElem? (i := 190) rfl) rfl
theorem gw_3_192 : Cond.instanceMethod ⟨"NightValley", "glowOf", "(LNightValley$Place;)I"⟩ ∈ GW := gw_3 (List.mem_of_getElem? (i := 192) rfl) rfl
theorem gw_3_193 : Cond.code ⟨"NightValley", "glowOf", "(LNightValley$Place;)I"⟩ prog_1_method_50_code 4 (Option.some FieldType.int) ∈ GW := gw_3 (List.mem_of_getElem? (i := 193) rfl) rfl
theorem gw_3_194 : Cond.methodLink "NightValley" 229 ⟨"NightValley", "moonAt", "(I)I"⟩ ∈ GW := gw_3 (List.mem_of_getElem? (i := 194) rfl) rfl
theorem gw_3_195 : Cond.static ⟨"NightValley", "moonAt", "(I)I"⟩ ∈ GW := gw_3 (List.mem_of_getElem? (i := 195) rfl) rfl
theorem gw_3_196 : Cond.code ⟨"NightValley", "moonAt", "(I)I"⟩ prog_1_method_43_code 2 (Option.some FieldType.int) ∈ GW := gw_3 (List.mem_of_getElem? (i := 196) rfl) rfl
theorem gw_3_197 : Cond.methodLink "NightValley" 320 ⟨"NightValley", "isNight", "(I)Z"⟩ ∈ GW := gw_3 (List.mem_of_getElem? (i := 197) rfl) rfl
theorem gw_3_198 : Cond.static ⟨"NightValley", "isNight", "(I)Z"⟩ ∈ GW := gw_3 (List.mem_of_getElem? (i := 198) rfl) rfl
theorem gw_3_199 : Cond.code ⟨"NightValley", "isNight", "(I)Z"⟩ prog_1_method_42_code 1 (Option.some FieldType.boolean) ∈ GW := gw_3 (List.mem_of_getElem? (i := 199) rfl) rfl
theorem gw_3_200 : Cond.methodLink "NightValley" 348 ⟨"java/lang/Math", "abs", "(I)I"⟩ ∈ GW := gw_3 (List.mem_of_getElem? (i := 200) rfl) rfl
theorem gw_3_201 : Cond.classLink "NightValley" 232 "NightValley$Reading" ∈ GW := gw_3 (List.mem_of_getElem? (i := 201) rfl) rfl
theorem gw_3_202 : Cond.instantiable "NightValley$Reading" 2 ∈ GW := gw_3 (List.mem_of_getElem? (i := 202) rfl) rfl
theorem gw_3_203 : Cond.methodLink "NightValley" 234 ⟨"NightValley$Reading", "<init>", "(II)V"⟩ ∈ GW := gw_3 (List.mem_of_getElem? (i := 203) rfl) rfl
theorem gw_3_204 : Cond.instanceMethod ⟨"NightValley$Reading", "<init>", "(II)V"⟩ ∈ GW := gw_3 (List.mem_of_getElem? (i := 204) rfl) rfl
theorem gw_3_205 : Cond.code ⟨"NightValley$Reading", "<init>", "(II)V"⟩ prog_7_method_1_code 3 (Option.none : Option FieldType) ∈ GW := gw_3 (List.mem_of_getElem? (i := 205) rfl) rfl
theorem gw_3_206 : Cond.methodLink "NightValley$Reading" 1 ⟨"java/lang/Object", "<init>", "()V"⟩ ∈ GW := gw_3 (List.mem_of_getElem? (i := 206) rfl) rfl
theorem gw_3_207 : Cond.fieldLink "NightValley$Reading" 7 "NightValley$Reading" "when" "I" ∈ GW := gw_3 (List.mem_of_getElem? (i := 207) rfl) rfl
theorem gw_3_208 : Cond.fieldLink "NightValley$Meter" 46 "NightValley$Reading" "when" "I" ∈ GW := gw_3 (List.mem_of_getElem? (i := 208) rfl) rfl
theorem gw_3_209 : Cond.fieldLink "NightValley" 303 "NightValley$Reading" "when" "I" ∈ GW := gw_3 (List.mem_of_getElem? (i := 209) rfl) rfl
theorem gw_3_210 : Cond.fieldLink "NightValley$Reading" 13 "NightValley$Reading" "value" "I" ∈ GW := gw_3 (List.mem_of_getElem? (i := 210) rfl) rfl
theorem gw_3_211 : Cond.fieldLink "NightValley$Meter" 41 "NightValley$Reading" "value" "I" ∈ GW := gw_3 (List.mem_of_getElem? (i := 211) rfl) rfl
theorem gw_3_212 : Cond.fieldLink "NightValley" 306 "NightValley$Reading" "value" "I" ∈ GW := gw_3 (List.mem_of_getElem? (i := 212) rfl) rfl
theorem gw_3_213 : Cond.laysFinal "NightValley$Reading" "NightValley$Reading" "when" "I" ∈ GW := gw_3 (List.mem_of_getElem? (i := 213) rfl) rfl
theorem gw_3_214 : Cond.soleField "NightValley$Reading" "when" ∈ GW := gw_3 (List.mem_of_getElem? (i := 214) rfl) rfl
theorem gw_3_215 : Cond.laysFinal "NightValley$Reading" "NightValley$Reading" "value" "I" ∈ GW := gw_3 (List.mem_of_getElem? (i := 215) rfl) rfl
theorem gw_3_216 : Cond.soleField "NightValley$Reading" "value" ∈ GW := gw_3 (List.mem_of_getElem? (i := 216) rfl) rfl
theorem gw_3_217 : Cond.superclass "NightValley$Reading" "java/lang/Object" ∈ GW := gw_3 (List.mem_of_getElem? (i := 217) rfl) rfl
theorem gw_3_218 : Cond.methodLink "NightValley" 235 ⟨"NightValley$Meter", "keep", "(LNightValley$Reading;)V"⟩ ∈ GW := gw_3 (List.mem_of_getElem? (i := 218) rfl) rfl
theorem gw_3_219 : Cond.instanceMethod ⟨"NightValley$Meter", "keep", "(LNightValley$Reading;)V"⟩ ∈ GW := gw_3 (List.mem_of_getElem? (i := 219) rfl) rfl
theorem gw_3_220 : Cond.selects "NightValley$Meter" ⟨"NightValley$Meter", "keep", "(LNightValley$Reading;)V"⟩ ⟨"NightValley$Meter", "keep", "(LNightValley$Reading;)V"⟩ ∈ GW := gw_3 (List.mem_of_getElem? (i := 220) rfl) rfl
theorem gw_3_221 : Cond.code ⟨"NightValley$Meter", "keep", "(LNightValley$Reading;)V"⟩ prog_5_method_2_code 2 (Option.none : Option FieldType) ∈ GW := gw_3 (List.mem_of_getElem? (i := 221) rfl) rfl
theorem gw_3_222 : Cond.methodLink "NightValley$Meter" 29 ⟨"java/util/ArrayList", "size", "()I"⟩ ∈ GW := gw_3 (List.mem_of_getElem? (i := 222) rfl) rfl
theorem gw_3_223 : Cond.methodLink "NightValley$Meter" 33 ⟨"java/util/ArrayList", "remove", "(I)Ljava/lang/Object;"⟩ ∈ GW := gw_3 (List.mem_of_getElem? (i := 223) rfl) rfl
theorem gw_3_224 : Cond.instanceMethod ⟨"java/util/ArrayList", "remove", "(I)Ljava/lang/Object;"⟩ ∈ GW := gw_3 (List.mem_of_getElem? (i := 224) rfl) rfl
theorem gw_3_225 : Cond.selects "java/util/ArrayList" ⟨"java/util/ArrayList", "remove", "(I)Ljava/lang/Object;"⟩ ⟨"java/util/ArrayList", "remove", "(I)Ljava/lang/Object;"⟩ ∈ GW := gw_3 (List.mem_of_getElem? (i := 225) rfl) rfl
theorem gw_3_226 : Cond.code ⟨"java/util/ArrayList", "remove", "(I)Ljava/lang/Object;"⟩ prog_27_method_29_code 4 (Option.some (FieldType.object "java/lang/Object")) ∈ GW := gw_3 (List.mem_of_getElem? (i := 226) rfl) rfl
theorem gw_3_227 : Cond.methodLink "java/util/ArrayList" 144 ⟨"java/util/ArrayList", "fastRemove", "([Ljava/lang/Object;I)V"⟩ ∈ GW := gw_3 (List.mem_of_getElem? (i := 227) rfl) rfl
theorem gw_3_229 : Cond.instanceMethod ⟨"java/util/ArrayList", "fastRemove", "([Ljava/lang/Object;I)V"⟩ ∈ GW := gw_3 (List.mem_of_getElem? (i := 229) rfl) rfl
theorem gw_3_230 : Cond.code ⟨"java/util/ArrayList", "fastRemove", "([Ljava/lang/Object;I)V"⟩ prog_27_method_39_code 4 (Option.none : Option FieldType) ∈ GW := gw_3 (List.mem_of_getElem? (i := 230) rfl) rfl
theorem gw_3_231 : Cond.methodLink "java/util/ArrayList" 112 ⟨"java/lang/System", "arraycopy", "(Ljava/lang/Object;ILjava/lang/Object;II)V"⟩ ∈ GW := gw_3 (List.mem_of_getElem? (i := 231) rfl) rfl
theorem gw_3_232 : Cond.methodLink "NightValley$Meter" 37 ⟨"java/util/ArrayList", "add", "(Ljava/lang/Object;)Z"⟩ ∈ GW := gw_3 (List.mem_of_getElem? (i := 232) rfl) rfl
theorem gw_3_233 : Cond.methodLink "NightValleyLaw" 57 ⟨"NightValley", "tell", "(II)I"⟩ ∈ GW := gw_3 (List.mem_of_getElem? (i := 233) rfl) rfl
theorem gw_3_234 : Cond.instanceMethod ⟨"NightValley", "tell", "(II)I"⟩ ∈ GW := gw_3 (List.mem_of_getElem? (i := 234) rfl) rfl
theorem gw_3_235 : Cond.selects "NightValley" ⟨"NightValley", "tell", "(II)I"⟩ ⟨"NightValley", "tell", "(II)I"⟩ ∈ GW := gw_3 (List.mem_of_getElem? (i := 235) rfl) rfl
theorem gw_3_236 : Cond.code ⟨"NightValley", "tell", "(II)I"⟩ prog_1_method_17_code 5 (Option.some FieldType.int) ∈ GW := gw_3 (List.mem_of_getElem? (i := 236) rfl) rfl
theorem gw_3_237 : Cond.methodLink "NightValleyLaw" 60 ⟨"NightValley", "ofLamp", "(II)I"⟩ ∈ GW := gw_3 (List.mem_of_getElem? (i := 237) rfl) rfl
theorem gw_3_238 : Cond.instanceMethod ⟨"NightValley", "ofLamp", "(II)I"⟩ ∈ GW := gw_3 (List.mem_of_getElem? (i := 238) rfl) rfl
theorem gw_3_239 : Cond.selects "NightValley" ⟨"NightValley", "ofLamp", "(II)I"⟩ ⟨"NightValley", "ofLamp", "(II)I"⟩ ∈ GW := gw_3 (List.mem_of_getElem? (i := 239) rfl) rfl
theorem gw_4_0 : Cond.code ⟨"NightValley", "ofLamp", "(II)I"⟩ prog_1_method_21_code 4 (Option.some FieldType.int) ∈ GW := gw_4 (List.mem_of_getElem? (i := 0) rfl) rfl
theorem gw_4_1 : Cond.methodLink "NightValley" 257 ⟨"NightValley$Lamp", "light", "()I"⟩ ∈ GW := gw_4 (List.mem_of_getElem? (i := 1) rfl) rfl
theorem gw_4_2 : Cond.methodLink "NightValleyLaw" 63 ⟨"NightValley", "ofVillage", "(II)I"⟩ ∈ GW := gw_4 (List.mem_of_getElem? (i := 2) rfl) rfl
theorem gw_4_3 : Cond.instanceMethod ⟨"NightValley", "ofVillage", "(II)I"⟩ ∈ GW := gw_4 (List.mem_of_getElem? (i := 3) rfl) rfl
theorem gw_4_4 : Cond.selects "NightValley" ⟨"NightValley", "ofVillage", "(II)I"⟩ ⟨"NightValley", "ofVillage", "(II)I"⟩ ∈ GW := gw_4 (List.mem_of_getElem? (i := 4) rfl) rfl
theorem gw_4_5 : Cond.code ⟨"NightValley", "ofVillage", "(II)I"⟩ prog_1_method_22_code 4 (Option.some FieldType.int) ∈ GW := gw_4 (List.mem_of_getElem? (i := 5) rfl) rfl
theorem gw_4_6 : Cond.methodLink "NightValley" 263 ⟨"NightValley", "burningLampsOf", "(LNightValley$Village;)I"⟩ ∈ GW := gw_4 (List.mem_of_getElem? (i := 6) rfl) rfl
theorem gw_4_8 : Cond.instanceMethod ⟨"NightValley", "burningLampsOf", "(LNightValley$Village;)I"⟩ ∈ GW := gw_4 (List.mem_of_getElem? (i := 8) rfl) rfl
theorem gw_4_9 : Cond.code ⟨"NightValley", "burningLampsOf", "(LNightValley$Village;)I"⟩ prog_1_method_47_code 5 (Option.some FieldType.int) ∈ GW := gw_4 (List.mem_of_getElem? (i := 9) rfl) rfl
theorem gw_4_10 : Cond.methodLink "NightValleyLaw" 66 ⟨"NightValley", "way", "(III)I"⟩ ∈ GW := gw_4 (List.mem_of_getElem? (i := 10) rfl) rfl
theorem gw_4_11 : Cond.instanceMethod ⟨"NightValley", "way", "(III)I"⟩ ∈ GW := gw_4 (List.mem_of_getElem? (i := 11) rfl) rfl
theorem gw_4_12 : Cond.selects "NightValley" ⟨"NightValley", "way", "(III)I"⟩ ⟨"NightValley", "way", "(III)I"⟩ ∈ GW := gw_4 (List.mem_of_getElem? (i := 12) rfl) rfl
theorem gw_4_13 : Cond.code ⟨"NightValley", "way", "(III)I"⟩ prog_1_method_27_code 6 (Option.some FieldType.int) ∈ GW := gw_4 (List.mem_of_getElem? (i := 13) rfl) rfl
theorem gw_4_14 : Cond.constant "NightValley" 242 (100000 : Int32) ∈ GW := gw_4 (List.mem_of_getElem? (i := 14) rfl) rfl
theorem gw_4_15 : Cond.methodLink "NightValley" 290 ⟨"NightValley$Walk", "darken", "()V"⟩ ∈ GW := gw_4 (List.mem_of_getElem? (i := 15) rfl) rfl
theorem gw_4_16 : Cond.instanceMethod ⟨"NightValley$Walk", "darken", "()V"⟩ ∈ GW := gw_4 (List.mem_of_getElem? (i := 16) rfl) rfl
theorem gw_4_17 : Cond.selects "NightValley$Walk" ⟨"NightValley$Walk", "darken", "()V"⟩ ⟨"NightValley$Walk", "darken", "()V"⟩ ∈ GW := gw_4 (List.mem_of_getElem? (i := 17) rfl) rfl
theorem gw_4_18 : Cond.code ⟨"NightValley$Walk", "darken", "()V"⟩ prog_10_method_2_code 1 (Option.none : Option FieldType) ∈ GW := gw_4 (List.mem_of_getElem? (i := 18) rfl) rfl
theorem gw_4_19 : Cond.methodLink "NightValley$Walk" 21 ⟨"java/util/Arrays", "fill", "([II)V"⟩ ∈ GW := gw_4 (List.mem_of_getElem? (i := 19) rfl) rfl
theorem gw_4_20 : Cond.static ⟨"java/util/Arrays", "fill", "([II)V"⟩ ∈ GW := gw_4 (List.mem_of_getElem? (i := 20) rfl) rfl
theorem gw_4_21 : Cond.code ⟨"java/util/Arrays", "fill", "([II)V"⟩ prog_28_method_103_code 4 (Option.none : Option FieldType) ∈ GW := gw_4 (List.mem_of_getElem? (i := 21) rfl) rfl
theorem gw_4_22 : Cond.methodLink "NightValley" 293 ⟨"NightValley$Walk", "shine", "(ILNightValley$Place;)V"⟩ ∈ GW := gw_4 (List.mem_of_getElem? (i := 22) rfl) rfl
theorem gw_4_23 : Cond.instanceMethod ⟨"NightValley$Walk", "shine", "(ILNightValley$Place;)V"⟩ ∈ GW := gw_4 (List.mem_of_getElem? (i := 23) rfl) rfl
theorem gw_4_24 : Cond.selects "NightValley$Walk" ⟨"NightValley$Walk", "shine", "(ILNightValley$Place;)V"⟩ ⟨"NightValley$Walk", "shine", "(ILNightValley$Place;)V"⟩ ∈ GW := gw_4 (List.mem_of_getElem? (i := 24) rfl) rfl
theorem gw_4_25 : Cond.code ⟨"NightValley$Walk", "shine", "(ILNightValley$Place;)V"⟩ prog_10_method_3_code 4 (Option.none : Option FieldType) ∈ GW := gw_4 (List.mem_of_getElem? (i := 25) rfl) rfl
theorem gw_4_27 : Cond.methodLink "NightValley" 297 ⟨"NightValley$Walk", "leastSteps", "(III)I"⟩ ∈ GW := gw_4 (List.mem_of_getElem? (i := 27) rfl) rfl
theorem gw_4_28 : Cond.instanceMethod ⟨"NightValley$Walk", "leastSteps", "(III)I"⟩ ∈ GW := gw_4 (List.mem_of_getElem? (i := 28) rfl) rfl
theorem gw_4_29 : Cond.selects "NightValley$Walk" ⟨"NightValley$Walk", "leastSteps", "(III)I"⟩ ⟨"NightValley$Walk", "leastSteps", "(III)I"⟩ ∈ GW := gw_4 (List.mem_of_getElem? (i := 29) rfl) rfl
theorem gw_4_30 : Cond.code ⟨"NightValley$Walk", "leastSteps", "(III)I"⟩ prog_10_method_4_code 5 (Option.some FieldType.int) ∈ GW := gw_4 (List.mem_of_getElem? (i := 30) rfl) rfl
theorem gw_4_31 : Cond.methodLink "NightValley$Walk" 43 ⟨"NightValley$Walk", "reach", "(III)V"⟩ ∈ GW := gw_4 (List.mem_of_getElem? (i := 31) rfl) rfl
theorem gw_4_33 : Cond.instanceMethod ⟨"NightValley$Walk", "reach", "(III)V"⟩ ∈ GW := gw_4 (List.mem_of_getElem? (i := 33) rfl) rfl
theorem gw_4_34 : Cond.code ⟨"NightValley$Walk", "reach", "(III)V"⟩ prog_10_method_6_code 4 (Option.none : Option FieldType) ∈ GW := gw_4 (List.mem_of_getElem? (i := 34) rfl) rfl
theorem gw_4_35 : Cond.methodLink "NightValley$Walk" 47 ⟨"NightValley$Walk", "goOn", "(II)V"⟩ ∈ GW := gw_4 (List.mem_of_getElem? (i := 35) rfl) rfl
theorem gw_4_37 : Cond.instanceMethod ⟨"NightValley$Walk", "goOn", "(II)V"⟩ ∈ GW := gw_4 (List.mem_of_getElem? (i := 37) rfl) rfl
theorem gw_4_38 : Cond.code ⟨"NightValley$Walk", "goOn", "(II)V"⟩ prog_10_method_5_code 5 (Option.none : Option FieldType) ∈ GW := gw_4 (List.mem_of_getElem? (i := 38) rfl) rfl
theorem gw_4_39 : Cond.methodLink "NightValleyLaw" 69 ⟨"NightValley", "ofReading", "(III)I"⟩ ∈ GW := gw_4 (List.mem_of_getElem? (i := 39) rfl) rfl
theorem gw_4_40 : Cond.instanceMethod ⟨"NightValley", "ofReading", "(III)I"⟩ ∈ GW := gw_4 (List.mem_of_getElem? (i := 40) rfl) rfl
theorem gw_4_41 : Cond.selects "NightValley" ⟨"NightValley", "ofReading", "(III)I"⟩ ⟨"NightValley", "ofReading", "(III)I"⟩ ∈ GW := gw_4 (List.mem_of_getElem? (i := 41) rfl) rfl
theorem gw_4_42 : Cond.code ⟨"NightValley", "ofReading", "(III)I"⟩ prog_1_method_28_code 6 (Option.some FieldType.int) ∈ GW := gw_4 (List.mem_of_getElem? (i := 42) rfl) rfl
theorem gw_4_43 : Cond.methodLink "NightValley" 309 ⟨"NightValley$Meter", "corrected", "(LNightValley$Reading;)I"⟩ ∈ GW := gw_4 (List.mem_of_getElem? (i := 43) rfl) rfl
theorem gw_4_44 : Cond.instanceMethod ⟨"NightValley$Meter", "corrected", "(LNightValley$Reading;)I"⟩ ∈ GW := gw_4 (List.mem_of_getElem? (i := 44) rfl) rfl
theorem gw_4_45 : Cond.selects "NightValley$Meter" ⟨"NightValley$Meter", "corrected", "(LNightValley$Reading;)I"⟩ ⟨"NightValley$Meter", "corrected", "(LNightValley$Reading;)I"⟩ ∈ GW := gw_4 (List.mem_of_getElem? (i := 45) rfl) rfl
theorem gw_4_46 : Cond.code ⟨"NightValley$Meter", "corrected", "(LNightValley$Reading;)I"⟩ prog_5_method_3_code 2 (Option.some FieldType.int) ∈ GW := gw_4 (List.mem_of_getElem? (i := 46) rfl) rfl
theorem gw_4_48 : Cond.methodLink "NightValleyLaw" 72 ⟨"NightValley", "plan", "(III)I"⟩ ∈ GW := gw_4 (List.mem_of_getElem? (i := 48) rfl) rfl
theorem gw_4_49 : Cond.instanceMethod ⟨"NightValley", "plan", "(III)I"⟩ ∈ GW := gw_4 (List.mem_of_getElem? (i := 49) rfl) rfl
theorem gw_4_50 : Cond.selects "NightValley" ⟨"NightValley", "plan", "(III)I"⟩ ⟨"NightValley", "plan", "(III)I"⟩ ∈ GW := gw_4 (List.mem_of_getElem? (i := 50) rfl) rfl
theorem gw_4_51 : Cond.code ⟨"NightValley", "plan", "(III)I"⟩ prog_1_method_33_code 8 (Option.some FieldType.int) ∈ GW := gw_4 (List.mem_of_getElem? (i := 51) rfl) rfl
theorem gw_4_52 : Cond.methodLink "NightValley" 326 ⟨"NightValley$Choice", "clear", "()V"⟩ ∈ GW := gw_4 (List.mem_of_getElem? (i := 52) rfl) rfl
theorem gw_4_53 : Cond.instanceMethod ⟨"NightValley$Choice", "clear", "()V"⟩ ∈ GW := gw_4 (List.mem_of_getElem? (i := 53) rfl) rfl
theorem gw_4_54 : Cond.selects "NightValley$Choice" ⟨"NightValley$Choice", "clear", "()V"⟩ ⟨"NightValley$Choice", "clear", "()V"⟩ ∈ GW := gw_4 (List.mem_of_getElem? (i := 54) rfl) rfl
theorem gw_4_55 : Cond.code ⟨"NightValley$Choice", "clear", "()V"⟩ prog_2_method_2_code 1 (Option.none : Option FieldType) ∈ GW := gw_4 (List.mem_of_getElem? (i := 55) rfl) rfl
theorem gw_4_56 : Cond.methodLink "NightValley" 329 ⟨"NightValley", "planCost", "(LNightValley$Lamp;)I"⟩ ∈ GW := gw_4 (List.mem_of_getElem? (i := 56) rfl) rfl
theorem gw_4_58 : Cond.instanceMethod ⟨"NightValley", "planCost", "(LNightValley$Lamp;)I"⟩ ∈ GW := gw_4 (List.mem_of_getElem? (i := 58) rfl) rfl
theorem gw_4_59 : Cond.code ⟨"NightValley", "planCost", "(LNightValley$Lamp;)I"⟩ prog_1_method_52_code 2 (Option.some FieldType.int) ∈ GW := gw_4 (List.mem_of_getElem? (i := 59) rfl) rfl
theorem gw_4_60 : Cond.methodLink "NightValley" 333 ⟨"NightValley$Choice", "offer", "(II)V"⟩ ∈ GW := gw_4 (List.mem_of_getElem? (i := 60) rfl) rfl
theorem gw_4_61 : Cond.instanceMethod ⟨"NightValley$Choice", "offer", "(II)V"⟩ ∈ GW := gw_4 (List.mem_of_getElem? (i := 61) rfl) rfl
theorem gw_4_62 : Cond.selects "NightValley$Choice" ⟨"NightValley$Choice", "offer", "(II)V"⟩ ⟨"NightValley$Choice", "offer", "(II)V"⟩ ∈ GW := gw_4 (List.mem_of_getElem? (i := 62) rfl) rfl
theorem gw_4_63 : Cond.code ⟨"NightValley$Choice", "offer", "(II)V"⟩ prog_2_method_3_code 3 (Option.none : Option FieldType) ∈ GW := gw_4 (List.mem_of_getElem? (i := 63) rfl) rfl
theorem gw_4_64 : Cond.methodLink "NightValley" 336 ⟨"NightValley$Choice", "best", "(I)I"⟩ ∈ GW := gw_4 (List.mem_of_getElem? (i := 64) rfl) rfl
theorem gw_4_65 : Cond.instanceMethod ⟨"NightValley$Choice", "best", "(I)I"⟩ ∈ GW := gw_4 (List.mem_of_getElem? (i := 65) rfl) rfl
theorem gw_4_66 : Cond.selects "NightValley$Choice" ⟨"NightValley$Choice", "best", "(I)I"⟩ ⟨"NightValley$Choice", "best", "(I)I"⟩ ∈ GW := gw_4 (List.mem_of_getElem? (i := 66) rfl) rfl
theorem gw_4_67 : Cond.code ⟨"NightValley$Choice", "best", "(I)I"⟩ prog_2_method_4_code 8 (Option.some FieldType.int) ∈ GW := gw_4 (List.mem_of_getElem? (i := 67) rfl) rfl
theorem gw_4_68 : Cond.methodLink "NightValley$Choice" 22 ⟨"NightValley$Choice", "sumOver", "(I[I)I"⟩ ∈ GW := gw_4 (List.mem_of_getElem? (i := 68) rfl) rfl
theorem gw_4_70 : Cond.instanceMethod ⟨"NightValley$Choice", "sumOver", "(I[I)I"⟩ ∈ GW := gw_4 (List.mem_of_getElem? (i := 70) rfl) rfl
theorem gw_4_71 : Cond.code ⟨"NightValley$Choice", "sumOver", "(I[I)I"⟩ prog_2_method_5_code 5 (Option.some FieldType.int) ∈ GW := gw_4 (List.mem_of_getElem? (i := 71) rfl) rfl
theorem gw_4_72 : Cond.constant "NightValleyLaw" 77 (-3000000 : Int32) ∈ GW := gw_4 (List.mem_of_getElem? (i := 72) rfl) rfl
theorem gw_4_73 : Cond.constant "NightValleyLaw" 80 (-2000000 : Int32) ∈ GW := gw_4 (List.mem_of_getElem? (i := 73) rfl) rfl
theorem gw_4_74 : Cond.constant "NightValleyLaw" 83 (-1000000 : Int32) ∈ GW := gw_4 (List.mem_of_getElem? (i := 74) rfl) rfl
theorem gw_4_75 : Cond.methodLink "NightValleyLaw" 194 ⟨"NightValleyLaw", "isSo", "(LNightValley;[I[I[I[I[I[I[I[III)Z"⟩ ∈ GW := gw_4 (List.mem_of_getElem? (i := 75) rfl) rfl
theorem gw_4_76 : Cond.static ⟨"NightValleyLaw", "isSo", "(LNightValley;[I[I[I[I[I[I[I[III)Z"⟩ ∈ GW := gw_4 (List.mem_of_getElem? (i := 76) rfl) rfl
theorem gw_4_77 : Cond.code ⟨"NightValleyLaw", "isSo", "(LNightValley;[I[I[I[I[I[I[I[III)Z"⟩ method_17_code 31 (Option.some FieldType.boolean) ∈ GW := gw_4 (List.mem_of_getElem? (i := 77) rfl) rfl
theorem gw_4_78 : Cond.methodLink "NightValleyLaw" 120 ⟨"NightValley", "time", "()I"⟩ ∈ GW := gw_4 (List.mem_of_getElem? (i := 78) rfl) rfl
theorem gw_4_79 : Cond.instanceMethod ⟨"NightValley", "time", "()I"⟩ ∈ GW := gw_4 (List.mem_of_getElem? (i := 79) rfl) rfl
theorem gw_4_80 : Cond.selects "NightValley" ⟨"NightValley", "time", "()I"⟩ ⟨"NightValley", "time", "()I"⟩ ∈ GW := gw_4 (List.mem_of_getElem? (i := 80) rfl) rfl
theorem gw_4_81 : Cond.code ⟨"NightValley", "time", "()I"⟩ prog_1_method_20_code 1 (Option.some FieldType.int) ∈ GW := gw_4 (List.mem_of_getElem? (i := 81) rfl) rfl
theorem gw_4_82 : Cond.methodLink "NightValleyLaw" 124 ⟨"NightValley", "isHeld", "()Z"⟩ ∈ GW := gw_4 (List.mem_of_getElem? (i := 82) rfl) rfl
theorem gw_4_83 : Cond.instanceMethod ⟨"NightValley", "isHeld", "()Z"⟩ ∈ GW := gw_4 (List.mem_of_getElem? (i := 83) rfl) rfl
theorem gw_4_84 : Cond.selects "NightValley" ⟨"NightValley", "isHeld", "()Z"⟩ ⟨"NightValley", "isHeld", "()Z"⟩ ∈ GW := gw_4 (List.mem_of_getElem? (i := 84) rfl) rfl
theorem gw_4_85 : Cond.code ⟨"NightValley", "isHeld", "()Z"⟩ prog_1_method_30_code 1 (Option.some FieldType.boolean) ∈ GW := gw_4 (List.mem_of_getElem? (i := 85) rfl) rfl
theorem gw_4_86 : Cond.methodLink "NightValleyLaw" 101 ⟨"NightValleyLaw", "burns", "([I[I[I[I[II)Z"⟩ ∈ GW := gw_4 (List.mem_of_getElem? (i := 86) rfl) rfl
theorem gw_4_87 : Cond.static ⟨"NightValleyLaw", "burns", "([I[I[I[I[II)Z"⟩ ∈ GW := gw_4 (List.mem_of_getElem? (i := 87) rfl) rfl
theorem gw_4_88 : Cond.code ⟨"NightValleyLaw", "burns", "([I[I[I[I[II)Z"⟩ method_8_code 15 (Option.some FieldType.boolean) ∈ GW := gw_4 (List.mem_of_getElem? (i := 88) rfl) rfl
theorem gw_4_89 : Cond.methodLink "NightValleyLaw" 116 ⟨"NightValleyLaw", "gives", "([I[I[I[I[III)I"⟩ ∈ GW := gw_4 (List.mem_of_getElem? (i := 89) rfl) rfl
theorem gw_4_90 : Cond.static ⟨"NightValleyLaw", "gives", "([I[I[I[I[III)I"⟩ ∈ GW := gw_4 (List.mem_of_getElem? (i := 90) rfl) rfl
theorem gw_4_91 : Cond.code ⟨"NightValleyLaw", "gives", "([I[I[I[I[III)I"⟩ method_12_code 9 (Option.some FieldType.int) ∈ GW := gw_4 (List.mem_of_getElem? (i := 91) rfl) rfl
theorem gw_4_92 : Cond.methodLink "NightValleyLaw" 105 ⟨"NightValleyLaw", "light", "([II)I"⟩ ∈ GW := gw_4 (List.mem_of_getElem? (i := 92) rfl) rfl
theorem gw_4_93 : Cond.static ⟨"NightValleyLaw", "light", "([II)I"⟩ ∈ GW := gw_4 (List.mem_of_getElem? (i := 93) rfl) rfl
theorem gw_4_94 : Cond.code ⟨"NightValleyLaw", "light", "([II)I"⟩ method_9_code 4 (Option.some FieldType.int) ∈ GW := gw_4 (List.mem_of_getElem? (i := 94) rfl) rfl
theorem gw_4_95 : Cond.methodLink "NightValleyLaw" 109 ⟨"NightValleyLaw", "apart", "(II)I"⟩ ∈ GW := gw_4 (List.mem_of_getElem? (i := 95) rfl) rfl
theorem gw_4_96 : Cond.static ⟨"NightValleyLaw", "apart", "(II)I"⟩ ∈ GW := gw_4 (List.mem_of_getElem? (i := 96) rfl) rfl
theorem gw_4_97 : Cond.code ⟨"NightValleyLaw", "apart", "(II)I"⟩ method_11_code 4 (Option.some FieldType.int) ∈ GW := gw_4 (List.mem_of_getElem? (i := 97) rfl) rfl
theorem gw_4_98 : Cond.methodLink "NightValleyLaw" 112 ⟨"NightValleyLaw", "isShaded", "([III)Z"⟩ ∈ GW := gw_4 (List.mem_of_getElem? (i := 98) rfl) rfl
theorem gw_4_99 : Cond.static ⟨"NightValleyLaw", "isShaded", "([III)Z"⟩ ∈ GW := gw_4 (List.mem_of_getElem? (i := 99) rfl) rfl
theorem gw_4_100 : Cond.code ⟨"NightValleyLaw", "isShaded", "([III)Z"⟩ method_10_code 12 (Option.some FieldType.boolean) ∈ GW := gw_4 (List.mem_of_getElem? (i := 100) rfl) rfl
theorem gw_4_101 : Cond.methodLink "NightValleyLaw" 98 ⟨"NightValleyLaw", "size", "(I)I"⟩ ∈ GW := gw_4 (List.mem_of_getElem? (i := 101) rfl) rfl
theorem gw_4_102 : Cond.static ⟨"NightValleyLaw", "size", "(I)I"⟩ ∈ GW := gw_4 (List.mem_of_getElem? (i := 102) rfl) rfl
theorem gw_4_103 : Cond.code ⟨"NightValleyLaw", "size", "(I)I"⟩ method_7_code 1 (Option.some FieldType.int) ∈ GW := gw_4 (List.mem_of_getElem? (i := 103) rfl) rfl
theorem gw_4_104 : Cond.methodLink "NightValleyLaw" 128 ⟨"NightValleyLaw", "isUnlawful", "([I[I[II)Z"⟩ ∈ GW := gw_4 (List.mem_of_getElem? (i := 104) rfl) rfl
theorem gw_4_105 : Cond.static ⟨"NightValleyLaw", "isUnlawful", "([I[I[II)Z"⟩ ∈ GW := gw_4 (List.mem_of_getElem? (i := 105) rfl) rfl
theorem gw_4_106 : Cond.code ⟨"NightValleyLaw", "isUnlawful", "([I[I[II)Z"⟩ method_15_code 5 (Option.some FieldType.boolean) ∈ GW := gw_4 (List.mem_of_getElem? (i := 106) rfl) rfl
theorem gw_4_107 : Cond.methodLink "NightValleyLaw" 132 ⟨"NightValley", "gives", "(II)I"⟩ ∈ GW := gw_4 (List.mem_of_getElem? (i := 107) rfl) rfl
theorem gw_4_108 : Cond.instanceMethod ⟨"NightValley", "gives", "(II)I"⟩ ∈ GW := gw_4 (List.mem_of_getElem? (i := 108) rfl) rfl
theorem gw_4_109 : Cond.selects "NightValley" ⟨"NightValley", "gives", "(II)I"⟩ ⟨"NightValley", "gives", "(II)I"⟩ ∈ GW := gw_4 (List.mem_of_getElem? (i := 109) rfl) rfl
theorem gw_4_110 : Cond.code ⟨"NightValley", "gives", "(II)I"⟩ prog_1_method_23_code 4 (Option.some FieldType.int) ∈ GW := gw_4 (List.mem_of_getElem? (i := 110) rfl) rfl
theorem gw_4_111 : Cond.methodLink "NightValleyLaw" 137 ⟨"NightValley", "glow", "(I)I"⟩ ∈ GW := gw_4 (List.mem_of_getElem? (i := 111) rfl) rfl
theorem gw_4_112 : Cond.instanceMethod ⟨"NightValley", "glow", "(I)I"⟩ ∈ GW := gw_4 (List.mem_of_getElem? (i := 112) rfl) rfl
theorem gw_4_113 : Cond.selects "NightValley" ⟨"NightValley", "glow", "(I)I"⟩ ⟨"NightValley", "glow", "(I)I"⟩ ∈ GW := gw_4 (List.mem_of_getElem? (i := 113) rfl) rfl
theorem gw_4_114 : Cond.code ⟨"NightValley", "glow", "(I)I"⟩ prog_1_method_24_code 2 (Option.some FieldType.int) ∈ GW := gw_4 (List.mem_of_getElem? (i := 114) rfl) rfl
theorem gw_4_115 : Cond.methodLink "NightValleyLaw" 140 ⟨"NightValleyLaw", "glow", "([I[I[I[I[III)I"⟩ ∈ GW := gw_4 (List.mem_of_getElem? (i := 115) rfl) rfl
theorem gw_4_116 : Cond.static ⟨"NightValleyLaw", "glow", "([I[I[I[I[III)I"⟩ ∈ GW := gw_4 (List.mem_of_getElem? (i := 116) rfl) rfl
theorem gw_4_117 : Cond.code ⟨"NightValleyLaw", "glow", "([I[I[I[I[III)I"⟩ method_13_code 13 (Option.some FieldType.int) ∈ GW := gw_4 (List.mem_of_getElem? (i := 117) rfl) rfl
theorem gw_4_118 : Cond.methodLink "NightValleyLaw" 142 ⟨"NightValley", "glowFrom", "(II)I"⟩ ∈ GW := gw_4 (List.mem_of_getElem? (i := 118) rfl) rfl
theorem gw_4_119 : Cond.instanceMethod ⟨"NightValley", "glowFrom", "(II)I"⟩ ∈ GW := gw_4 (List.mem_of_getElem? (i := 119) rfl) rfl
theorem gw_4_120 : Cond.selects "NightValley" ⟨"NightValley", "glowFrom", "(II)I"⟩ ⟨"NightValley", "glowFrom", "(II)I"⟩ ∈ GW := gw_4 (List.mem_of_getElem? (i := 120) rfl) rfl
theorem gw_4_121 : Cond.code ⟨"NightValley", "glowFrom", "(II)I"⟩ prog_1_method_25_code 7 (Option.some FieldType.int) ∈ GW := gw_4 (List.mem_of_getElem? (i := 121) rfl) rfl
theorem gw_4_122 : Cond.methodLink "NightValley" 274 ⟨"NightValley$Place", "directionOf", "(LNightValley$Place;)I"⟩ ∈ GW := gw_4 (List.mem_of_getElem? (i := 122) rfl) rfl
theorem gw_4_123 : Cond.instanceMethod ⟨"NightValley$Place", "directionOf", "(LNightValley$Place;)I"⟩ ∈ GW := gw_4 (List.mem_of_getElem? (i := 123) rfl) rfl
theorem gw_4_124 : Cond.selects "NightValley$Place" ⟨"NightValley$Place", "directionOf", "(LNightValley$Place;)I"⟩ ⟨"NightValley$Place", "directionOf", "(LNightValley$Place;)I"⟩ ∈ GW := gw_4 (List.mem_of_getElem? (i := 124) rfl) rfl
theorem gw_4_125 : Cond.code ⟨"NightValley$Place", "directionOf", "(LNightValley$Place;)I"⟩ prog_6_method_4_code 4 (Option.some FieldType.int) ∈ GW := gw_4 (List.mem_of_getElem? (i := 125) rfl) rfl
theorem gw_4_126 : Cond.methodLink "NightValleyLaw" 145 ⟨"NightValley", "ground", "(I)I"⟩ ∈ GW := gw_4 (List.mem_of_getElem? (i := 126) rfl) rfl
theorem gw_4_127 : Cond.instanceMethod ⟨"NightValley", "ground", "(I)I"⟩ ∈ GW := gw_4 (List.mem_of_getElem? (i := 127) rfl) rfl
theorem gw_4_128 : Cond.selects "NightValley" ⟨"NightValley", "ground", "(I)I"⟩ ⟨"NightValley", "ground", "(I)I"⟩ ∈ GW := gw_4 (List.mem_of_getElem? (i := 128) rfl) rfl
theorem gw_4_129 : Cond.code ⟨"NightValley", "ground", "(I)I"⟩ prog_1_method_26_code 6 (Option.some FieldType.int) ∈ GW := gw_4 (List.mem_of_getElem? (i := 129) rfl) rfl
theorem gw_4_130 : Cond.methodLink "NightValleyLaw" 148 ⟨"NightValleyLaw", "ground", "([I[I[I[I[II)I"⟩ ∈ GW := gw_4 (List.mem_of_getElem? (i := 130) rfl) rfl
theorem gw_4_131 : Cond.static ⟨"NightValleyLaw", "ground", "([I[I[I[I[II)I"⟩ ∈ GW := gw_4 (List.mem_of_getElem? (i := 131) rfl) rfl
theorem gw_4_132 : Cond.code ⟨"NightValleyLaw", "ground", "([I[I[I[I[II)I"⟩ method_14_code 8 (Option.some FieldType.int) ∈ GW := gw_4 (List.mem_of_getElem? (i := 132) rfl) rfl
theorem gw_4_133 : Cond.constant "NightValleyLaw" 151 (100000 : Int32) ∈ GW := gw_4 (List.mem_of_getElem? (i := 133) rfl) rfl
theorem gw_4_134 : Cond.methodLink "NightValleyLaw" 152 ⟨"NightValleyLaw", "moon", "(I)I"⟩ ∈ GW := gw_4 (List.mem_of_getElem? (i := 134) rfl) rfl
theorem gw_4_135 : Cond.static ⟨"NightValleyLaw", "moon", "(I)I"⟩ ∈ GW := gw_4 (List.mem_of_getElem? (i := 135) rfl) rfl
theorem gw_4_136 : Cond.code ⟨"NightValleyLaw", "moon", "(I)I"⟩ method_16_code 2 (Option.some FieldType.int) ∈ GW := gw_4 (List.mem_of_getElem? (i := 136) rfl) rfl
theorem gw_4_137 : Cond.methodLink "NightValleyLaw" 159 ⟨"NightValleyLaw", "trended", "(LNightValley;I)J"⟩ ∈ GW := gw_4 (List.mem_of_getElem? (i := 137) rfl) rfl
theorem gw_4_138 : Cond.static ⟨"NightValleyLaw", "trended", "(LNightValley;I)J"⟩ ∈ GW := gw_4 (List.mem_of_getElem? (i := 138) rfl) rfl
theorem gw_4_139 : Cond.codeWith ⟨"NightValleyLaw", "trended", "(LNightValley;I)J"⟩ method_6_code 3 (Option.some FieldType.long) [(0, 5, 6, 81)] ∈ GW := gw_4 (List.mem_of_getElem? (i := 139) rfl) rfl
theorem gw_4_140 : Cond.methodLink "NightValleyLaw" 92 ⟨"NightValley", "trend", "(I)J"⟩ ∈ GW := gw_4 (List.mem_of_getElem? (i := 140) rfl) rfl
theorem gw_4_141 : Cond.instanceMethod ⟨"NightValley", "trend", "(I)J"⟩ ∈ GW := gw_4 (List.mem_of_getElem? (i := 141) rfl) rfl
theorem gw_4_142 : Cond.selects "NightValley" ⟨"NightValley", "trend", "(I)J"⟩ ⟨"NightValley", "trend", "(I)J"⟩ ∈ GW := gw_4 (List.mem_of_getElem? (i := 142) rfl) rfl
theorem gw_4_143 : Cond.code ⟨"NightValley", "trend", "(I)J"⟩ prog_1_method_29_code 2 (Option.some FieldType.long) ∈ GW := gw_4 (List.mem_of_getElem? (i := 143) rfl) rfl
theorem gw_4_144 : Cond.methodLink "NightValley" 313 ⟨"NightValley$Meter", "slope", "()J"⟩ ∈ GW := gw_4 (List.mem_of_getElem? (i := 144) rfl) rfl
theorem gw_4_145 : Cond.instanceMethod ⟨"NightValley$Meter", "slope", "()J"⟩ ∈ GW := gw_4 (List.mem_of_getElem? (i := 145) rfl) rfl
theorem gw_4_146 : Cond.selects "NightValley$Meter" ⟨"NightValley$Meter", "slope", "()J"⟩ ⟨"NightValley$Meter", "slope", "()J"⟩ ∈ GW := gw_4 (List.mem_of_getElem? (i := 146) rfl) rfl
theorem gw_4_147 : Cond.code ⟨"NightValley$Meter", "slope", "()J"⟩ prog_5_method_5_code 17 (Option.some FieldType.long) ∈ GW := gw_4 (List.mem_of_getElem? (i := 147) rfl) rfl
theorem gw_4_148 : Cond.methodLink "NightValley$Meter" 56 ⟨"java/util/ArrayList", "get", "(I)Ljava/lang/Object;"⟩ ∈ GW := gw_4 (List.mem_of_getElem? (i := 148) rfl) rfl
theorem gw_4_149 : Cond.classLink "NightValley$Meter" 42 "NightValley$Reading" ∈ GW := gw_4 (List.mem_of_getElem? (i := 149) rfl) rfl
theorem gw_4_150 : Cond.methodLink "NightValley$Meter" 59 ⟨"NightValley$Meter", "corrected", "(LNightValley$Reading;)I"⟩ ∈ GW := gw_4 (List.mem_of_getElem? (i := 150) rfl) rfl
theorem gw_4_151 : Cond.classLink "NightValley$Meter" 63 "java/lang/IllegalStateException" ∈ GW := gw_4 (List.mem_of_getElem? (i := 151) rfl) rfl
theorem gw_4_152 : Cond.methodLink "NightValley$Meter" 65 ⟨"java/lang/IllegalStateException", "<init>", "()V"⟩ ∈ GW := gw_4 (List.mem_of_getElem? (i := 152) rfl) rfl
theorem gw_4_153 : Cond.constantLong "NightValley$Meter" 66 (1000 : Int64) ∈ GW := gw_4 (List.mem_of_getElem? (i := 153) rfl) rfl
theorem gw_4_154 : Cond.constantLong "NightValleyLaw" 96 (-99 : Int64) ∈ GW := gw_4 (List.mem_of_getElem? (i := 154) rfl) rfl
theorem gw_4_155 : Cond.constantLong "NightValleyLaw" 163 (1000 : Int64) ∈ GW := gw_4 (List.mem_of_getElem? (i := 155) rfl) rfl
theorem gw_4_156 : Cond.methodLink "NightValleyLaw" 182 ⟨"NightValleyLaw", "isTold", "(LNightValley;[I[I[I[I[IIII)Z"⟩ ∈ GW := gw_4 (List.mem_of_getElem? (i := 156) rfl) rfl
theorem gw_4_157 : Cond.static ⟨"NightValleyLaw", "isTold", "(LNightValley;[I[I[I[I[IIII)Z"⟩ ∈ GW := gw_4 (List.mem_of_getElem? (i := 157) rfl) rfl
theorem gw_4_158 : Cond.code ⟨"NightValleyLaw", "isTold", "(LNightValley;[I[I[I[I[IIII)Z"⟩ method_18_code 15 (Option.some FieldType.boolean) ∈ GW := gw_4 (List.mem_of_getElem? (i := 158) rfl) rfl
theorem gw_4_159 : Cond.methodLink "NightValleyLaw" 165 ⟨"NightValley", "ridge", "(IZ)Z"⟩ ∈ GW := gw_4 (List.mem_of_getElem? (i := 159) rfl) rfl
theorem gw_4_160 : Cond.instanceMethod ⟨"NightValley", "ridge", "(IZ)Z"⟩ ∈ GW := gw_4 (List.mem_of_getElem? (i := 160) rfl) rfl
theorem gw_4_161 : Cond.selects "NightValley" ⟨"NightValley", "ridge", "(IZ)Z"⟩ ⟨"NightValley", "ridge", "(IZ)Z"⟩ ∈ GW := gw_4 (List.mem_of_getElem? (i := 161) rfl) rfl
theorem gw_4_162 : Cond.code ⟨"NightValley", "ridge", "(IZ)Z"⟩ prog_1_method_2_code 5 (Option.some FieldType.boolean) ∈ GW := gw_4 (List.mem_of_getElem? (i := 162) rfl) rfl
theorem gw_4_163 : Cond.methodLink "NightValleyLaw" 186 ⟨"NightValleyLaw", "isLit", "(LNightValley;[I[I[I[I[I[IIII)Z"⟩ ∈ GW := gw_4 (List.mem_of_getElem? (i := 163) rfl) rfl
theorem gw_4_164 : Cond.static ⟨"NightValleyLaw", "isLit", "(LNightValley;[I[I[I[I[I[IIII)Z"⟩ ∈ GW := gw_4 (List.mem_of_getElem? (i := 164) rfl) rfl
theorem gw_4_165 : Cond.code ⟨"NightValleyLaw", "isLit", "(LNightValley;[I[I[I[I[I[IIII)Z"⟩ method_19_code 25 (Option.some FieldType.boolean) ∈ GW := gw_4 (List.mem_of_getElem? (i := 165) rfl) rfl
theorem gw_4_166 : Cond.methodLink "NightValleyLaw" 169 ⟨"NightValley", "exempt", "(IZ)Z"⟩ ∈ GW := gw_4 (List.mem_of_getElem? (i := 166) rfl) rfl
theorem gw_4_167 : Cond.instanceMethod ⟨"NightValley", "exempt", "(IZ)Z"⟩ ∈ GW := gw_4 (List.mem_of_getElem? (i := 167) rfl) rfl
theorem gw_4_168 : Cond.selects "NightValley" ⟨"NightValley", "exempt", "(IZ)Z"⟩ ⟨"NightValley", "exempt", "(IZ)Z"⟩ ∈ GW := gw_4 (List.mem_of_getElem? (i := 168) rfl) rfl
theorem gw_4_169 : Cond.code ⟨"NightValley", "exempt", "(IZ)Z"⟩ prog_1_method_11_code 5 (Option.some FieldType.boolean) ∈ GW := gw_4 (List.mem_of_getElem? (i := 169) rfl) rfl
theorem gw_4_170 : Cond.methodLink "NightValleyLaw" 190 ⟨"NightValleyLaw", "isRead", "(LNightValley;[I[I[I[I[I[I[IIII)Z"⟩ ∈ GW := gw_4 (List.mem_of_getElem? (i := 170) rfl) rfl
theorem gw_4_171 : Cond.static ⟨"NightValleyLaw", "isRead", "(LNightValley;[I[I[I[I[I[I[IIII)Z"⟩ ∈ GW := gw_4 (List.mem_of_getElem? (i := 171) rfl) rfl
theorem gw_4_172 : Cond.code ⟨"NightValleyLaw", "isRead", "(LNightValley;[I[I[I[I[I[I[IIII)Z"⟩ method_20_code 18 (Option.some FieldType.boolean) ∈ GW := gw_4 (List.mem_of_getElem? (i := 172) rfl) rfl
theorem gw_4_173 : Cond.methodLink "NightValleyLaw" 172 ⟨"NightValley", "audit", "(I)Z"⟩ ∈ GW := gw_4 (List.mem_of_getElem? (i := 173) rfl) rfl
theorem gw_4_174 : Cond.instanceMethod ⟨"NightValley", "audit", "(I)Z"⟩ ∈ GW := gw_4 (List.mem_of_getElem? (i := 174) rfl) rfl
theorem gw_4_175 : Cond.selects "NightValley" ⟨"NightValley", "audit", "(I)Z"⟩ ⟨"NightValley", "audit", "(I)Z"⟩ ∈ GW := gw_4 (List.mem_of_getElem? (i := 175) rfl) rfl
theorem gw_4_176 : Cond.code ⟨"NightValley", "audit", "(I)Z"⟩ prog_1_method_18_code 4 (Option.some FieldType.boolean) ∈ GW := gw_4 (List.mem_of_getElem? (i := 176) rfl) rfl
theorem gw_4_177 : Cond.methodLink "NightValley" 243 ⟨"NightValley$Meter", "keepsTo", "(I)Z"⟩ ∈ GW := gw_4 (List.mem_of_getElem? (i := 177) rfl) rfl
theorem gw_4_178 : Cond.instanceMethod ⟨"NightValley$Meter", "keepsTo", "(I)Z"⟩ ∈ GW := gw_4 (List.mem_of_getElem? (i := 178) rfl) rfl
theorem gw_4_179 : Cond.selects "NightValley$Meter" ⟨"NightValley$Meter", "keepsTo", "(I)Z"⟩ ⟨"NightValley$Meter", "keepsTo", "(I)Z"⟩ ∈ GW := gw_4 (List.mem_of_getElem? (i := 179) rfl) rfl
theorem gw_4_180 : Cond.code ⟨"NightValley$Meter", "keepsTo", "(I)Z"⟩ prog_5_method_4_code 3 (Option.some FieldType.boolean) ∈ GW := gw_4 (List.mem_of_getElem? (i := 180) rfl) rfl
theorem gw_4_181 : Cond.methodLink "NightValley" 247 ⟨"NightValley$Label", "follow", "(Z)V"⟩ ∈ GW := gw_4 (List.mem_of_getElem? (i := 181) rfl) rfl
theorem gw_4_182 : Cond.instanceMethod ⟨"NightValley$Label", "follow", "(Z)V"⟩ ∈ GW := gw_4 (List.mem_of_getElem? (i := 182) rfl) rfl
theorem gw_4_183 : Cond.selects "NightValley$Label" ⟨"NightValley$Label", "follow", "(Z)V"⟩ ⟨"NightValley$Label", "follow", "(Z)V"⟩ ∈ GW := gw_4 (List.mem_of_getElem? (i := 183) rfl) rfl
theorem gw_4_184 : Cond.code ⟨"NightValley$Label", "follow", "(Z)V"⟩ prog_3_method_2_code 2 (Option.none : Option FieldType) ∈ GW := gw_4 (List.mem_of_getElem? (i := 184) rfl) rfl
theorem gw_4_185 : Cond.constant "NightValleyLaw" 181 (60000 : Int32) ∈ GW := gw_4 (List.mem_of_getElem? (i := 185) rfl) rfl
theorem gw_4_186 : Cond.sameMethod "java/lang/Throwable" "java/lang/Throwable" "fillInStackTrace" "(I)Ljava/lang/Throwable;" ∈ GW := gw_4 (List.mem_of_getElem? (i := 186) rfl) rfl
theorem gw_4_202 : Cond.sameMethod "[Ljava/lang/Object;" "java/lang/Object" "getClass" "()Ljava/lang/Class;" ∈ GW := gw_4 (List.mem_of_getElem? (i := 202) rfl) rfl
theorem gw_4_203 : Cond.selects "[Ljava/lang/Object;" ⟨"java/lang/Object", "getClass", "()Ljava/lang/Class;"⟩ ⟨"java/lang/Object", "getClass", "()Ljava/lang/Class;"⟩ ∈ GW := gw_4 (List.mem_of_getElem? (i := 203) rfl) rfl
/-- words of the tables that are kept, but not by the kit's goodWord -/
def NWL : List Cond := [Cond.methodLinkNest "NightValley" 33 ⟨"NightValley$Label", "<init>", "()V"⟩ "NightValley", Cond.methodLinkNest "NightValley" 40 ⟨"NightValley$Walk", "<init>", "()V"⟩ "NightValley", Cond.methodLinkNest "NightValley" 47 ⟨"NightValley$Choice", "<init>", "()V"⟩ "NightValley", Cond.castable "java/lang/IndexOutOfBoundsException" "java/lang/IndexOutOfBoundsException", Cond.declares ⟨"java/lang/RuntimeException", "<init>", "()V"⟩, Cond.declares ⟨"java/lang/RuntimeException", "<init>", "(Ljava/lang/String;)V"⟩, Cond.declares ⟨"java/lang/Exception", "<init>", "()V"⟩, Cond.declares ⟨"java/lang/Exception", "<init>", "(Ljava/lang/String;)V"⟩, Cond.declares ⟨"java/lang/Throwable", "<init>", "()V"⟩, Cond.declares ⟨"java/lang/Throwable", "<init>", "(Ljava/lang/String;)V"⟩, Cond.castable "java/lang/IllegalArgumentException" "java/lang/IllegalArgumentException", Cond.castable "java/lang/IllegalStateException" "java/lang/IllegalStateException", Cond.methodLinkNest "NightValley$Walk" 36 ⟨"NightValley", "weakened", "(III)I"⟩ "NightValley", Cond.methodLinkNest "NightValley$Meter" 49 ⟨"NightValley", "moonAt", "(I)I"⟩ "NightValley", Cond.castable "NightValley" "java/lang/Object", Cond.castable "java/util/ArrayList" "java/lang/Object", Cond.castable "NightValley$Label" "java/lang/Object", Cond.castable "NightValley$Walk" "java/lang/Object", Cond.castable "NightValley$Choice" "java/lang/Object", Cond.castable "NightValley$Zone" "java/lang/Object", Cond.castable "NightValley$Place" "java/lang/Object", Cond.castable "java/lang/IndexOutOfBoundsException" "java/lang/Object", Cond.castable "java/lang/IllegalArgumentException" "java/lang/Object", Cond.castable "java/lang/IllegalStateException" "java/lang/Object", Cond.castable "NightValley$Village" "java/lang/Object", Cond.castable "NightValley$Lamp" "java/lang/Object", Cond.castable "NightValley$Meter" "java/lang/Object", Cond.castable "NightValley$Reading" "java/lang/Object", Cond.castable "java/lang/Throwable" "java/lang/Object", Cond.declares ⟨"java/lang/Object", "getClass", "()Ljava/lang/Class;"⟩, Cond.castable "[I" "java/lang/Object", Cond.castable "[Z" "java/lang/Object", Cond.castable "[Ljava/lang/Object;" "java/lang/Object"]
theorem NWL_in : ∀ w ∈ NWL, w ∈ lw_tbl := by
  unfold NWL
  exact List.forall_mem_cons.mpr ⟨List.mem_append_right _ (List.mem_append_left _ (List.mem_of_getElem? (i := 62) rfl : _ ∈ tables_1_1)), List.forall_mem_cons.mpr ⟨List.mem_append_right _ (List.mem_append_left _ (List.mem_of_getElem? (i := 79) rfl : _ ∈ tables_1_1)), List.forall_mem_cons.mpr ⟨List.mem_append_right _ (List.mem_append_left _ (List.mem_of_getElem? (i := 99) rfl : _ ∈ tables_1_1)), List.forall_mem_cons.mpr ⟨List.mem_append_right _ (List.mem_append_right _ (List.mem_append_left _ (List.mem_of_getElem? (i := 43) rfl : _ ∈ tables_1_2))), List.forall_mem_cons.mpr ⟨List.mem_append_right _ (List.mem_append_right _ (List.mem_append_left _ (List.mem_of_getElem? (i := 44) rfl : _ ∈ tables_1_2))), List.forall_mem_cons.mpr ⟨List.mem_append_right _ (List.mem_append_right _ (List.mem_append_left _ (List.mem_of_getElem? (i := 45) rfl : _ ∈ tables_1_2))), List.forall_mem_cons.mpr ⟨List.mem_append_right _ (List.mem_append_right _ (List.mem_append_left _ (List.mem_of_getElem? (i := 46) rfl : _ ∈ tables_1_2))), List.forall_mem_cons.mpr ⟨List.mem_append_right _ (List.mem_append_right _ (List.mem_append_left _ (List.mem_of_getElem? (i := 47) rfl : _ ∈ tables_1_2))), List.forall_mem_cons.mpr ⟨List.mem_append_right _ (List.mem_append_right _ (List.mem_append_left _ (List.mem_of_getElem? (i := 48) rfl : _ ∈ tables_1_2))), List.forall_mem_cons.mpr ⟨List.mem_append_right _ (List.mem_append_right _ (List.mem_append_left _ (List.mem_of_getElem? (i := 49) rfl : _ ∈ tables_1_2))), List.forall_mem_cons.mpr ⟨List.mem_append_right _ (List.mem_append_right _ (List.mem_append_left _ (List.mem_of_getElem? (i := 203) rfl : _ ∈ tables_1_2))), List.forall_mem_cons.mpr ⟨List.mem_append_right _ (List.mem_append_right _ (List.mem_append_left _ (List.mem_of_getElem? (i := 237) rfl : _ ∈ tables_1_2))), List.forall_mem_cons.mpr ⟨List.mem_append_right _ (List.mem_append_right _ (List.mem_append_right _ (List.mem_append_right _ ((List.mem_of_getElem? (i := 26) rfl : _ ∈ tables_1_4))))), List.forall_mem_cons.mpr ⟨List.mem_append_right _ (List.mem_append_right _ (List.mem_append_right _ (List.mem_append_right _ ((List.mem_of_getElem? (i := 47) rfl : _ ∈ tables_1_4))))), List.forall_mem_cons.mpr ⟨List.mem_append_right _ (List.mem_append_right _ (List.mem_append_right _ (List.mem_append_right _ ((List.mem_of_getElem? (i := 187) rfl : _ ∈ tables_1_4))))), List.forall_mem_cons.mpr ⟨List.mem_append_right _ (List.mem_append_right _ (List.mem_append_right _ (List.mem_append_right _ ((List.mem_of_getElem? (i := 188) rfl : _ ∈ tables_1_4))))), List.forall_mem_cons.mpr ⟨List.mem_append_right _ (List.mem_append_right _ (List.mem_append_right _ (List.mem_append_right _ ((List.mem_of_getElem? (i := 189) rfl : _ ∈ tables_1_4))))), List.forall_mem_cons.mpr ⟨List.mem_append_right _ (List.mem_append_right _ (List.mem_append_right _ (List.mem_append_right _ ((List.mem_of_getElem? (i := 190) rfl : _ ∈ tables_1_4))))), List.forall_mem_cons.mpr ⟨List.mem_append_right _ (List.mem_append_right _ (List.mem_append_right _ (List.mem_append_right _ ((List.mem_of_getElem? (i := 191) rfl : _ ∈ tables_1_4))))), List.forall_mem_cons.mpr ⟨List.mem_append_right _ (List.mem_append_right _ (List.mem_append_right _ (List.mem_append_right _ ((List.mem_of_getElem? (i := 192) rfl : _ ∈ tables_1_4))))), List.forall_mem_cons.mpr ⟨List.mem_append_right _ (List.mem_append_right _ (List.mem_append_right _ (List.mem_append_right _ ((List.mem_of_getElem? (i := 193) rfl : _ ∈ tables_1_4))))), List.forall_mem_cons.mpr ⟨List.mem_append_right _ (List.mem_append_right _ (List.mem_append_right _ (List.mem_append_right _ ((List.mem_of_getElem? (i := 194) rfl : _ ∈ tables_1_4))))), List.forall_mem_cons.mpr ⟨List.mem_append_right _ (List.mem_append_right _ (List.mem_append_right _ (List.mem_append_right _ ((List.mem_of_getElem? (i := 195) rfl : _ ∈ tables_1_4))))), List.forall_mem_cons.mpr ⟨List.mem_append_right _ (List.mem_append_right _ (List.mem_append_right _ (List.mem_append_right _ ((List.mem_of_getElem? (i := 196) rfl : _ ∈ tables_1_4))))), List.forall_mem_cons.mpr ⟨List.mem_append_right _ (List.mem_append_right _ (List.mem_append_right _ (List.mem_append_right _ ((List.mem_of_getElem? (i := 197) rfl : _ ∈ tables_1_4))))), List.forall_mem_cons.mpr ⟨List.mem_append_right _ (List.mem_append_right _ (List.mem_append_right _ (List.mem_append_right _ ((List.mem_of_getElem? (i := 198) rfl : _ ∈ tables_1_4))))), List.forall_mem_cons.mpr ⟨List.mem_append_right _ (List.mem_append_right _ (List.mem_append_right _ (List.mem_append_right _ ((List.mem_of_getElem? (i := 199) rfl : _ ∈ tables_1_4))))), List.forall_mem_cons.mpr ⟨List.mem_append_right _ (List.mem_append_right _ (List.mem_append_right _ (List.mem_append_right _ ((List.mem_of_getElem? (i := 200) rfl : _ ∈ tables_1_4))))), List.forall_mem_cons.mpr ⟨List.mem_append_right _ (List.mem_append_right _ (List.mem_append_right _ (List.mem_append_right _ ((List.mem_of_getElem? (i := 201) rfl : _ ∈ tables_1_4))))), List.forall_mem_cons.mpr ⟨List.mem_append_right _ (List.mem_append_right _ (List.mem_append_right _ (List.mem_append_right _ ((List.mem_of_getElem? (i := 204) rfl : _ ∈ tables_1_4))))), List.forall_mem_cons.mpr ⟨List.mem_append_right _ (List.mem_append_right _ (List.mem_append_right _ (List.mem_append_right _ ((List.mem_of_getElem? (i := 205) rfl : _ ∈ tables_1_4))))), List.forall_mem_cons.mpr ⟨List.mem_append_right _ (List.mem_append_right _ (List.mem_append_right _ (List.mem_append_right _ ((List.mem_of_getElem? (i := 206) rfl : _ ∈ tables_1_4))))), List.forall_mem_cons.mpr ⟨List.mem_append_right _ (List.mem_append_right _ (List.mem_append_right _ (List.mem_append_right _ ((List.mem_of_getElem? (i := 207) rfl : _ ∈ tables_1_4))))), List.forall_mem_nil _⟩⟩⟩⟩⟩⟩⟩⟩⟩⟩⟩⟩⟩⟩⟩⟩⟩⟩⟩⟩⟩⟩⟩⟩⟩⟩⟩⟩⟩⟩⟩⟩⟩
