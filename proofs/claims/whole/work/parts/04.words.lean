/-! the good words of the tables, one by one -/
def WG : List Cond := lw_tbl.filter goodWord
theorem WG_good : ∀ w ∈ WG, goodWord w = true := fun _ h => (List.mem_filter.mp h).2
theorem WG_tbl : ∀ w ∈ WG, w ∈ lw_tbl := fun _ h => (List.mem_filter.mp h).1
theorem WG_in : GoodIn lw_tbl WG := fun w h => ⟨WG_tbl w h, good_of_word (WG_good w h)⟩
theorem WG_1 {w : Cond} (h : w ∈ tables_1_1) (g : goodWord w = true) : w ∈ WG := List.mem_filter.mpr ⟨List.mem_append_right _ (List.mem_append_left _ h), g⟩
theorem WG_2 {w : Cond} (h : w ∈ tables_1_2) (g : goodWord w = true) : w ∈ WG := List.mem_filter.mpr ⟨List.mem_append_right _ (List.mem_append_right _ (List.mem_append_left _ h)), g⟩
theorem WG_3 {w : Cond} (h : w ∈ tables_1_3) (g : goodWord w = true) : w ∈ WG := List.mem_filter.mpr ⟨List.mem_append_right _ (List.mem_append_right _ (List.mem_append_right _ (List.mem_append_left _ h))), g⟩
theorem WG_4 {w : Cond} (h : w ∈ tables_1_4) (g : goodWord w = true) : w ∈ WG := List.mem_filter.mpr ⟨List.mem_append_right _ (List.mem_append_right _ (List.mem_append_right _ (List.mem_append_right _ (List.mem_append_left _ h)))), g⟩
theorem WG_5 {w : Cond} (h : w ∈ tables_1_5) (g : goodWord w = true) : w ∈ WG := List.mem_filter.mpr ⟨List.mem_append_right _ (List.mem_append_right _ (List.mem_append_right _ (List.mem_append_right _ (List.mem_append_right _ h)))), g⟩
theorem WG_s {w : Cond} (h : w ∈ k2_sels lw_privs) (g : goodWord w = true) : w ∈ WG := List.mem_filter.mpr ⟨List.mem_append_left _ h, g⟩
theorem gw1_0 : (Jvm.Cond.initialized "OriginRallyLaw") ∈ WG := WG_1 (List.mem_of_getElem? (i := 0) rfl) rfl
theorem gw1_1 : (Jvm.Cond.initialized "OriginRally") ∈ WG := WG_1 (List.mem_of_getElem? (i := 1) rfl) rfl
theorem gw1_2 : (Jvm.Cond.initialized "OriginRally$Way") ∈ WG := WG_1 (List.mem_of_getElem? (i := 2) rfl) rfl
theorem gw1_3 : (Jvm.Cond.initialized "OriginRallyModel") ∈ WG := WG_1 (List.mem_of_getElem? (i := 3) rfl) rfl
theorem gw1_4 : (Jvm.Cond.initialized "java/lang/Throwable") ∈ WG := WG_1 (List.mem_of_getElem? (i := 4) rfl) rfl
theorem gw1_5 : (Jvm.Cond.initialized "java/lang/Exception") ∈ WG := WG_1 (List.mem_of_getElem? (i := 5) rfl) rfl
theorem gw1_6 : (Jvm.Cond.initialized "java/lang/RuntimeException") ∈ WG := WG_1 (List.mem_of_getElem? (i := 6) rfl) rfl
theorem gw1_7 : (Jvm.Cond.initialized "java/lang/IllegalArgumentException") ∈ WG := WG_1 (List.mem_of_getElem? (i := 7) rfl) rfl
theorem gw1_8 : (Jvm.Cond.initialized "java/lang/IllegalStateException") ∈ WG := WG_1 (List.mem_of_getElem? (i := 8) rfl) rfl
theorem gw1_9 : (Jvm.Cond.initialized "OriginRally$Piece") ∈ WG := WG_1 (List.mem_of_getElem? (i := 9) rfl) rfl
theorem gw1_10 : (Jvm.Cond.initialized "java/lang/IndexOutOfBoundsException") ∈ WG := WG_1 (List.mem_of_getElem? (i := 10) rfl) rfl
theorem gw1_11 : (Jvm.Cond.initialized "OriginRally$Gate") ∈ WG := WG_1 (List.mem_of_getElem? (i := 11) rfl) rfl
theorem gw1_12 : (Jvm.Cond.initialized "OriginRally$Car") ∈ WG := WG_1 (List.mem_of_getElem? (i := 12) rfl) rfl
theorem gw1_13 : (Jvm.Cond.initialized "java/util/NoSuchElementException") ∈ WG := WG_1 (List.mem_of_getElem? (i := 13) rfl) rfl
theorem gw1_14 : (Jvm.Cond.initialized "OriginRally$Part") ∈ WG := WG_1 (List.mem_of_getElem? (i := 14) rfl) rfl
theorem gw1_15 : (Jvm.Cond.initialized "java/lang/Math") ∈ WG := WG_1 (List.mem_of_getElem? (i := 15) rfl) rfl
theorem gw1_16 : (Jvm.Cond.classLink "OriginRallyLaw" 8 "OriginRally") ∈ WG := WG_1 (List.mem_of_getElem? (i := 16) rfl) rfl
theorem gw1_17 : (Jvm.Cond.instantiable "OriginRally" 10) ∈ WG := WG_1 (List.mem_of_getElem? (i := 17) rfl) rfl
theorem gw1_18 : (Jvm.Cond.methodLink "OriginRallyLaw" 102 ⟨"OriginRally", "<init>", "()V"⟩) ∈ WG := WG_1 (List.mem_of_getElem? (i := 18) rfl) rfl
theorem gw1_19 : (Jvm.Cond.instanceMethod ⟨"OriginRally", "<init>", "()V"⟩) ∈ WG := WG_1 (List.mem_of_getElem? (i := 19) rfl) rfl
theorem gw1_20 : (Jvm.Cond.code ⟨"OriginRally", "<init>", "()V"⟩ prog_1_method_1_code 1 (Option.none : Option Jvm.ClassFile.FieldType)) ∈ WG := WG_1 (List.mem_of_getElem? (i := 20) rfl) rfl
theorem gw1_21 : (Jvm.Cond.methodLink "OriginRally" 1 ⟨"java/lang/Object", "<init>", "()V"⟩) ∈ WG := WG_1 (List.mem_of_getElem? (i := 21) rfl) rfl
theorem gw1_22 : (Jvm.Cond.instanceMethod ⟨"java/lang/Object", "<init>", "()V"⟩) ∈ WG := WG_1 (List.mem_of_getElem? (i := 22) rfl) rfl
theorem gw1_23 : (Jvm.Cond.code ⟨"java/lang/Object", "<init>", "()V"⟩ object_method_1_code 1 (Option.none : Option Jvm.ClassFile.FieldType)) ∈ WG := WG_1 (List.mem_of_getElem? (i := 23) rfl) rfl
theorem gw1_24 : (Jvm.Cond.classLink "OriginRally" 13 "OriginRally$Way") ∈ WG := WG_1 (List.mem_of_getElem? (i := 24) rfl) rfl
theorem gw1_25 : (Jvm.Cond.instantiable "OriginRally$Way" 5) ∈ WG := WG_1 (List.mem_of_getElem? (i := 25) rfl) rfl
theorem gw1_26 : (Jvm.Cond.methodLink "OriginRally" 15 ⟨"OriginRally$Way", "<init>", "(II)V"⟩) ∈ WG := WG_1 (List.mem_of_getElem? (i := 26) rfl) rfl
theorem gw1_27 : (Jvm.Cond.instanceMethod ⟨"OriginRally$Way", "<init>", "(II)V"⟩) ∈ WG := WG_1 (List.mem_of_getElem? (i := 27) rfl) rfl
theorem gw1_28 : (Jvm.Cond.code ⟨"OriginRally$Way", "<init>", "(II)V"⟩ prog_6_method_1_code 3 (Option.none : Option Jvm.ClassFile.FieldType)) ∈ WG := WG_1 (List.mem_of_getElem? (i := 28) rfl) rfl
theorem gw1_29 : (Jvm.Cond.methodLink "OriginRally$Way" 3 ⟨"java/lang/Object", "<init>", "()V"⟩) ∈ WG := WG_1 (List.mem_of_getElem? (i := 29) rfl) rfl
theorem gw1_30 : (Jvm.Cond.classLink "OriginRally$Way" 9 "OriginRally$Piece") ∈ WG := WG_1 (List.mem_of_getElem? (i := 30) rfl) rfl
theorem gw1_32 : (Jvm.Cond.fieldLink "OriginRally$Way" 11 "OriginRally$Way" "pieces" "[LOriginRally$Piece;") ∈ WG := WG_1 (List.mem_of_getElem? (i := 32) rfl) rfl
theorem gw1_33 : (Jvm.Cond.fieldLink "OriginRally$Way" 17 "OriginRally$Way" "size" "I") ∈ WG := WG_1 (List.mem_of_getElem? (i := 33) rfl) rfl
theorem gw1_35 : (Jvm.Cond.fieldLink "OriginRally$Way" 21 "OriginRally$Way" "cell" "I") ∈ WG := WG_1 (List.mem_of_getElem? (i := 35) rfl) rfl
theorem gw1_37 : (Jvm.Cond.fieldLink "OriginRally$Way" 24 "OriginRally$Way" "heading" "I") ∈ WG := WG_1 (List.mem_of_getElem? (i := 37) rfl) rfl
theorem gw1_38 : (Jvm.Cond.fieldLink "OriginRally$Way" 27 "OriginRally$Way" "minute" "I") ∈ WG := WG_1 (List.mem_of_getElem? (i := 38) rfl) rfl
theorem gw1_40 : (Jvm.Cond.laysFinal "OriginRally$Way" "OriginRally$Way" "pieces" "[LOriginRally$Piece;") ∈ WG := WG_1 (List.mem_of_getElem? (i := 40) rfl) rfl
theorem gw1_42 : (Jvm.Cond.lays "OriginRally$Way" "OriginRally$Way" "size" "I") ∈ WG := WG_1 (List.mem_of_getElem? (i := 42) rfl) rfl
theorem gw1_44 : (Jvm.Cond.lays "OriginRally$Way" "OriginRally$Way" "cell" "I") ∈ WG := WG_1 (List.mem_of_getElem? (i := 44) rfl) rfl
theorem gw1_46 : (Jvm.Cond.lays "OriginRally$Way" "OriginRally$Way" "heading" "I") ∈ WG := WG_1 (List.mem_of_getElem? (i := 46) rfl) rfl
theorem gw1_48 : (Jvm.Cond.lays "OriginRally$Way" "OriginRally$Way" "minute" "I") ∈ WG := WG_1 (List.mem_of_getElem? (i := 48) rfl) rfl
theorem gw1_51 : (Jvm.Cond.classLink "OriginRally" 22 "OriginRally$Gate") ∈ WG := WG_1 (List.mem_of_getElem? (i := 51) rfl) rfl
theorem gw1_53 : (Jvm.Cond.classLink "OriginRally" 34 "OriginRally$Car") ∈ WG := WG_1 (List.mem_of_getElem? (i := 53) rfl) rfl
theorem gw1_55 : (Jvm.Cond.classLink "OriginRally" 43 "OriginRally$Part") ∈ WG := WG_1 (List.mem_of_getElem? (i := 55) rfl) rfl
theorem gw1_57 : (Jvm.Cond.fieldLink "OriginRally" 7 "OriginRally" "start" "I") ∈ WG := WG_1 (List.mem_of_getElem? (i := 57) rfl) rfl
theorem gw1_58 : (Jvm.Cond.fieldLink "OriginRally" 18 "OriginRally" "book" "LOriginRally$Way;") ∈ WG := WG_1 (List.mem_of_getElem? (i := 58) rfl) rfl
theorem gw1_59 : (Jvm.Cond.fieldLink "OriginRally" 24 "OriginRally" "gateRow" "[LOriginRally$Gate;") ∈ WG := WG_1 (List.mem_of_getElem? (i := 59) rfl) rfl
theorem gw1_60 : (Jvm.Cond.fieldLink "OriginRally" 28 "OriginRally" "gateCount" "I") ∈ WG := WG_1 (List.mem_of_getElem? (i := 60) rfl) rfl
theorem gw1_61 : (Jvm.Cond.fieldLink "OriginRally" 31 "OriginRally" "counting" "I") ∈ WG := WG_1 (List.mem_of_getElem? (i := 61) rfl) rfl
theorem gw1_62 : (Jvm.Cond.fieldLink "OriginRally" 36 "OriginRally" "carRow" "[LOriginRally$Car;") ∈ WG := WG_1 (List.mem_of_getElem? (i := 62) rfl) rfl
theorem gw1_63 : (Jvm.Cond.fieldLink "OriginRally" 40 "OriginRally" "carCount" "I") ∈ WG := WG_1 (List.mem_of_getElem? (i := 63) rfl) rfl
theorem gw1_64 : (Jvm.Cond.fieldLink "OriginRally" 45 "OriginRally" "partRow" "[LOriginRally$Part;") ∈ WG := WG_1 (List.mem_of_getElem? (i := 64) rfl) rfl
theorem gw1_65 : (Jvm.Cond.fieldLink "OriginRally" 49 "OriginRally" "partCount" "I") ∈ WG := WG_1 (List.mem_of_getElem? (i := 65) rfl) rfl
theorem gw1_66 : (Jvm.Cond.fieldLink "OriginRally" 52 "OriginRally" "totals" "[I") ∈ WG := WG_1 (List.mem_of_getElem? (i := 66) rfl) rfl
theorem gw1_67 : (Jvm.Cond.lays "OriginRally" "OriginRally" "start" "I") ∈ WG := WG_1 (List.mem_of_getElem? (i := 67) rfl) rfl
theorem gw1_69 : (Jvm.Cond.laysFinal "OriginRally" "OriginRally" "book" "LOriginRally$Way;") ∈ WG := WG_1 (List.mem_of_getElem? (i := 69) rfl) rfl
theorem gw1_71 : (Jvm.Cond.laysFinal "OriginRally" "OriginRally" "gateRow" "[LOriginRally$Gate;") ∈ WG := WG_1 (List.mem_of_getElem? (i := 71) rfl) rfl
theorem gw1_73 : (Jvm.Cond.lays "OriginRally" "OriginRally" "gateCount" "I") ∈ WG := WG_1 (List.mem_of_getElem? (i := 73) rfl) rfl
theorem gw1_75 : (Jvm.Cond.lays "OriginRally" "OriginRally" "counting" "I") ∈ WG := WG_1 (List.mem_of_getElem? (i := 75) rfl) rfl
theorem gw1_77 : (Jvm.Cond.laysFinal "OriginRally" "OriginRally" "carRow" "[LOriginRally$Car;") ∈ WG := WG_1 (List.mem_of_getElem? (i := 77) rfl) rfl
theorem gw1_79 : (Jvm.Cond.lays "OriginRally" "OriginRally" "carCount" "I") ∈ WG := WG_1 (List.mem_of_getElem? (i := 79) rfl) rfl
theorem gw1_81 : (Jvm.Cond.laysFinal "OriginRally" "OriginRally" "partRow" "[LOriginRally$Part;") ∈ WG := WG_1 (List.mem_of_getElem? (i := 81) rfl) rfl
theorem gw1_83 : (Jvm.Cond.lays "OriginRally" "OriginRally" "partCount" "I") ∈ WG := WG_1 (List.mem_of_getElem? (i := 83) rfl) rfl
theorem gw1_85 : (Jvm.Cond.laysFinal "OriginRally" "OriginRally" "totals" "[I") ∈ WG := WG_1 (List.mem_of_getElem? (i := 85) rfl) rfl
theorem gw1_88 : (Jvm.Cond.arrayClass Jvm.ClassFile.FieldType.int) ∈ WG := WG_1 (List.mem_of_getElem? (i := 88) rfl) rfl
theorem gw1_89 : (Jvm.Cond.methodLink "OriginRallyLaw" 155 ⟨"OriginRally", "gates", "()I"⟩) ∈ WG := WG_1 (List.mem_of_getElem? (i := 89) rfl) rfl
theorem gw1_90 : (Jvm.Cond.instanceMethod ⟨"OriginRally", "gates", "()I"⟩) ∈ WG := WG_1 (List.mem_of_getElem? (i := 90) rfl) rfl
theorem gw1_91 : (Jvm.Cond.selects "OriginRally" ⟨"OriginRally", "gates", "()I"⟩ ⟨"OriginRally", "gates", "()I"⟩) ∈ WG := WG_1 (List.mem_of_getElem? (i := 91) rfl) rfl
theorem gw1_92 : (Jvm.Cond.code ⟨"OriginRally", "gates", "()I"⟩ prog_1_method_15_code 1 (Option.some Jvm.ClassFile.FieldType.int)) ∈ WG := WG_1 (List.mem_of_getElem? (i := 92) rfl) rfl
theorem gw1_93 : (Jvm.Cond.methodLink "OriginRallyLaw" 106 ⟨"OriginRallyLaw", "setStart", "(LOriginRally;I[J)I"⟩) ∈ WG := WG_1 (List.mem_of_getElem? (i := 93) rfl) rfl
theorem gw1_94 : (Jvm.Cond.static ⟨"OriginRallyLaw", "setStart", "(LOriginRally;I[J)I"⟩) ∈ WG := WG_1 (List.mem_of_getElem? (i := 94) rfl) rfl
theorem gw1_95 : (Jvm.Cond.codeWith ⟨"OriginRallyLaw", "setStart", "(LOriginRally;I[J)I"⟩ method_3_code 4 (Option.some Jvm.ClassFile.FieldType.int) [(0, 9, 12, 13), (0, 9, 15, 15)]) ∈ WG := WG_1 (List.mem_of_getElem? (i := 95) rfl) rfl
theorem gw1_96 : (Jvm.Cond.classLink "OriginRallyLaw" 13 "java/lang/IllegalArgumentException") ∈ WG := WG_1 (List.mem_of_getElem? (i := 96) rfl) rfl
theorem gw1_97 : (Jvm.Cond.classLink "OriginRallyLaw" 15 "java/lang/IllegalStateException") ∈ WG := WG_1 (List.mem_of_getElem? (i := 97) rfl) rfl
theorem gw1_98 : (Jvm.Cond.methodLink "OriginRallyLaw" 7 ⟨"OriginRally", "setStart", "(I)I"⟩) ∈ WG := WG_1 (List.mem_of_getElem? (i := 98) rfl) rfl
theorem gw1_99 : (Jvm.Cond.instanceMethod ⟨"OriginRally", "setStart", "(I)I"⟩) ∈ WG := WG_1 (List.mem_of_getElem? (i := 99) rfl) rfl
theorem gw1_100 : (Jvm.Cond.selects "OriginRally" ⟨"OriginRally", "setStart", "(I)I"⟩ ⟨"OriginRally", "setStart", "(I)I"⟩) ∈ WG := WG_1 (List.mem_of_getElem? (i := 100) rfl) rfl
theorem gw1_101 : (Jvm.Cond.code ⟨"OriginRally", "setStart", "(I)I"⟩ prog_1_method_2_code 3 (Option.some Jvm.ClassFile.FieldType.int)) ∈ WG := WG_1 (List.mem_of_getElem? (i := 101) rfl) rfl
theorem gw1_102 : (Jvm.Cond.methodLink "OriginRally" 56 ⟨"OriginRally", "isWithin", "(III)Z"⟩) ∈ WG := WG_1 (List.mem_of_getElem? (i := 102) rfl) rfl
theorem gw1_103 : (Jvm.Cond.static ⟨"OriginRally", "isWithin", "(III)Z"⟩) ∈ WG := WG_1 (List.mem_of_getElem? (i := 103) rfl) rfl
theorem gw1_104 : (Jvm.Cond.code ⟨"OriginRally", "isWithin", "(III)Z"⟩ prog_1_method_29_code 3 (Option.some Jvm.ClassFile.FieldType.boolean)) ∈ WG := WG_1 (List.mem_of_getElem? (i := 104) rfl) rfl
theorem gw1_105 : (Jvm.Cond.methodLink "OriginRally" 60 ⟨"OriginRally", "checkArgument", "(Z)V"⟩) ∈ WG := WG_1 (List.mem_of_getElem? (i := 105) rfl) rfl
theorem gw1_106 : (Jvm.Cond.static ⟨"OriginRally", "checkArgument", "(Z)V"⟩) ∈ WG := WG_1 (List.mem_of_getElem? (i := 106) rfl) rfl
theorem gw1_107 : (Jvm.Cond.code ⟨"OriginRally", "checkArgument", "(Z)V"⟩ prog_1_method_31_code 1 (Option.none : Option Jvm.ClassFile.FieldType)) ∈ WG := WG_1 (List.mem_of_getElem? (i := 107) rfl) rfl
theorem gw1_108 : (Jvm.Cond.classLink "OriginRally" 223 "java/lang/IllegalArgumentException") ∈ WG := WG_1 (List.mem_of_getElem? (i := 108) rfl) rfl
theorem gw1_109 : (Jvm.Cond.instantiable "java/lang/IllegalArgumentException" 6) ∈ WG := WG_1 (List.mem_of_getElem? (i := 109) rfl) rfl
theorem gw1_117 : (Jvm.Cond.selects "java/lang/IllegalArgumentException" ⟨"java/lang/Throwable", "fillInStackTrace", "(I)Ljava/lang/Throwable;"⟩ ⟨"java/lang/Throwable", "fillInStackTrace", "(I)Ljava/lang/Throwable;"⟩) ∈ WG := WG_1 (List.mem_of_getElem? (i := 117) rfl) rfl
theorem gw1_118 : (Jvm.Cond.selects "java/lang/IllegalArgumentException" ⟨"java/lang/Throwable", "fillInStackTrace", "()Ljava/lang/Throwable;"⟩ ⟨"java/lang/Throwable", "fillInStackTrace", "()Ljava/lang/Throwable;"⟩) ∈ WG := WG_1 (List.mem_of_getElem? (i := 118) rfl) rfl
theorem gw1_119 : (Jvm.Cond.lays "java/lang/IllegalArgumentException" "java/lang/Throwable" "cause" "Ljava/lang/Throwable;") ∈ WG := WG_1 (List.mem_of_getElem? (i := 119) rfl) rfl
theorem gw1_120 : (Jvm.Cond.lays "java/lang/Throwable" "java/lang/Throwable" "cause" "Ljava/lang/Throwable;") ∈ WG := WG_1 (List.mem_of_getElem? (i := 120) rfl) rfl
theorem gw1_121 : (Jvm.Cond.lays "java/lang/IllegalArgumentException" "java/lang/Throwable" "stackTrace" "[Ljava/lang/StackTraceElement;") ∈ WG := WG_1 (List.mem_of_getElem? (i := 121) rfl) rfl
theorem gw1_122 : (Jvm.Cond.lays "java/lang/Throwable" "java/lang/Throwable" "stackTrace" "[Ljava/lang/StackTraceElement;") ∈ WG := WG_1 (List.mem_of_getElem? (i := 122) rfl) rfl
theorem gw1_123 : (Jvm.Cond.lays "java/lang/IllegalArgumentException" "java/lang/Throwable" "suppressedExceptions" "Ljava/util/List;") ∈ WG := WG_1 (List.mem_of_getElem? (i := 123) rfl) rfl
theorem gw1_124 : (Jvm.Cond.lays "java/lang/Throwable" "java/lang/Throwable" "suppressedExceptions" "Ljava/util/List;") ∈ WG := WG_1 (List.mem_of_getElem? (i := 124) rfl) rfl
theorem gw1_125 : (Jvm.Cond.lays "java/lang/IllegalArgumentException" "java/lang/Throwable" "detailMessage" "Ljava/lang/String;") ∈ WG := WG_1 (List.mem_of_getElem? (i := 125) rfl) rfl
theorem gw1_126 : (Jvm.Cond.lays "java/lang/Throwable" "java/lang/Throwable" "detailMessage" "Ljava/lang/String;") ∈ WG := WG_1 (List.mem_of_getElem? (i := 126) rfl) rfl
theorem gw1_127 : (Jvm.Cond.lays "java/lang/IllegalArgumentException" "java/lang/Throwable" "backtrace" "Ljava/lang/Object;") ∈ WG := WG_1 (List.mem_of_getElem? (i := 127) rfl) rfl
theorem gw1_128 : (Jvm.Cond.lays "java/lang/Throwable" "java/lang/Throwable" "backtrace" "Ljava/lang/Object;") ∈ WG := WG_1 (List.mem_of_getElem? (i := 128) rfl) rfl
theorem gw1_129 : (Jvm.Cond.fieldLink "java/lang/Throwable" 198 "java/lang/Throwable" "backtrace" "Ljava/lang/Object;") ∈ WG := WG_1 (List.mem_of_getElem? (i := 129) rfl) rfl
theorem gw1_131 : (Jvm.Cond.instanceMethod ⟨"java/lang/Throwable", "<init>", "()V"⟩) ∈ WG := WG_1 (List.mem_of_getElem? (i := 131) rfl) rfl
theorem gw1_132 : (Jvm.Cond.code ⟨"java/lang/Throwable", "<init>", "()V"⟩ prog_17_method_1_code 1 (Option.none : Option Jvm.ClassFile.FieldType)) ∈ WG := WG_1 (List.mem_of_getElem? (i := 132) rfl) rfl
theorem gw1_133 : (Jvm.Cond.methodLink "java/lang/Throwable" 1 ⟨"java/lang/Object", "<init>", "()V"⟩) ∈ WG := WG_1 (List.mem_of_getElem? (i := 133) rfl) rfl
theorem gw1_134 : (Jvm.Cond.fieldLink "java/lang/Throwable" 13 "java/lang/Throwable" "UNASSIGNED_STACK" "[Ljava/lang/StackTraceElement;") ∈ WG := WG_1 (List.mem_of_getElem? (i := 134) rfl) rfl
theorem gw1_136 : (Jvm.Cond.fieldLink "java/lang/Throwable" 20 "java/lang/Throwable" "SUPPRESSED_SENTINEL" "Ljava/util/List;") ∈ WG := WG_1 (List.mem_of_getElem? (i := 136) rfl) rfl
theorem gw1_138 : (Jvm.Cond.methodLink "java/lang/Throwable" 27 ⟨"java/lang/Throwable", "fillInStackTrace", "()Ljava/lang/Throwable;"⟩) ∈ WG := WG_1 (List.mem_of_getElem? (i := 138) rfl) rfl
theorem gw1_139 : (Jvm.Cond.instanceMethod ⟨"java/lang/Throwable", "fillInStackTrace", "()Ljava/lang/Throwable;"⟩) ∈ WG := WG_1 (List.mem_of_getElem? (i := 139) rfl) rfl
theorem gw1_141 : (Jvm.Cond.selects "java/lang/IllegalStateException" ⟨"java/lang/Throwable", "fillInStackTrace", "()Ljava/lang/Throwable;"⟩ ⟨"java/lang/Throwable", "fillInStackTrace", "()Ljava/lang/Throwable;"⟩) ∈ WG := WG_1 (List.mem_of_getElem? (i := 141) rfl) rfl
theorem gw1_142 : (Jvm.Cond.selects "java/lang/IndexOutOfBoundsException" ⟨"java/lang/Throwable", "fillInStackTrace", "()Ljava/lang/Throwable;"⟩ ⟨"java/lang/Throwable", "fillInStackTrace", "()Ljava/lang/Throwable;"⟩) ∈ WG := WG_1 (List.mem_of_getElem? (i := 142) rfl) rfl
theorem gw1_143 : (Jvm.Cond.selects "java/util/NoSuchElementException" ⟨"java/lang/Throwable", "fillInStackTrace", "()Ljava/lang/Throwable;"⟩ ⟨"java/lang/Throwable", "fillInStackTrace", "()Ljava/lang/Throwable;"⟩) ∈ WG := WG_1 (List.mem_of_getElem? (i := 143) rfl) rfl
theorem gw1_145 : (Jvm.Cond.methodLink "java/lang/Throwable" 202 ⟨"java/lang/Throwable", "fillInStackTrace", "(I)Ljava/lang/Throwable;"⟩) ∈ WG := WG_1 (List.mem_of_getElem? (i := 145) rfl) rfl
theorem gw1_147 : (Jvm.Cond.instanceMethod ⟨"java/lang/Throwable", "fillInStackTrace", "(I)Ljava/lang/Throwable;"⟩) ∈ WG := WG_1 (List.mem_of_getElem? (i := 147) rfl) rfl
theorem gw1_148 : (Jvm.Cond.instantiable "java/lang/Throwable" 6) ∈ WG := WG_1 (List.mem_of_getElem? (i := 148) rfl) rfl
theorem gw1_151 : (Jvm.Cond.methodLink "OriginRally" 227 ⟨"java/lang/IllegalArgumentException", "<init>", "(Ljava/lang/String;)V"⟩) ∈ WG := WG_1 (List.mem_of_getElem? (i := 151) rfl) rfl
theorem gw1_152 : (Jvm.Cond.instanceMethod ⟨"java/lang/IllegalArgumentException", "<init>", "(Ljava/lang/String;)V"⟩) ∈ WG := WG_1 (List.mem_of_getElem? (i := 152) rfl) rfl
theorem gw1_153 : (Jvm.Cond.code ⟨"java/lang/IllegalArgumentException", "<init>", "(Ljava/lang/String;)V"⟩ prog_11_method_2_code 2 (Option.none : Option Jvm.ClassFile.FieldType)) ∈ WG := WG_1 (List.mem_of_getElem? (i := 153) rfl) rfl
theorem gw1_154 : (Jvm.Cond.methodLink "java/lang/IllegalArgumentException" 7 ⟨"java/lang/RuntimeException", "<init>", "(Ljava/lang/String;)V"⟩) ∈ WG := WG_1 (List.mem_of_getElem? (i := 154) rfl) rfl
theorem gw1_155 : (Jvm.Cond.instanceMethod ⟨"java/lang/RuntimeException", "<init>", "(Ljava/lang/String;)V"⟩) ∈ WG := WG_1 (List.mem_of_getElem? (i := 155) rfl) rfl
theorem gw1_156 : (Jvm.Cond.code ⟨"java/lang/RuntimeException", "<init>", "(Ljava/lang/String;)V"⟩ prog_15_method_2_code 2 (Option.none : Option Jvm.ClassFile.FieldType)) ∈ WG := WG_1 (List.mem_of_getElem? (i := 156) rfl) rfl
theorem gw1_157 : (Jvm.Cond.methodLink "java/lang/RuntimeException" 7 ⟨"java/lang/Exception", "<init>", "(Ljava/lang/String;)V"⟩) ∈ WG := WG_1 (List.mem_of_getElem? (i := 157) rfl) rfl
theorem gw1_158 : (Jvm.Cond.instanceMethod ⟨"java/lang/Exception", "<init>", "(Ljava/lang/String;)V"⟩) ∈ WG := WG_1 (List.mem_of_getElem? (i := 158) rfl) rfl
theorem gw1_159 : (Jvm.Cond.code ⟨"java/lang/Exception", "<init>", "(Ljava/lang/String;)V"⟩ prog_10_method_2_code 2 (Option.none : Option Jvm.ClassFile.FieldType)) ∈ WG := WG_1 (List.mem_of_getElem? (i := 159) rfl) rfl
theorem gw1_160 : (Jvm.Cond.methodLink "java/lang/Exception" 7 ⟨"java/lang/Throwable", "<init>", "(Ljava/lang/String;)V"⟩) ∈ WG := WG_1 (List.mem_of_getElem? (i := 160) rfl) rfl
theorem gw1_161 : (Jvm.Cond.instanceMethod ⟨"java/lang/Throwable", "<init>", "(Ljava/lang/String;)V"⟩) ∈ WG := WG_1 (List.mem_of_getElem? (i := 161) rfl) rfl
theorem gw1_162 : (Jvm.Cond.code ⟨"java/lang/Throwable", "<init>", "(Ljava/lang/String;)V"⟩ prog_17_method_2_code 2 (Option.none : Option Jvm.ClassFile.FieldType)) ∈ WG := WG_1 (List.mem_of_getElem? (i := 162) rfl) rfl
theorem gw1_163 : (Jvm.Cond.fieldLink "java/lang/Throwable" 198 "java/lang/Throwable" "backtrace" "Ljava/lang/Object;") ∈ WG := WG_1 (List.mem_of_getElem? (i := 163) rfl) rfl
theorem gw1_164 : (Jvm.Cond.fieldLink "java/lang/Throwable" 31 "java/lang/Throwable" "detailMessage" "Ljava/lang/String;") ∈ WG := WG_1 (List.mem_of_getElem? (i := 164) rfl) rfl
theorem gw1_165 : (Jvm.Cond.fieldLink "java/lang/Throwable" 7 "java/lang/Throwable" "cause" "Ljava/lang/Throwable;") ∈ WG := WG_1 (List.mem_of_getElem? (i := 165) rfl) rfl
theorem gw1_166 : (Jvm.Cond.fieldLink "java/lang/Throwable" 17 "java/lang/Throwable" "stackTrace" "[Ljava/lang/StackTraceElement;") ∈ WG := WG_1 (List.mem_of_getElem? (i := 166) rfl) rfl
theorem gw1_167 : (Jvm.Cond.fieldLink "java/lang/Throwable" 24 "java/lang/Throwable" "suppressedExceptions" "Ljava/util/List;") ∈ WG := WG_1 (List.mem_of_getElem? (i := 167) rfl) rfl
theorem gw1_172 : (Jvm.Cond.lays "java/lang/IllegalArgumentException" "java/lang/Throwable" "depth" "I") ∈ WG := WG_1 (List.mem_of_getElem? (i := 172) rfl) rfl
theorem gw1_176 : (Jvm.Cond.arrayClass Jvm.ClassFile.FieldType.byte) ∈ WG := WG_1 (List.mem_of_getElem? (i := 176) rfl) rfl
theorem gw1_177 : (Jvm.Cond.methodLink "OriginRally" 67 ⟨"OriginRally", "checkState", "(Z)V"⟩) ∈ WG := WG_1 (List.mem_of_getElem? (i := 177) rfl) rfl
theorem gw1_178 : (Jvm.Cond.static ⟨"OriginRally", "checkState", "(Z)V"⟩) ∈ WG := WG_1 (List.mem_of_getElem? (i := 178) rfl) rfl
theorem gw1_179 : (Jvm.Cond.code ⟨"OriginRally", "checkState", "(Z)V"⟩ prog_1_method_32_code 1 (Option.none : Option Jvm.ClassFile.FieldType)) ∈ WG := WG_1 (List.mem_of_getElem? (i := 179) rfl) rfl
theorem gw1_180 : (Jvm.Cond.classLink "OriginRally" 228 "java/lang/IllegalStateException") ∈ WG := WG_1 (List.mem_of_getElem? (i := 180) rfl) rfl
theorem gw1_181 : (Jvm.Cond.instantiable "java/lang/IllegalStateException" 6) ∈ WG := WG_1 (List.mem_of_getElem? (i := 181) rfl) rfl
theorem gw1_183 : (Jvm.Cond.selects "java/lang/IllegalStateException" ⟨"java/lang/Throwable", "fillInStackTrace", "(I)Ljava/lang/Throwable;"⟩ ⟨"java/lang/Throwable", "fillInStackTrace", "(I)Ljava/lang/Throwable;"⟩) ∈ WG := WG_1 (List.mem_of_getElem? (i := 183) rfl) rfl
theorem gw1_184 : (Jvm.Cond.lays "java/lang/IllegalStateException" "java/lang/Throwable" "cause" "Ljava/lang/Throwable;") ∈ WG := WG_1 (List.mem_of_getElem? (i := 184) rfl) rfl
theorem gw1_185 : (Jvm.Cond.lays "java/lang/IllegalStateException" "java/lang/Throwable" "stackTrace" "[Ljava/lang/StackTraceElement;") ∈ WG := WG_1 (List.mem_of_getElem? (i := 185) rfl) rfl
theorem gw1_186 : (Jvm.Cond.lays "java/lang/IllegalStateException" "java/lang/Throwable" "suppressedExceptions" "Ljava/util/List;") ∈ WG := WG_1 (List.mem_of_getElem? (i := 186) rfl) rfl
theorem gw1_187 : (Jvm.Cond.lays "java/lang/IllegalStateException" "java/lang/Throwable" "detailMessage" "Ljava/lang/String;") ∈ WG := WG_1 (List.mem_of_getElem? (i := 187) rfl) rfl
theorem gw1_188 : (Jvm.Cond.lays "java/lang/IllegalStateException" "java/lang/Throwable" "backtrace" "Ljava/lang/Object;") ∈ WG := WG_1 (List.mem_of_getElem? (i := 188) rfl) rfl
theorem gw1_190 : (Jvm.Cond.methodLink "OriginRally" 232 ⟨"java/lang/IllegalStateException", "<init>", "(Ljava/lang/String;)V"⟩) ∈ WG := WG_1 (List.mem_of_getElem? (i := 190) rfl) rfl
theorem gw1_191 : (Jvm.Cond.instanceMethod ⟨"java/lang/IllegalStateException", "<init>", "(Ljava/lang/String;)V"⟩) ∈ WG := WG_1 (List.mem_of_getElem? (i := 191) rfl) rfl
theorem gw1_192 : (Jvm.Cond.code ⟨"java/lang/IllegalStateException", "<init>", "(Ljava/lang/String;)V"⟩ prog_12_method_2_code 2 (Option.none : Option Jvm.ClassFile.FieldType)) ∈ WG := WG_1 (List.mem_of_getElem? (i := 192) rfl) rfl
theorem gw1_193 : (Jvm.Cond.methodLink "java/lang/IllegalStateException" 7 ⟨"java/lang/RuntimeException", "<init>", "(Ljava/lang/String;)V"⟩) ∈ WG := WG_1 (List.mem_of_getElem? (i := 193) rfl) rfl
theorem gw1_194 : (Jvm.Cond.lays "java/lang/IllegalStateException" "java/lang/Throwable" "depth" "I") ∈ WG := WG_1 (List.mem_of_getElem? (i := 194) rfl) rfl
theorem gw1_196 : (Jvm.Cond.methodLink "OriginRally" 70 ⟨"OriginRally$Way", "beginIn", "(I)V"⟩) ∈ WG := WG_1 (List.mem_of_getElem? (i := 196) rfl) rfl
theorem gw1_197 : (Jvm.Cond.instanceMethod ⟨"OriginRally$Way", "beginIn", "(I)V"⟩) ∈ WG := WG_1 (List.mem_of_getElem? (i := 197) rfl) rfl
theorem gw1_198 : (Jvm.Cond.selects "OriginRally$Way" ⟨"OriginRally$Way", "beginIn", "(I)V"⟩ ⟨"OriginRally$Way", "beginIn", "(I)V"⟩) ∈ WG := WG_1 (List.mem_of_getElem? (i := 198) rfl) rfl
theorem gw1_199 : (Jvm.Cond.code ⟨"OriginRally$Way", "beginIn", "(I)V"⟩ prog_6_method_2_code 2 (Option.none : Option Jvm.ClassFile.FieldType)) ∈ WG := WG_1 (List.mem_of_getElem? (i := 199) rfl) rfl
theorem gw1_200 : (Jvm.Cond.methodLink "OriginRallyLaw" 115 ⟨"OriginRallyLaw", "addEntry", "(LOriginRally;II[J)I"⟩) ∈ WG := WG_1 (List.mem_of_getElem? (i := 200) rfl) rfl
theorem gw1_201 : (Jvm.Cond.static ⟨"OriginRallyLaw", "addEntry", "(LOriginRally;II[J)I"⟩) ∈ WG := WG_1 (List.mem_of_getElem? (i := 201) rfl) rfl
theorem gw1_202 : (Jvm.Cond.codeWith ⟨"OriginRallyLaw", "addEntry", "(LOriginRally;II[J)I"⟩ method_4_code 5 (Option.some Jvm.ClassFile.FieldType.int) [(0, 10, 13, 13), (0, 10, 17, 15)]) ∈ WG := WG_1 (List.mem_of_getElem? (i := 202) rfl) rfl
theorem gw1_203 : (Jvm.Cond.methodLink "OriginRallyLaw" 17 ⟨"OriginRally", "addEntry", "(II)I"⟩) ∈ WG := WG_1 (List.mem_of_getElem? (i := 203) rfl) rfl
theorem gw1_204 : (Jvm.Cond.instanceMethod ⟨"OriginRally", "addEntry", "(II)I"⟩) ∈ WG := WG_1 (List.mem_of_getElem? (i := 204) rfl) rfl
theorem gw1_205 : (Jvm.Cond.selects "OriginRally" ⟨"OriginRally", "addEntry", "(II)I"⟩ ⟨"OriginRally", "addEntry", "(II)I"⟩) ∈ WG := WG_1 (List.mem_of_getElem? (i := 205) rfl) rfl
theorem gw1_206 : (Jvm.Cond.code ⟨"OriginRally", "addEntry", "(II)I"⟩ prog_1_method_3_code 3 (Option.some Jvm.ClassFile.FieldType.int)) ∈ WG := WG_1 (List.mem_of_getElem? (i := 206) rfl) rfl
theorem gw1_207 : (Jvm.Cond.methodLink "OriginRally" 74 ⟨"OriginRally$Way", "isFull", "()Z"⟩) ∈ WG := WG_1 (List.mem_of_getElem? (i := 207) rfl) rfl
theorem gw1_208 : (Jvm.Cond.instanceMethod ⟨"OriginRally$Way", "isFull", "()Z"⟩) ∈ WG := WG_1 (List.mem_of_getElem? (i := 208) rfl) rfl
theorem gw1_209 : (Jvm.Cond.selects "OriginRally$Way" ⟨"OriginRally$Way", "isFull", "()Z"⟩ ⟨"OriginRally$Way", "isFull", "()Z"⟩) ∈ WG := WG_1 (List.mem_of_getElem? (i := 209) rfl) rfl
theorem gw1_210 : (Jvm.Cond.code ⟨"OriginRally$Way", "isFull", "()Z"⟩ prog_6_method_3_code 1 (Option.some Jvm.ClassFile.FieldType.boolean)) ∈ WG := WG_1 (List.mem_of_getElem? (i := 210) rfl) rfl
theorem gw1_211 : (Jvm.Cond.methodLink "OriginRally" 78 ⟨"OriginRally$Way", "staysOnGround", "(I)Z"⟩) ∈ WG := WG_1 (List.mem_of_getElem? (i := 211) rfl) rfl
theorem gw1_212 : (Jvm.Cond.instanceMethod ⟨"OriginRally$Way", "staysOnGround", "(I)Z"⟩) ∈ WG := WG_1 (List.mem_of_getElem? (i := 212) rfl) rfl
theorem gw1_213 : (Jvm.Cond.selects "OriginRally$Way" ⟨"OriginRally$Way", "staysOnGround", "(I)Z"⟩ ⟨"OriginRally$Way", "staysOnGround", "(I)Z"⟩) ∈ WG := WG_1 (List.mem_of_getElem? (i := 213) rfl) rfl
theorem gw1_214 : (Jvm.Cond.code ⟨"OriginRally$Way", "staysOnGround", "(I)Z"⟩ prog_6_method_4_code 5 (Option.some Jvm.ClassFile.FieldType.boolean)) ∈ WG := WG_1 (List.mem_of_getElem? (i := 214) rfl) rfl
theorem gw1_220 : (Jvm.Cond.methodLink "OriginRally" 82 ⟨"OriginRally$Way", "goOn", "(II)V"⟩) ∈ WG := WG_1 (List.mem_of_getElem? (i := 220) rfl) rfl
theorem gw1_221 : (Jvm.Cond.instanceMethod ⟨"OriginRally$Way", "goOn", "(II)V"⟩) ∈ WG := WG_1 (List.mem_of_getElem? (i := 221) rfl) rfl
theorem gw1_222 : (Jvm.Cond.selects "OriginRally$Way" ⟨"OriginRally$Way", "goOn", "(II)V"⟩ ⟨"OriginRally$Way", "goOn", "(II)V"⟩) ∈ WG := WG_1 (List.mem_of_getElem? (i := 222) rfl) rfl
theorem gw1_223 : (Jvm.Cond.code ⟨"OriginRally$Way", "goOn", "(II)V"⟩ prog_6_method_5_code 3 (Option.none : Option Jvm.ClassFile.FieldType)) ∈ WG := WG_1 (List.mem_of_getElem? (i := 223) rfl) rfl
theorem gw1_224 : (Jvm.Cond.instantiable "OriginRally$Piece" 6) ∈ WG := WG_1 (List.mem_of_getElem? (i := 224) rfl) rfl
theorem gw1_225 : (Jvm.Cond.methodLink "OriginRally$Way" 41 ⟨"OriginRally$Piece", "<init>", "(IIIIIZ)V"⟩) ∈ WG := WG_1 (List.mem_of_getElem? (i := 225) rfl) rfl
theorem gw1_226 : (Jvm.Cond.instanceMethod ⟨"OriginRally$Piece", "<init>", "(IIIIIZ)V"⟩) ∈ WG := WG_1 (List.mem_of_getElem? (i := 226) rfl) rfl
theorem gw1_227 : (Jvm.Cond.code ⟨"OriginRally$Piece", "<init>", "(IIIIIZ)V"⟩ prog_5_method_1_code 7 (Option.none : Option Jvm.ClassFile.FieldType)) ∈ WG := WG_1 (List.mem_of_getElem? (i := 227) rfl) rfl
theorem gw1_228 : (Jvm.Cond.methodLink "OriginRally$Piece" 3 ⟨"java/lang/Object", "<init>", "()V"⟩) ∈ WG := WG_1 (List.mem_of_getElem? (i := 228) rfl) rfl
theorem gw1_229 : (Jvm.Cond.fieldLink "OriginRally$Piece" 9 "OriginRally$Piece" "begin" "I") ∈ WG := WG_1 (List.mem_of_getElem? (i := 229) rfl) rfl
theorem gw1_231 : (Jvm.Cond.fieldLink "OriginRally$Piece" 15 "OriginRally$Piece" "minutes" "I") ∈ WG := WG_1 (List.mem_of_getElem? (i := 231) rfl) rfl
theorem gw1_232 : (Jvm.Cond.fieldLink "OriginRally$Piece" 18 "OriginRally$Piece" "cell" "I") ∈ WG := WG_1 (List.mem_of_getElem? (i := 232) rfl) rfl
theorem gw1_233 : (Jvm.Cond.fieldLink "OriginRally$Piece" 21 "OriginRally$Piece" "heading" "I") ∈ WG := WG_1 (List.mem_of_getElem? (i := 233) rfl) rfl
theorem gw1_235 : (Jvm.Cond.fieldLink "OriginRally$Piece" 24 "OriginRally$Piece" "turn" "I") ∈ WG := WG_1 (List.mem_of_getElem? (i := 235) rfl) rfl
theorem gw1_237 : (Jvm.Cond.fieldLink "OriginRally$Piece" 27 "OriginRally$Piece" "isDriven" "Z") ∈ WG := WG_1 (List.mem_of_getElem? (i := 237) rfl) rfl
theorem gw1_239 : (Jvm.Cond.laysFinal "OriginRally$Piece" "OriginRally$Piece" "begin" "I") ∈ WG := WG_1 (List.mem_of_getElem? (i := 239) rfl) rfl
theorem gw2_1 : (Jvm.Cond.laysFinal "OriginRally$Piece" "OriginRally$Piece" "minutes" "I") ∈ WG := WG_2 (List.mem_of_getElem? (i := 1) rfl) rfl
theorem gw2_3 : (Jvm.Cond.laysFinal "OriginRally$Piece" "OriginRally$Piece" "cell" "I") ∈ WG := WG_2 (List.mem_of_getElem? (i := 3) rfl) rfl
theorem gw2_5 : (Jvm.Cond.laysFinal "OriginRally$Piece" "OriginRally$Piece" "heading" "I") ∈ WG := WG_2 (List.mem_of_getElem? (i := 5) rfl) rfl
theorem gw2_7 : (Jvm.Cond.laysFinal "OriginRally$Piece" "OriginRally$Piece" "turn" "I") ∈ WG := WG_2 (List.mem_of_getElem? (i := 7) rfl) rfl
theorem gw2_9 : (Jvm.Cond.laysFinal "OriginRally$Piece" "OriginRally$Piece" "isDriven" "Z") ∈ WG := WG_2 (List.mem_of_getElem? (i := 9) rfl) rfl
theorem gw2_12 : (Jvm.Cond.methodLink "OriginRally$Way" 44 ⟨"OriginRally$Way", "append", "(LOriginRally$Piece;)V"⟩) ∈ WG := WG_2 (List.mem_of_getElem? (i := 12) rfl) rfl
theorem gw2_14 : (Jvm.Cond.instanceMethod ⟨"OriginRally$Way", "append", "(LOriginRally$Piece;)V"⟩) ∈ WG := WG_2 (List.mem_of_getElem? (i := 14) rfl) rfl
theorem gw2_15 : (Jvm.Cond.code ⟨"OriginRally$Way", "append", "(LOriginRally$Piece;)V"⟩ prog_6_method_7_code 2 (Option.none : Option Jvm.ClassFile.FieldType)) ∈ WG := WG_2 (List.mem_of_getElem? (i := 15) rfl) rfl
theorem gw2_16 : (Jvm.Cond.methodLink "OriginRally$Way" 48 ⟨"OriginRally$Way", "isFull", "()Z"⟩) ∈ WG := WG_2 (List.mem_of_getElem? (i := 16) rfl) rfl
theorem gw2_17 : (Jvm.Cond.methodLink "OriginRally$Way" 52 ⟨"OriginRally$Piece", "end", "()I"⟩) ∈ WG := WG_2 (List.mem_of_getElem? (i := 17) rfl) rfl
theorem gw2_18 : (Jvm.Cond.instanceMethod ⟨"OriginRally$Piece", "end", "()I"⟩) ∈ WG := WG_2 (List.mem_of_getElem? (i := 18) rfl) rfl
theorem gw2_19 : (Jvm.Cond.selects "OriginRally$Piece" ⟨"OriginRally$Piece", "end", "()I"⟩ ⟨"OriginRally$Piece", "end", "()I"⟩) ∈ WG := WG_2 (List.mem_of_getElem? (i := 19) rfl) rfl
theorem gw2_20 : (Jvm.Cond.code ⟨"OriginRally$Piece", "end", "()I"⟩ prog_5_method_2_code 1 (Option.some Jvm.ClassFile.FieldType.int)) ∈ WG := WG_2 (List.mem_of_getElem? (i := 20) rfl) rfl
theorem gw2_21 : (Jvm.Cond.methodLink "OriginRally$Way" 56 ⟨"OriginRally$Piece", "lastCell", "()I"⟩) ∈ WG := WG_2 (List.mem_of_getElem? (i := 21) rfl) rfl
theorem gw2_22 : (Jvm.Cond.instanceMethod ⟨"OriginRally$Piece", "lastCell", "()I"⟩) ∈ WG := WG_2 (List.mem_of_getElem? (i := 22) rfl) rfl
theorem gw2_23 : (Jvm.Cond.selects "OriginRally$Piece" ⟨"OriginRally$Piece", "lastCell", "()I"⟩ ⟨"OriginRally$Piece", "lastCell", "()I"⟩) ∈ WG := WG_2 (List.mem_of_getElem? (i := 23) rfl) rfl
theorem gw2_24 : (Jvm.Cond.code ⟨"OriginRally$Piece", "lastCell", "()I"⟩ prog_5_method_3_code 1 (Option.some Jvm.ClassFile.FieldType.int)) ∈ WG := WG_2 (List.mem_of_getElem? (i := 24) rfl) rfl
theorem gw2_25 : (Jvm.Cond.methodLink "OriginRally$Piece" 31 ⟨"OriginRally$Piece", "cellAfter", "(I)I"⟩) ∈ WG := WG_2 (List.mem_of_getElem? (i := 25) rfl) rfl
theorem gw2_26 : (Jvm.Cond.instanceMethod ⟨"OriginRally$Piece", "cellAfter", "(I)I"⟩) ∈ WG := WG_2 (List.mem_of_getElem? (i := 26) rfl) rfl
theorem gw2_27 : (Jvm.Cond.selects "OriginRally$Piece" ⟨"OriginRally$Piece", "cellAfter", "(I)I"⟩ ⟨"OriginRally$Piece", "cellAfter", "(I)I"⟩) ∈ WG := WG_2 (List.mem_of_getElem? (i := 27) rfl) rfl
theorem gw2_28 : (Jvm.Cond.code ⟨"OriginRally$Piece", "cellAfter", "(I)I"⟩ prog_5_method_4_code 3 (Option.some Jvm.ClassFile.FieldType.int)) ∈ WG := WG_2 (List.mem_of_getElem? (i := 28) rfl) rfl
theorem gw2_31 : (Jvm.Cond.methodLink "OriginRallyLaw" 119 ⟨"OriginRallyLaw", "addGate", "(LOriginRally;II[J)I"⟩) ∈ WG := WG_2 (List.mem_of_getElem? (i := 31) rfl) rfl
theorem gw2_32 : (Jvm.Cond.static ⟨"OriginRallyLaw", "addGate", "(LOriginRally;II[J)I"⟩) ∈ WG := WG_2 (List.mem_of_getElem? (i := 32) rfl) rfl
theorem gw2_33 : (Jvm.Cond.codeWith ⟨"OriginRallyLaw", "addGate", "(LOriginRally;II[J)I"⟩ method_5_code 5 (Option.some Jvm.ClassFile.FieldType.int) [(0, 10, 13, 24), (0, 10, 17, 13), (0, 10, 21, 15)]) ∈ WG := WG_2 (List.mem_of_getElem? (i := 33) rfl) rfl
theorem gw2_34 : (Jvm.Cond.classLink "OriginRallyLaw" 24 "java/lang/IndexOutOfBoundsException") ∈ WG := WG_2 (List.mem_of_getElem? (i := 34) rfl) rfl
theorem gw2_35 : (Jvm.Cond.methodLink "OriginRallyLaw" 21 ⟨"OriginRally", "addGate", "(II)I"⟩) ∈ WG := WG_2 (List.mem_of_getElem? (i := 35) rfl) rfl
theorem gw2_36 : (Jvm.Cond.instanceMethod ⟨"OriginRally", "addGate", "(II)I"⟩) ∈ WG := WG_2 (List.mem_of_getElem? (i := 36) rfl) rfl
theorem gw2_37 : (Jvm.Cond.selects "OriginRally" ⟨"OriginRally", "addGate", "(II)I"⟩ ⟨"OriginRally", "addGate", "(II)I"⟩) ∈ WG := WG_2 (List.mem_of_getElem? (i := 37) rfl) rfl
theorem gw2_38 : (Jvm.Cond.code ⟨"OriginRally", "addGate", "(II)I"⟩ prog_1_method_4_code 5 (Option.some Jvm.ClassFile.FieldType.int)) ∈ WG := WG_2 (List.mem_of_getElem? (i := 38) rfl) rfl
theorem gw2_39 : (Jvm.Cond.methodLink "OriginRally" 88 ⟨"OriginRally", "entryAt", "(I)LOriginRally$Piece;"⟩) ∈ WG := WG_2 (List.mem_of_getElem? (i := 39) rfl) rfl
theorem gw2_41 : (Jvm.Cond.instanceMethod ⟨"OriginRally", "entryAt", "(I)LOriginRally$Piece;"⟩) ∈ WG := WG_2 (List.mem_of_getElem? (i := 41) rfl) rfl
theorem gw2_42 : (Jvm.Cond.code ⟨"OriginRally", "entryAt", "(I)LOriginRally$Piece;"⟩ prog_1_method_36_code 3 (Option.some (Jvm.ClassFile.FieldType.object "OriginRally$Piece"))) ∈ WG := WG_2 (List.mem_of_getElem? (i := 42) rfl) rfl
theorem gw2_43 : (Jvm.Cond.methodLink "OriginRally" 233 ⟨"OriginRally$Way", "pieceAt", "(I)LOriginRally$Piece;"⟩) ∈ WG := WG_2 (List.mem_of_getElem? (i := 43) rfl) rfl
theorem gw2_44 : (Jvm.Cond.instanceMethod ⟨"OriginRally$Way", "pieceAt", "(I)LOriginRally$Piece;"⟩) ∈ WG := WG_2 (List.mem_of_getElem? (i := 44) rfl) rfl
theorem gw2_45 : (Jvm.Cond.selects "OriginRally$Way" ⟨"OriginRally$Way", "pieceAt", "(I)LOriginRally$Piece;"⟩ ⟨"OriginRally$Way", "pieceAt", "(I)LOriginRally$Piece;"⟩) ∈ WG := WG_2 (List.mem_of_getElem? (i := 45) rfl) rfl
theorem gw2_46 : (Jvm.Cond.code ⟨"OriginRally$Way", "pieceAt", "(I)LOriginRally$Piece;"⟩ prog_6_method_8_code 2 (Option.some (Jvm.ClassFile.FieldType.object "OriginRally$Piece"))) ∈ WG := WG_2 (List.mem_of_getElem? (i := 46) rfl) rfl
theorem gw2_47 : (Jvm.Cond.classLink "OriginRally" 218 "java/lang/IndexOutOfBoundsException") ∈ WG := WG_2 (List.mem_of_getElem? (i := 47) rfl) rfl
theorem gw2_48 : (Jvm.Cond.instantiable "java/lang/IndexOutOfBoundsException" 6) ∈ WG := WG_2 (List.mem_of_getElem? (i := 48) rfl) rfl
theorem gw2_50 : (Jvm.Cond.selects "java/lang/IndexOutOfBoundsException" ⟨"java/lang/Throwable", "fillInStackTrace", "(I)Ljava/lang/Throwable;"⟩ ⟨"java/lang/Throwable", "fillInStackTrace", "(I)Ljava/lang/Throwable;"⟩) ∈ WG := WG_2 (List.mem_of_getElem? (i := 50) rfl) rfl
theorem gw2_51 : (Jvm.Cond.lays "java/lang/IndexOutOfBoundsException" "java/lang/Throwable" "cause" "Ljava/lang/Throwable;") ∈ WG := WG_2 (List.mem_of_getElem? (i := 51) rfl) rfl
theorem gw2_52 : (Jvm.Cond.lays "java/lang/IndexOutOfBoundsException" "java/lang/Throwable" "stackTrace" "[Ljava/lang/StackTraceElement;") ∈ WG := WG_2 (List.mem_of_getElem? (i := 52) rfl) rfl
theorem gw2_53 : (Jvm.Cond.lays "java/lang/IndexOutOfBoundsException" "java/lang/Throwable" "suppressedExceptions" "Ljava/util/List;") ∈ WG := WG_2 (List.mem_of_getElem? (i := 53) rfl) rfl
theorem gw2_54 : (Jvm.Cond.lays "java/lang/IndexOutOfBoundsException" "java/lang/Throwable" "detailMessage" "Ljava/lang/String;") ∈ WG := WG_2 (List.mem_of_getElem? (i := 54) rfl) rfl
theorem gw2_55 : (Jvm.Cond.lays "java/lang/IndexOutOfBoundsException" "java/lang/Throwable" "backtrace" "Ljava/lang/Object;") ∈ WG := WG_2 (List.mem_of_getElem? (i := 55) rfl) rfl
theorem gw2_57 : (Jvm.Cond.methodLink "OriginRally" 222 ⟨"java/lang/IndexOutOfBoundsException", "<init>", "(Ljava/lang/String;)V"⟩) ∈ WG := WG_2 (List.mem_of_getElem? (i := 57) rfl) rfl
theorem gw2_58 : (Jvm.Cond.instanceMethod ⟨"java/lang/IndexOutOfBoundsException", "<init>", "(Ljava/lang/String;)V"⟩) ∈ WG := WG_2 (List.mem_of_getElem? (i := 58) rfl) rfl
theorem gw2_59 : (Jvm.Cond.code ⟨"java/lang/IndexOutOfBoundsException", "<init>", "(Ljava/lang/String;)V"⟩ prog_13_method_2_code 2 (Option.none : Option Jvm.ClassFile.FieldType)) ∈ WG := WG_2 (List.mem_of_getElem? (i := 59) rfl) rfl
theorem gw2_60 : (Jvm.Cond.methodLink "java/lang/IndexOutOfBoundsException" 7 ⟨"java/lang/RuntimeException", "<init>", "(Ljava/lang/String;)V"⟩) ∈ WG := WG_2 (List.mem_of_getElem? (i := 60) rfl) rfl
theorem gw2_61 : (Jvm.Cond.lays "java/lang/IndexOutOfBoundsException" "java/lang/Throwable" "depth" "I") ∈ WG := WG_2 (List.mem_of_getElem? (i := 61) rfl) rfl
theorem gw2_63 : (Jvm.Cond.methodLink "OriginRally" 92 ⟨"OriginRally", "lastGateEntry", "()I"⟩) ∈ WG := WG_2 (List.mem_of_getElem? (i := 63) rfl) rfl
theorem gw2_65 : (Jvm.Cond.instanceMethod ⟨"OriginRally", "lastGateEntry", "()I"⟩) ∈ WG := WG_2 (List.mem_of_getElem? (i := 65) rfl) rfl
theorem gw2_66 : (Jvm.Cond.code ⟨"OriginRally", "lastGateEntry", "()I"⟩ prog_1_method_40_code 1 (Option.some Jvm.ClassFile.FieldType.int)) ∈ WG := WG_2 (List.mem_of_getElem? (i := 66) rfl) rfl
theorem gw2_67 : (Jvm.Cond.methodLink "OriginRally" 179 ⟨"OriginRally", "gateAt", "(I)LOriginRally$Gate;"⟩) ∈ WG := WG_2 (List.mem_of_getElem? (i := 67) rfl) rfl
theorem gw2_69 : (Jvm.Cond.instanceMethod ⟨"OriginRally", "gateAt", "(I)LOriginRally$Gate;"⟩) ∈ WG := WG_2 (List.mem_of_getElem? (i := 69) rfl) rfl
theorem gw2_70 : (Jvm.Cond.code ⟨"OriginRally", "gateAt", "(I)LOriginRally$Gate;"⟩ prog_1_method_37_code 3 (Option.some (Jvm.ClassFile.FieldType.object "OriginRally$Gate"))) ∈ WG := WG_2 (List.mem_of_getElem? (i := 70) rfl) rfl
theorem gw2_72 : (Jvm.Cond.instantiable "OriginRally$Gate" 3) ∈ WG := WG_2 (List.mem_of_getElem? (i := 72) rfl) rfl
theorem gw2_73 : (Jvm.Cond.methodLink "OriginRally" 96 ⟨"OriginRally$Piece", "lastCell", "()I"⟩) ∈ WG := WG_2 (List.mem_of_getElem? (i := 73) rfl) rfl
theorem gw2_74 : (Jvm.Cond.methodLink "OriginRally" 101 ⟨"OriginRally$Piece", "end", "()I"⟩) ∈ WG := WG_2 (List.mem_of_getElem? (i := 74) rfl) rfl
theorem gw2_75 : (Jvm.Cond.methodLink "OriginRally" 104 ⟨"OriginRally$Gate", "<init>", "(III)V"⟩) ∈ WG := WG_2 (List.mem_of_getElem? (i := 75) rfl) rfl
theorem gw2_76 : (Jvm.Cond.instanceMethod ⟨"OriginRally$Gate", "<init>", "(III)V"⟩) ∈ WG := WG_2 (List.mem_of_getElem? (i := 76) rfl) rfl
theorem gw2_77 : (Jvm.Cond.code ⟨"OriginRally$Gate", "<init>", "(III)V"⟩ prog_3_method_1_code 4 (Option.none : Option Jvm.ClassFile.FieldType)) ∈ WG := WG_2 (List.mem_of_getElem? (i := 77) rfl) rfl
theorem gw2_78 : (Jvm.Cond.methodLink "OriginRally$Gate" 3 ⟨"java/lang/Object", "<init>", "()V"⟩) ∈ WG := WG_2 (List.mem_of_getElem? (i := 78) rfl) rfl
theorem gw2_79 : (Jvm.Cond.fieldLink "OriginRally$Gate" 9 "OriginRally$Gate" "entry" "I") ∈ WG := WG_2 (List.mem_of_getElem? (i := 79) rfl) rfl
theorem gw2_81 : (Jvm.Cond.fieldLink "OriginRally$Gate" 15 "OriginRally$Gate" "cell" "I") ∈ WG := WG_2 (List.mem_of_getElem? (i := 81) rfl) rfl
theorem gw2_83 : (Jvm.Cond.fieldLink "OriginRally$Gate" 18 "OriginRally$Gate" "dueMinute" "I") ∈ WG := WG_2 (List.mem_of_getElem? (i := 83) rfl) rfl
theorem gw2_85 : (Jvm.Cond.laysFinal "OriginRally$Gate" "OriginRally$Gate" "entry" "I") ∈ WG := WG_2 (List.mem_of_getElem? (i := 85) rfl) rfl
theorem gw2_87 : (Jvm.Cond.laysFinal "OriginRally$Gate" "OriginRally$Gate" "cell" "I") ∈ WG := WG_2 (List.mem_of_getElem? (i := 87) rfl) rfl
theorem gw2_89 : (Jvm.Cond.laysFinal "OriginRally$Gate" "OriginRally$Gate" "dueMinute" "I") ∈ WG := WG_2 (List.mem_of_getElem? (i := 89) rfl) rfl
theorem gw2_92 : (Jvm.Cond.methodLink "OriginRallyLaw" 122 ⟨"OriginRallyLaw", "cut", "(LOriginRally;I[J)I"⟩) ∈ WG := WG_2 (List.mem_of_getElem? (i := 92) rfl) rfl
theorem gw2_93 : (Jvm.Cond.static ⟨"OriginRallyLaw", "cut", "(LOriginRally;I[J)I"⟩) ∈ WG := WG_2 (List.mem_of_getElem? (i := 93) rfl) rfl
theorem gw2_94 : (Jvm.Cond.codeWith ⟨"OriginRallyLaw", "cut", "(LOriginRally;I[J)I"⟩ method_6_code 4 (Option.some Jvm.ClassFile.FieldType.int) [(0, 9, 12, 13)]) ∈ WG := WG_2 (List.mem_of_getElem? (i := 94) rfl) rfl
theorem gw2_95 : (Jvm.Cond.methodLink "OriginRallyLaw" 26 ⟨"OriginRally", "cut", "(I)I"⟩) ∈ WG := WG_2 (List.mem_of_getElem? (i := 95) rfl) rfl
theorem gw2_96 : (Jvm.Cond.instanceMethod ⟨"OriginRally", "cut", "(I)I"⟩) ∈ WG := WG_2 (List.mem_of_getElem? (i := 96) rfl) rfl
theorem gw2_97 : (Jvm.Cond.selects "OriginRally" ⟨"OriginRally", "cut", "(I)I"⟩ ⟨"OriginRally", "cut", "(I)I"⟩) ∈ WG := WG_2 (List.mem_of_getElem? (i := 97) rfl) rfl
theorem gw2_98 : (Jvm.Cond.code ⟨"OriginRally", "cut", "(I)I"⟩ prog_1_method_5_code 3 (Option.some Jvm.ClassFile.FieldType.int)) ∈ WG := WG_2 (List.mem_of_getElem? (i := 98) rfl) rfl
theorem gw2_99 : (Jvm.Cond.methodLink "OriginRallyLaw" 125 ⟨"OriginRallyLaw", "enter", "(LOriginRally;[J)I"⟩) ∈ WG := WG_2 (List.mem_of_getElem? (i := 99) rfl) rfl
theorem gw2_100 : (Jvm.Cond.static ⟨"OriginRallyLaw", "enter", "(LOriginRally;[J)I"⟩) ∈ WG := WG_2 (List.mem_of_getElem? (i := 100) rfl) rfl
theorem gw2_101 : (Jvm.Cond.codeWith ⟨"OriginRallyLaw", "enter", "(LOriginRally;[J)I"⟩ method_7_code 3 (Option.some Jvm.ClassFile.FieldType.int) [(0, 8, 11, 15)]) ∈ WG := WG_2 (List.mem_of_getElem? (i := 101) rfl) rfl
theorem gw2_102 : (Jvm.Cond.methodLink "OriginRallyLaw" 29 ⟨"OriginRally", "enter", "()I"⟩) ∈ WG := WG_2 (List.mem_of_getElem? (i := 102) rfl) rfl
theorem gw2_103 : (Jvm.Cond.instanceMethod ⟨"OriginRally", "enter", "()I"⟩) ∈ WG := WG_2 (List.mem_of_getElem? (i := 103) rfl) rfl
theorem gw2_104 : (Jvm.Cond.selects "OriginRally" ⟨"OriginRally", "enter", "()I"⟩ ⟨"OriginRally", "enter", "()I"⟩) ∈ WG := WG_2 (List.mem_of_getElem? (i := 104) rfl) rfl
theorem gw2_105 : (Jvm.Cond.code ⟨"OriginRally", "enter", "()I"⟩ prog_1_method_6_code 2 (Option.some Jvm.ClassFile.FieldType.int)) ∈ WG := WG_2 (List.mem_of_getElem? (i := 105) rfl) rfl
theorem gw2_106 : (Jvm.Cond.instantiable "OriginRally$Car" 4) ∈ WG := WG_2 (List.mem_of_getElem? (i := 106) rfl) rfl
theorem gw2_107 : (Jvm.Cond.methodLink "OriginRally" 107 ⟨"OriginRally$Car", "<init>", "(I)V"⟩) ∈ WG := WG_2 (List.mem_of_getElem? (i := 107) rfl) rfl
theorem gw2_108 : (Jvm.Cond.instanceMethod ⟨"OriginRally$Car", "<init>", "(I)V"⟩) ∈ WG := WG_2 (List.mem_of_getElem? (i := 108) rfl) rfl
theorem gw2_109 : (Jvm.Cond.code ⟨"OriginRally$Car", "<init>", "(I)V"⟩ prog_2_method_1_code 3 (Option.none : Option Jvm.ClassFile.FieldType)) ∈ WG := WG_2 (List.mem_of_getElem? (i := 109) rfl) rfl
theorem gw2_110 : (Jvm.Cond.methodLink "OriginRally$Car" 3 ⟨"java/lang/Object", "<init>", "()V"⟩) ∈ WG := WG_2 (List.mem_of_getElem? (i := 110) rfl) rfl
theorem gw2_111 : (Jvm.Cond.classLink "OriginRally$Car" 9 "OriginRally$Way") ∈ WG := WG_2 (List.mem_of_getElem? (i := 111) rfl) rfl
theorem gw2_112 : (Jvm.Cond.methodLink "OriginRally$Car" 11 ⟨"OriginRally$Way", "<init>", "(II)V"⟩) ∈ WG := WG_2 (List.mem_of_getElem? (i := 112) rfl) rfl
theorem gw2_113 : (Jvm.Cond.fieldLink "OriginRally$Car" 14 "OriginRally$Car" "track" "LOriginRally$Way;") ∈ WG := WG_2 (List.mem_of_getElem? (i := 113) rfl) rfl
theorem gw2_115 : (Jvm.Cond.fieldLink "OriginRally$Car" 20 "OriginRally$Car" "recorded" "[I") ∈ WG := WG_2 (List.mem_of_getElem? (i := 115) rfl) rfl
theorem gw2_116 : (Jvm.Cond.fieldLink "OriginRally$Car" 24 "OriginRally$Car" "downBy" "I") ∈ WG := WG_2 (List.mem_of_getElem? (i := 116) rfl) rfl
theorem gw2_118 : (Jvm.Cond.fieldLink "OriginRally$Car" 28 "OriginRally$Car" "lostAppeals" "I") ∈ WG := WG_2 (List.mem_of_getElem? (i := 118) rfl) rfl
theorem gw2_120 : (Jvm.Cond.laysFinal "OriginRally$Car" "OriginRally$Car" "track" "LOriginRally$Way;") ∈ WG := WG_2 (List.mem_of_getElem? (i := 120) rfl) rfl
theorem gw2_122 : (Jvm.Cond.laysFinal "OriginRally$Car" "OriginRally$Car" "recorded" "[I") ∈ WG := WG_2 (List.mem_of_getElem? (i := 122) rfl) rfl
theorem gw2_124 : (Jvm.Cond.lays "OriginRally$Car" "OriginRally$Car" "downBy" "I") ∈ WG := WG_2 (List.mem_of_getElem? (i := 124) rfl) rfl
theorem gw2_126 : (Jvm.Cond.lays "OriginRally$Car" "OriginRally$Car" "lostAppeals" "I") ∈ WG := WG_2 (List.mem_of_getElem? (i := 126) rfl) rfl
theorem gw2_129 : (Jvm.Cond.methodLink "OriginRallyLaw" 129 ⟨"OriginRallyLaw", "drive", "(LOriginRally;III[J)I"⟩) ∈ WG := WG_2 (List.mem_of_getElem? (i := 129) rfl) rfl
theorem gw2_130 : (Jvm.Cond.static ⟨"OriginRallyLaw", "drive", "(LOriginRally;III[J)I"⟩) ∈ WG := WG_2 (List.mem_of_getElem? (i := 130) rfl) rfl
theorem gw2_131 : (Jvm.Cond.codeWith ⟨"OriginRallyLaw", "drive", "(LOriginRally;III[J)I"⟩ method_8_code 6 (Option.some Jvm.ClassFile.FieldType.int) [(0, 12, 15, 24), (0, 12, 19, 13), (0, 12, 23, 15)]) ∈ WG := WG_2 (List.mem_of_getElem? (i := 131) rfl) rfl
theorem gw2_132 : (Jvm.Cond.methodLink "OriginRallyLaw" 33 ⟨"OriginRally", "drive", "(III)I"⟩) ∈ WG := WG_2 (List.mem_of_getElem? (i := 132) rfl) rfl
theorem gw2_133 : (Jvm.Cond.instanceMethod ⟨"OriginRally", "drive", "(III)I"⟩) ∈ WG := WG_2 (List.mem_of_getElem? (i := 133) rfl) rfl
theorem gw2_134 : (Jvm.Cond.selects "OriginRally" ⟨"OriginRally", "drive", "(III)I"⟩ ⟨"OriginRally", "drive", "(III)I"⟩) ∈ WG := WG_2 (List.mem_of_getElem? (i := 134) rfl) rfl
theorem gw2_135 : (Jvm.Cond.code ⟨"OriginRally", "drive", "(III)I"⟩ prog_1_method_7_code 5 (Option.some Jvm.ClassFile.FieldType.int)) ∈ WG := WG_2 (List.mem_of_getElem? (i := 135) rfl) rfl
theorem gw2_136 : (Jvm.Cond.methodLink "OriginRally" 109 ⟨"OriginRally", "carAt", "(I)LOriginRally$Car;"⟩) ∈ WG := WG_2 (List.mem_of_getElem? (i := 136) rfl) rfl
theorem gw2_138 : (Jvm.Cond.instanceMethod ⟨"OriginRally", "carAt", "(I)LOriginRally$Car;"⟩) ∈ WG := WG_2 (List.mem_of_getElem? (i := 138) rfl) rfl
theorem gw2_139 : (Jvm.Cond.code ⟨"OriginRally", "carAt", "(I)LOriginRally$Car;"⟩ prog_1_method_38_code 3 (Option.some (Jvm.ClassFile.FieldType.object "OriginRally$Car"))) ∈ WG := WG_2 (List.mem_of_getElem? (i := 139) rfl) rfl
theorem gw2_140 : (Jvm.Cond.methodLink "OriginRally" 212 ⟨"OriginRally", "isCar", "(I)Z"⟩) ∈ WG := WG_2 (List.mem_of_getElem? (i := 140) rfl) rfl
theorem gw2_142 : (Jvm.Cond.instanceMethod ⟨"OriginRally", "isCar", "(I)Z"⟩) ∈ WG := WG_2 (List.mem_of_getElem? (i := 142) rfl) rfl
theorem gw2_143 : (Jvm.Cond.code ⟨"OriginRally", "isCar", "(I)Z"⟩ prog_1_method_33_code 2 (Option.some Jvm.ClassFile.FieldType.boolean)) ∈ WG := WG_2 (List.mem_of_getElem? (i := 143) rfl) rfl
theorem gw2_145 : (Jvm.Cond.methodLink "OriginRally" 113 ⟨"OriginRally$Car", "isDown", "()Z"⟩) ∈ WG := WG_2 (List.mem_of_getElem? (i := 145) rfl) rfl
theorem gw2_146 : (Jvm.Cond.instanceMethod ⟨"OriginRally$Car", "isDown", "()Z"⟩) ∈ WG := WG_2 (List.mem_of_getElem? (i := 146) rfl) rfl
theorem gw2_147 : (Jvm.Cond.selects "OriginRally$Car" ⟨"OriginRally$Car", "isDown", "()Z"⟩ ⟨"OriginRally$Car", "isDown", "()Z"⟩) ∈ WG := WG_2 (List.mem_of_getElem? (i := 147) rfl) rfl
theorem gw2_148 : (Jvm.Cond.code ⟨"OriginRally$Car", "isDown", "()Z"⟩ prog_2_method_2_code 1 (Option.some Jvm.ClassFile.FieldType.boolean)) ∈ WG := WG_2 (List.mem_of_getElem? (i := 148) rfl) rfl
theorem gw2_149 : (Jvm.Cond.methodLink "OriginRallyLaw" 133 ⟨"OriginRallyLaw", "stand", "(LOriginRally;II[J)I"⟩) ∈ WG := WG_2 (List.mem_of_getElem? (i := 149) rfl) rfl
theorem gw2_150 : (Jvm.Cond.static ⟨"OriginRallyLaw", "stand", "(LOriginRally;II[J)I"⟩) ∈ WG := WG_2 (List.mem_of_getElem? (i := 150) rfl) rfl
theorem gw2_151 : (Jvm.Cond.codeWith ⟨"OriginRallyLaw", "stand", "(LOriginRally;II[J)I"⟩ method_9_code 5 (Option.some Jvm.ClassFile.FieldType.int) [(0, 10, 13, 24), (0, 10, 17, 13), (0, 10, 21, 15)]) ∈ WG := WG_2 (List.mem_of_getElem? (i := 151) rfl) rfl
theorem gw2_152 : (Jvm.Cond.methodLink "OriginRallyLaw" 37 ⟨"OriginRally", "stand", "(II)I"⟩) ∈ WG := WG_2 (List.mem_of_getElem? (i := 152) rfl) rfl
theorem gw2_153 : (Jvm.Cond.instanceMethod ⟨"OriginRally", "stand", "(II)I"⟩) ∈ WG := WG_2 (List.mem_of_getElem? (i := 153) rfl) rfl
theorem gw2_154 : (Jvm.Cond.selects "OriginRally" ⟨"OriginRally", "stand", "(II)I"⟩ ⟨"OriginRally", "stand", "(II)I"⟩) ∈ WG := WG_2 (List.mem_of_getElem? (i := 154) rfl) rfl
theorem gw2_155 : (Jvm.Cond.code ⟨"OriginRally", "stand", "(II)I"⟩ prog_1_method_8_code 4 (Option.some Jvm.ClassFile.FieldType.int)) ∈ WG := WG_2 (List.mem_of_getElem? (i := 155) rfl) rfl
theorem gw2_156 : (Jvm.Cond.methodLink "OriginRally" 122 ⟨"OriginRally$Way", "stay", "(I)V"⟩) ∈ WG := WG_2 (List.mem_of_getElem? (i := 156) rfl) rfl
theorem gw2_157 : (Jvm.Cond.instanceMethod ⟨"OriginRally$Way", "stay", "(I)V"⟩) ∈ WG := WG_2 (List.mem_of_getElem? (i := 157) rfl) rfl
theorem gw2_158 : (Jvm.Cond.selects "OriginRally$Way" ⟨"OriginRally$Way", "stay", "(I)V"⟩ ⟨"OriginRally$Way", "stay", "(I)V"⟩) ∈ WG := WG_2 (List.mem_of_getElem? (i := 158) rfl) rfl
theorem gw2_159 : (Jvm.Cond.code ⟨"OriginRally$Way", "stay", "(I)V"⟩ prog_6_method_6_code 2 (Option.none : Option Jvm.ClassFile.FieldType)) ∈ WG := WG_2 (List.mem_of_getElem? (i := 159) rfl) rfl
theorem gw2_160 : (Jvm.Cond.methodLink "OriginRallyLaw" 136 ⟨"OriginRallyLaw", "breakDown", "(LOriginRally;II)I"⟩) ∈ WG := WG_2 (List.mem_of_getElem? (i := 160) rfl) rfl
theorem gw2_161 : (Jvm.Cond.static ⟨"OriginRallyLaw", "breakDown", "(LOriginRally;II)I"⟩) ∈ WG := WG_2 (List.mem_of_getElem? (i := 161) rfl) rfl
theorem gw2_162 : (Jvm.Cond.codeWith ⟨"OriginRallyLaw", "breakDown", "(LOriginRally;II)I"⟩ method_10_code 4 (Option.some Jvm.ClassFile.FieldType.int) [(0, 6, 9, 24), (0, 6, 12, 15)]) ∈ WG := WG_2 (List.mem_of_getElem? (i := 162) rfl) rfl
theorem gw2_163 : (Jvm.Cond.methodLink "OriginRallyLaw" 40 ⟨"OriginRally", "breakDown", "(II)V"⟩) ∈ WG := WG_2 (List.mem_of_getElem? (i := 163) rfl) rfl
theorem gw2_164 : (Jvm.Cond.instanceMethod ⟨"OriginRally", "breakDown", "(II)V"⟩) ∈ WG := WG_2 (List.mem_of_getElem? (i := 164) rfl) rfl
theorem gw2_165 : (Jvm.Cond.selects "OriginRally" ⟨"OriginRally", "breakDown", "(II)V"⟩ ⟨"OriginRally", "breakDown", "(II)V"⟩) ∈ WG := WG_2 (List.mem_of_getElem? (i := 165) rfl) rfl
theorem gw2_166 : (Jvm.Cond.code ⟨"OriginRally", "breakDown", "(II)V"⟩ prog_1_method_9_code 4 (Option.none : Option Jvm.ClassFile.FieldType)) ∈ WG := WG_2 (List.mem_of_getElem? (i := 166) rfl) rfl
theorem gw2_167 : (Jvm.Cond.methodLink "OriginRally" 125 ⟨"OriginRally", "checkIndex", "(Z)V"⟩) ∈ WG := WG_2 (List.mem_of_getElem? (i := 167) rfl) rfl
theorem gw2_168 : (Jvm.Cond.static ⟨"OriginRally", "checkIndex", "(Z)V"⟩) ∈ WG := WG_2 (List.mem_of_getElem? (i := 168) rfl) rfl
theorem gw2_169 : (Jvm.Cond.code ⟨"OriginRally", "checkIndex", "(Z)V"⟩ prog_1_method_30_code 1 (Option.none : Option Jvm.ClassFile.FieldType)) ∈ WG := WG_2 (List.mem_of_getElem? (i := 169) rfl) rfl
theorem gw2_171 : (Jvm.Cond.methodLink "OriginRallyLaw" 140 ⟨"OriginRallyLaw", "mend", "(LOriginRally;I[J)I"⟩) ∈ WG := WG_2 (List.mem_of_getElem? (i := 171) rfl) rfl
theorem gw2_172 : (Jvm.Cond.static ⟨"OriginRallyLaw", "mend", "(LOriginRally;I[J)I"⟩) ∈ WG := WG_2 (List.mem_of_getElem? (i := 172) rfl) rfl
theorem gw2_173 : (Jvm.Cond.codeWith ⟨"OriginRallyLaw", "mend", "(LOriginRally;I[J)I"⟩ method_11_code 4 (Option.some Jvm.ClassFile.FieldType.int) [(0, 9, 12, 24), (0, 9, 15, 15), (0, 9, 18, 47)]) ∈ WG := WG_2 (List.mem_of_getElem? (i := 173) rfl) rfl
theorem gw2_174 : (Jvm.Cond.classLink "OriginRallyLaw" 47 "java/util/NoSuchElementException") ∈ WG := WG_2 (List.mem_of_getElem? (i := 174) rfl) rfl
theorem gw2_175 : (Jvm.Cond.methodLink "OriginRallyLaw" 44 ⟨"OriginRally", "mend", "(I)I"⟩) ∈ WG := WG_2 (List.mem_of_getElem? (i := 175) rfl) rfl
theorem gw2_176 : (Jvm.Cond.instanceMethod ⟨"OriginRally", "mend", "(I)I"⟩) ∈ WG := WG_2 (List.mem_of_getElem? (i := 176) rfl) rfl
theorem gw2_177 : (Jvm.Cond.selects "OriginRally" ⟨"OriginRally", "mend", "(I)I"⟩ ⟨"OriginRally", "mend", "(I)I"⟩) ∈ WG := WG_2 (List.mem_of_getElem? (i := 177) rfl) rfl
theorem gw2_178 : (Jvm.Cond.code ⟨"OriginRally", "mend", "(I)I"⟩ prog_1_method_10_code 4 (Option.some Jvm.ClassFile.FieldType.int)) ∈ WG := WG_2 (List.mem_of_getElem? (i := 178) rfl) rfl
theorem gw2_179 : (Jvm.Cond.methodLink "OriginRally" 131 ⟨"OriginRally", "firstPartIn", "(II)I"⟩) ∈ WG := WG_2 (List.mem_of_getElem? (i := 179) rfl) rfl
theorem gw2_181 : (Jvm.Cond.instanceMethod ⟨"OriginRally", "firstPartIn", "(II)I"⟩) ∈ WG := WG_2 (List.mem_of_getElem? (i := 181) rfl) rfl
theorem gw2_182 : (Jvm.Cond.code ⟨"OriginRally", "firstPartIn", "(II)I"⟩ prog_1_method_42_code 5 (Option.some Jvm.ClassFile.FieldType.int)) ∈ WG := WG_2 (List.mem_of_getElem? (i := 182) rfl) rfl
theorem gw2_183 : (Jvm.Cond.methodLink "OriginRally" 142 ⟨"OriginRally", "partAt", "(I)LOriginRally$Part;"⟩) ∈ WG := WG_2 (List.mem_of_getElem? (i := 183) rfl) rfl
theorem gw2_185 : (Jvm.Cond.instanceMethod ⟨"OriginRally", "partAt", "(I)LOriginRally$Part;"⟩) ∈ WG := WG_2 (List.mem_of_getElem? (i := 185) rfl) rfl
theorem gw2_186 : (Jvm.Cond.code ⟨"OriginRally", "partAt", "(I)LOriginRally$Part;"⟩ prog_1_method_39_code 3 (Option.some (Jvm.ClassFile.FieldType.object "OriginRally$Part"))) ∈ WG := WG_2 (List.mem_of_getElem? (i := 186) rfl) rfl
theorem gw2_188 : (Jvm.Cond.classLink "OriginRally" 135 "java/util/NoSuchElementException") ∈ WG := WG_2 (List.mem_of_getElem? (i := 188) rfl) rfl
theorem gw2_189 : (Jvm.Cond.instantiable "java/util/NoSuchElementException" 6) ∈ WG := WG_2 (List.mem_of_getElem? (i := 189) rfl) rfl
theorem gw2_191 : (Jvm.Cond.selects "java/util/NoSuchElementException" ⟨"java/lang/Throwable", "fillInStackTrace", "(I)Ljava/lang/Throwable;"⟩ ⟨"java/lang/Throwable", "fillInStackTrace", "(I)Ljava/lang/Throwable;"⟩) ∈ WG := WG_2 (List.mem_of_getElem? (i := 191) rfl) rfl
theorem gw2_192 : (Jvm.Cond.lays "java/util/NoSuchElementException" "java/lang/Throwable" "cause" "Ljava/lang/Throwable;") ∈ WG := WG_2 (List.mem_of_getElem? (i := 192) rfl) rfl
theorem gw2_193 : (Jvm.Cond.lays "java/util/NoSuchElementException" "java/lang/Throwable" "stackTrace" "[Ljava/lang/StackTraceElement;") ∈ WG := WG_2 (List.mem_of_getElem? (i := 193) rfl) rfl
theorem gw2_194 : (Jvm.Cond.lays "java/util/NoSuchElementException" "java/lang/Throwable" "suppressedExceptions" "Ljava/util/List;") ∈ WG := WG_2 (List.mem_of_getElem? (i := 194) rfl) rfl
theorem gw2_195 : (Jvm.Cond.lays "java/util/NoSuchElementException" "java/lang/Throwable" "detailMessage" "Ljava/lang/String;") ∈ WG := WG_2 (List.mem_of_getElem? (i := 195) rfl) rfl
theorem gw2_196 : (Jvm.Cond.lays "java/util/NoSuchElementException" "java/lang/Throwable" "backtrace" "Ljava/lang/Object;") ∈ WG := WG_2 (List.mem_of_getElem? (i := 196) rfl) rfl
theorem gw2_198 : (Jvm.Cond.methodLink "OriginRally" 139 ⟨"java/util/NoSuchElementException", "<init>", "(Ljava/lang/String;)V"⟩) ∈ WG := WG_2 (List.mem_of_getElem? (i := 198) rfl) rfl
theorem gw2_199 : (Jvm.Cond.instanceMethod ⟨"java/util/NoSuchElementException", "<init>", "(Ljava/lang/String;)V"⟩) ∈ WG := WG_2 (List.mem_of_getElem? (i := 199) rfl) rfl
theorem gw2_200 : (Jvm.Cond.code ⟨"java/util/NoSuchElementException", "<init>", "(Ljava/lang/String;)V"⟩ prog_18_method_4_code 2 (Option.none : Option Jvm.ClassFile.FieldType)) ∈ WG := WG_2 (List.mem_of_getElem? (i := 200) rfl) rfl
theorem gw2_201 : (Jvm.Cond.methodLink "java/util/NoSuchElementException" 13 ⟨"java/lang/RuntimeException", "<init>", "(Ljava/lang/String;)V"⟩) ∈ WG := WG_2 (List.mem_of_getElem? (i := 201) rfl) rfl
theorem gw2_202 : (Jvm.Cond.lays "java/util/NoSuchElementException" "java/lang/Throwable" "depth" "I") ∈ WG := WG_2 (List.mem_of_getElem? (i := 202) rfl) rfl
theorem gw2_204 : (Jvm.Cond.methodLink "OriginRally" 146 ⟨"OriginRally$Part", "useUp", "(I)V"⟩) ∈ WG := WG_2 (List.mem_of_getElem? (i := 204) rfl) rfl
theorem gw2_205 : (Jvm.Cond.instanceMethod ⟨"OriginRally$Part", "useUp", "(I)V"⟩) ∈ WG := WG_2 (List.mem_of_getElem? (i := 205) rfl) rfl
theorem gw2_206 : (Jvm.Cond.selects "OriginRally$Part" ⟨"OriginRally$Part", "useUp", "(I)V"⟩ ⟨"OriginRally$Part", "useUp", "(I)V"⟩) ∈ WG := WG_2 (List.mem_of_getElem? (i := 206) rfl) rfl
theorem gw2_207 : (Jvm.Cond.code ⟨"OriginRally$Part", "useUp", "(I)V"⟩ prog_4_method_2_code 2 (Option.none : Option Jvm.ClassFile.FieldType)) ∈ WG := WG_2 (List.mem_of_getElem? (i := 207) rfl) rfl
theorem gw2_208 : (Jvm.Cond.methodLink "OriginRallyLaw" 143 ⟨"OriginRallyLaw", "bring", "(LOriginRally;II[J)I"⟩) ∈ WG := WG_2 (List.mem_of_getElem? (i := 208) rfl) rfl
theorem gw2_209 : (Jvm.Cond.static ⟨"OriginRallyLaw", "bring", "(LOriginRally;II[J)I"⟩) ∈ WG := WG_2 (List.mem_of_getElem? (i := 209) rfl) rfl
theorem gw2_210 : (Jvm.Cond.codeWith ⟨"OriginRallyLaw", "bring", "(LOriginRally;II[J)I"⟩ method_12_code 5 (Option.some Jvm.ClassFile.FieldType.int) [(0, 10, 13, 24), (0, 10, 17, 15)]) ∈ WG := WG_2 (List.mem_of_getElem? (i := 210) rfl) rfl
theorem gw2_211 : (Jvm.Cond.methodLink "OriginRallyLaw" 49 ⟨"OriginRally", "bring", "(II)I"⟩) ∈ WG := WG_2 (List.mem_of_getElem? (i := 211) rfl) rfl
theorem gw2_212 : (Jvm.Cond.instanceMethod ⟨"OriginRally", "bring", "(II)I"⟩) ∈ WG := WG_2 (List.mem_of_getElem? (i := 212) rfl) rfl
theorem gw2_213 : (Jvm.Cond.selects "OriginRally" ⟨"OriginRally", "bring", "(II)I"⟩ ⟨"OriginRally", "bring", "(II)I"⟩) ∈ WG := WG_2 (List.mem_of_getElem? (i := 213) rfl) rfl
theorem gw2_214 : (Jvm.Cond.code ⟨"OriginRally", "bring", "(II)I"⟩ prog_1_method_11_code 4 (Option.some Jvm.ClassFile.FieldType.int)) ∈ WG := WG_2 (List.mem_of_getElem? (i := 214) rfl) rfl
theorem gw2_215 : (Jvm.Cond.methodLink "OriginRally" 149 ⟨"OriginRally", "isPlace", "(I)Z"⟩) ∈ WG := WG_2 (List.mem_of_getElem? (i := 215) rfl) rfl
theorem gw2_217 : (Jvm.Cond.instanceMethod ⟨"OriginRally", "isPlace", "(I)Z"⟩) ∈ WG := WG_2 (List.mem_of_getElem? (i := 217) rfl) rfl
theorem gw2_218 : (Jvm.Cond.code ⟨"OriginRally", "isPlace", "(I)Z"⟩ prog_1_method_34_code 2 (Option.some Jvm.ClassFile.FieldType.boolean)) ∈ WG := WG_2 (List.mem_of_getElem? (i := 218) rfl) rfl
theorem gw2_219 : (Jvm.Cond.instantiable "OriginRally$Part" 4) ∈ WG := WG_2 (List.mem_of_getElem? (i := 219) rfl) rfl
theorem gw2_220 : (Jvm.Cond.methodLink "OriginRally" 152 ⟨"OriginRally$Part", "<init>", "(II)V"⟩) ∈ WG := WG_2 (List.mem_of_getElem? (i := 220) rfl) rfl
theorem gw2_221 : (Jvm.Cond.instanceMethod ⟨"OriginRally$Part", "<init>", "(II)V"⟩) ∈ WG := WG_2 (List.mem_of_getElem? (i := 221) rfl) rfl
theorem gw2_222 : (Jvm.Cond.code ⟨"OriginRally$Part", "<init>", "(II)V"⟩ prog_4_method_1_code 3 (Option.none : Option Jvm.ClassFile.FieldType)) ∈ WG := WG_2 (List.mem_of_getElem? (i := 222) rfl) rfl
theorem gw2_223 : (Jvm.Cond.methodLink "OriginRally$Part" 3 ⟨"java/lang/Object", "<init>", "()V"⟩) ∈ WG := WG_2 (List.mem_of_getElem? (i := 223) rfl) rfl
theorem gw2_224 : (Jvm.Cond.fieldLink "OriginRally$Part" 9 "OriginRally$Part" "kind" "I") ∈ WG := WG_2 (List.mem_of_getElem? (i := 224) rfl) rfl
theorem gw2_226 : (Jvm.Cond.fieldLink "OriginRally$Part" 15 "OriginRally$Part" "owner" "I") ∈ WG := WG_2 (List.mem_of_getElem? (i := 226) rfl) rfl
theorem gw2_227 : (Jvm.Cond.fieldLink "OriginRally$Part" 18 "OriginRally$Part" "place" "I") ∈ WG := WG_2 (List.mem_of_getElem? (i := 227) rfl) rfl
theorem gw2_229 : (Jvm.Cond.fieldLink "OriginRally$Part" 21 "OriginRally$Part" "user" "I") ∈ WG := WG_2 (List.mem_of_getElem? (i := 229) rfl) rfl
theorem gw2_230 : (Jvm.Cond.laysFinal "OriginRally$Part" "OriginRally$Part" "kind" "I") ∈ WG := WG_2 (List.mem_of_getElem? (i := 230) rfl) rfl
theorem gw2_232 : (Jvm.Cond.laysFinal "OriginRally$Part" "OriginRally$Part" "owner" "I") ∈ WG := WG_2 (List.mem_of_getElem? (i := 232) rfl) rfl
theorem gw2_234 : (Jvm.Cond.lays "OriginRally$Part" "OriginRally$Part" "place" "I") ∈ WG := WG_2 (List.mem_of_getElem? (i := 234) rfl) rfl
theorem gw2_236 : (Jvm.Cond.lays "OriginRally$Part" "OriginRally$Part" "user" "I") ∈ WG := WG_2 (List.mem_of_getElem? (i := 236) rfl) rfl
theorem gw2_239 : (Jvm.Cond.methodLink "OriginRallyLaw" 146 ⟨"OriginRallyLaw", "hand", "(LOriginRally;II[J)I"⟩) ∈ WG := WG_2 (List.mem_of_getElem? (i := 239) rfl) rfl
theorem gw3_0 : (Jvm.Cond.static ⟨"OriginRallyLaw", "hand", "(LOriginRally;II[J)I"⟩) ∈ WG := WG_3 (List.mem_of_getElem? (i := 0) rfl) rfl
theorem gw3_1 : (Jvm.Cond.codeWith ⟨"OriginRallyLaw", "hand", "(LOriginRally;II[J)I"⟩ method_13_code 5 (Option.some Jvm.ClassFile.FieldType.int) [(0, 10, 13, 24), (0, 10, 17, 15)]) ∈ WG := WG_3 (List.mem_of_getElem? (i := 1) rfl) rfl
theorem gw3_2 : (Jvm.Cond.methodLink "OriginRallyLaw" 52 ⟨"OriginRally", "hand", "(II)I"⟩) ∈ WG := WG_3 (List.mem_of_getElem? (i := 2) rfl) rfl
theorem gw3_3 : (Jvm.Cond.instanceMethod ⟨"OriginRally", "hand", "(II)I"⟩) ∈ WG := WG_3 (List.mem_of_getElem? (i := 3) rfl) rfl
theorem gw3_4 : (Jvm.Cond.selects "OriginRally" ⟨"OriginRally", "hand", "(II)I"⟩ ⟨"OriginRally", "hand", "(II)I"⟩) ∈ WG := WG_3 (List.mem_of_getElem? (i := 4) rfl) rfl
theorem gw3_5 : (Jvm.Cond.code ⟨"OriginRally", "hand", "(II)I"⟩ prog_1_method_12_code 5 (Option.some Jvm.ClassFile.FieldType.int)) ∈ WG := WG_3 (List.mem_of_getElem? (i := 5) rfl) rfl
theorem gw3_6 : (Jvm.Cond.methodLink "OriginRally" 156 ⟨"OriginRally", "cellOfPlace", "(I)I"⟩) ∈ WG := WG_3 (List.mem_of_getElem? (i := 6) rfl) rfl
theorem gw3_8 : (Jvm.Cond.instanceMethod ⟨"OriginRally", "cellOfPlace", "(I)I"⟩) ∈ WG := WG_3 (List.mem_of_getElem? (i := 8) rfl) rfl
theorem gw3_9 : (Jvm.Cond.code ⟨"OriginRally", "cellOfPlace", "(I)I"⟩ prog_1_method_41_code 2 (Option.some Jvm.ClassFile.FieldType.int)) ∈ WG := WG_3 (List.mem_of_getElem? (i := 9) rfl) rfl
theorem gw3_10 : (Jvm.Cond.methodLink "OriginRallyLaw" 149 ⟨"OriginRallyLaw", "record", "(LOriginRally;III[J)I"⟩) ∈ WG := WG_3 (List.mem_of_getElem? (i := 10) rfl) rfl
theorem gw3_11 : (Jvm.Cond.static ⟨"OriginRallyLaw", "record", "(LOriginRally;III[J)I"⟩) ∈ WG := WG_3 (List.mem_of_getElem? (i := 11) rfl) rfl
theorem gw3_12 : (Jvm.Cond.codeWith ⟨"OriginRallyLaw", "record", "(LOriginRally;III[J)I"⟩ method_14_code 6 (Option.some Jvm.ClassFile.FieldType.int) [(0, 12, 15, 24), (0, 12, 19, 13)]) ∈ WG := WG_3 (List.mem_of_getElem? (i := 12) rfl) rfl
theorem gw3_13 : (Jvm.Cond.methodLink "OriginRallyLaw" 55 ⟨"OriginRally", "record", "(III)I"⟩) ∈ WG := WG_3 (List.mem_of_getElem? (i := 13) rfl) rfl
theorem gw3_14 : (Jvm.Cond.instanceMethod ⟨"OriginRally", "record", "(III)I"⟩) ∈ WG := WG_3 (List.mem_of_getElem? (i := 14) rfl) rfl
theorem gw3_15 : (Jvm.Cond.selects "OriginRally" ⟨"OriginRally", "record", "(III)I"⟩ ⟨"OriginRally", "record", "(III)I"⟩) ∈ WG := WG_3 (List.mem_of_getElem? (i := 15) rfl) rfl
theorem gw3_16 : (Jvm.Cond.code ⟨"OriginRally", "record", "(III)I"⟩ prog_1_method_13_code 6 (Option.some Jvm.ClassFile.FieldType.int)) ∈ WG := WG_3 (List.mem_of_getElem? (i := 16) rfl) rfl
theorem gw3_17 : (Jvm.Cond.methodLink "OriginRally" 160 ⟨"OriginRally", "checkGate", "(I)V"⟩) ∈ WG := WG_3 (List.mem_of_getElem? (i := 17) rfl) rfl
theorem gw3_19 : (Jvm.Cond.instanceMethod ⟨"OriginRally", "checkGate", "(I)V"⟩) ∈ WG := WG_3 (List.mem_of_getElem? (i := 19) rfl) rfl
theorem gw3_20 : (Jvm.Cond.code ⟨"OriginRally", "checkGate", "(I)V"⟩ prog_1_method_35_code 2 (Option.none : Option Jvm.ClassFile.FieldType)) ∈ WG := WG_3 (List.mem_of_getElem? (i := 20) rfl) rfl
theorem gw3_21 : (Jvm.Cond.methodLink "OriginRally" 163 ⟨"OriginRally", "passMinute", "(LOriginRally$Car;I)I"⟩) ∈ WG := WG_3 (List.mem_of_getElem? (i := 21) rfl) rfl
theorem gw3_23 : (Jvm.Cond.instanceMethod ⟨"OriginRally", "passMinute", "(LOriginRally$Car;I)I"⟩) ∈ WG := WG_3 (List.mem_of_getElem? (i := 23) rfl) rfl
theorem gw3_24 : (Jvm.Cond.code ⟨"OriginRally", "passMinute", "(LOriginRally$Car;I)I"⟩ prog_1_method_43_code 6 (Option.some Jvm.ClassFile.FieldType.int)) ∈ WG := WG_3 (List.mem_of_getElem? (i := 24) rfl) rfl
theorem gw3_25 : (Jvm.Cond.methodLink "OriginRally" 250 ⟨"OriginRally$Way", "firstMinuteIn", "(II)I"⟩) ∈ WG := WG_3 (List.mem_of_getElem? (i := 25) rfl) rfl
theorem gw3_26 : (Jvm.Cond.instanceMethod ⟨"OriginRally$Way", "firstMinuteIn", "(II)I"⟩) ∈ WG := WG_3 (List.mem_of_getElem? (i := 26) rfl) rfl
theorem gw3_27 : (Jvm.Cond.selects "OriginRally$Way" ⟨"OriginRally$Way", "firstMinuteIn", "(II)I"⟩ ⟨"OriginRally$Way", "firstMinuteIn", "(II)I"⟩) ∈ WG := WG_3 (List.mem_of_getElem? (i := 27) rfl) rfl
theorem gw3_28 : (Jvm.Cond.code ⟨"OriginRally$Way", "firstMinuteIn", "(II)I"⟩ prog_6_method_9_code 6 (Option.some Jvm.ClassFile.FieldType.int)) ∈ WG := WG_3 (List.mem_of_getElem? (i := 28) rfl) rfl
theorem gw3_29 : (Jvm.Cond.methodLink "OriginRally$Way" 63 ⟨"OriginRally$Way", "pieceAt", "(I)LOriginRally$Piece;"⟩) ∈ WG := WG_3 (List.mem_of_getElem? (i := 29) rfl) rfl
theorem gw3_30 : (Jvm.Cond.methodLink "OriginRally$Way" 67 ⟨"OriginRally$Piece", "firstMinuteIn", "(II)I"⟩) ∈ WG := WG_3 (List.mem_of_getElem? (i := 30) rfl) rfl
theorem gw3_31 : (Jvm.Cond.instanceMethod ⟨"OriginRally$Piece", "firstMinuteIn", "(II)I"⟩) ∈ WG := WG_3 (List.mem_of_getElem? (i := 31) rfl) rfl
theorem gw3_32 : (Jvm.Cond.selects "OriginRally$Piece" ⟨"OriginRally$Piece", "firstMinuteIn", "(II)I"⟩ ⟨"OriginRally$Piece", "firstMinuteIn", "(II)I"⟩) ∈ WG := WG_3 (List.mem_of_getElem? (i := 32) rfl) rfl
theorem gw3_33 : (Jvm.Cond.code ⟨"OriginRally$Piece", "firstMinuteIn", "(II)I"⟩ prog_5_method_5_code 4 (Option.some Jvm.ClassFile.FieldType.int)) ∈ WG := WG_3 (List.mem_of_getElem? (i := 33) rfl) rfl
theorem gw3_34 : (Jvm.Cond.methodLink "OriginRally$Piece" 42 ⟨"OriginRally$Piece", "end", "()I"⟩) ∈ WG := WG_3 (List.mem_of_getElem? (i := 34) rfl) rfl
theorem gw3_35 : (Jvm.Cond.methodLink "OriginRally$Piece" 46 ⟨"java/lang/Math", "max", "(II)I"⟩) ∈ WG := WG_3 (List.mem_of_getElem? (i := 35) rfl) rfl
theorem gw3_36 : (Jvm.Cond.static ⟨"java/lang/Math", "max", "(II)I"⟩) ∈ WG := WG_3 (List.mem_of_getElem? (i := 36) rfl) rfl
theorem gw3_37 : (Jvm.Cond.code ⟨"java/lang/Math", "max", "(II)I"⟩ prog_14_method_65_code 2 (Option.some Jvm.ClassFile.FieldType.int)) ∈ WG := WG_3 (List.mem_of_getElem? (i := 37) rfl) rfl
theorem gw3_38 : (Jvm.Cond.methodLink "OriginRally$Piece" 52 ⟨"OriginRally$Piece", "cellsOnTo", "(I)I"⟩) ∈ WG := WG_3 (List.mem_of_getElem? (i := 38) rfl) rfl
theorem gw3_40 : (Jvm.Cond.instanceMethod ⟨"OriginRally$Piece", "cellsOnTo", "(I)I"⟩) ∈ WG := WG_3 (List.mem_of_getElem? (i := 40) rfl) rfl
theorem gw3_41 : (Jvm.Cond.code ⟨"OriginRally$Piece", "cellsOnTo", "(I)I"⟩ prog_5_method_6_code 5 (Option.some Jvm.ClassFile.FieldType.int)) ∈ WG := WG_3 (List.mem_of_getElem? (i := 41) rfl) rfl
theorem gw3_43 : (Jvm.Cond.methodLink "OriginRally" 200 ⟨"java/lang/Math", "max", "(II)I"⟩) ∈ WG := WG_3 (List.mem_of_getElem? (i := 43) rfl) rfl
theorem gw3_44 : (Jvm.Cond.methodLink "OriginRally" 167 ⟨"OriginRally$Car", "timeAt", "(II)I"⟩) ∈ WG := WG_3 (List.mem_of_getElem? (i := 44) rfl) rfl
theorem gw3_45 : (Jvm.Cond.instanceMethod ⟨"OriginRally$Car", "timeAt", "(II)I"⟩) ∈ WG := WG_3 (List.mem_of_getElem? (i := 45) rfl) rfl
theorem gw3_46 : (Jvm.Cond.selects "OriginRally$Car" ⟨"OriginRally$Car", "timeAt", "(II)I"⟩ ⟨"OriginRally$Car", "timeAt", "(II)I"⟩) ∈ WG := WG_3 (List.mem_of_getElem? (i := 46) rfl) rfl
theorem gw3_47 : (Jvm.Cond.code ⟨"OriginRally$Car", "timeAt", "(II)I"⟩ prog_2_method_5_code 4 (Option.some Jvm.ClassFile.FieldType.int)) ∈ WG := WG_3 (List.mem_of_getElem? (i := 47) rfl) rfl
theorem gw3_48 : (Jvm.Cond.methodLink "OriginRally$Car" 35 ⟨"OriginRally$Car", "recordAt", "(I)I"⟩) ∈ WG := WG_3 (List.mem_of_getElem? (i := 48) rfl) rfl
theorem gw3_49 : (Jvm.Cond.instanceMethod ⟨"OriginRally$Car", "recordAt", "(I)I"⟩) ∈ WG := WG_3 (List.mem_of_getElem? (i := 49) rfl) rfl
theorem gw3_50 : (Jvm.Cond.selects "OriginRally$Car" ⟨"OriginRally$Car", "recordAt", "(I)I"⟩ ⟨"OriginRally$Car", "recordAt", "(I)I"⟩) ∈ WG := WG_3 (List.mem_of_getElem? (i := 50) rfl) rfl
theorem gw3_51 : (Jvm.Cond.code ⟨"OriginRally$Car", "recordAt", "(I)I"⟩ prog_2_method_3_code 2 (Option.some Jvm.ClassFile.FieldType.int)) ∈ WG := WG_3 (List.mem_of_getElem? (i := 51) rfl) rfl
theorem gw3_53 : (Jvm.Cond.methodLink "OriginRally" 170 ⟨"OriginRally$Car", "setRecord", "(II)V"⟩) ∈ WG := WG_3 (List.mem_of_getElem? (i := 53) rfl) rfl
theorem gw3_54 : (Jvm.Cond.instanceMethod ⟨"OriginRally$Car", "setRecord", "(II)V"⟩) ∈ WG := WG_3 (List.mem_of_getElem? (i := 54) rfl) rfl
theorem gw3_55 : (Jvm.Cond.selects "OriginRally$Car" ⟨"OriginRally$Car", "setRecord", "(II)V"⟩ ⟨"OriginRally$Car", "setRecord", "(II)V"⟩) ∈ WG := WG_3 (List.mem_of_getElem? (i := 55) rfl) rfl
theorem gw3_56 : (Jvm.Cond.code ⟨"OriginRally$Car", "setRecord", "(II)V"⟩ prog_2_method_4_code 3 (Option.none : Option Jvm.ClassFile.FieldType)) ∈ WG := WG_3 (List.mem_of_getElem? (i := 56) rfl) rfl
theorem gw3_57 : (Jvm.Cond.methodLink "OriginRallyLaw" 152 ⟨"OriginRallyLaw", "appeal", "(LOriginRally;II[J)I"⟩) ∈ WG := WG_3 (List.mem_of_getElem? (i := 57) rfl) rfl
theorem gw3_58 : (Jvm.Cond.static ⟨"OriginRallyLaw", "appeal", "(LOriginRally;II[J)I"⟩) ∈ WG := WG_3 (List.mem_of_getElem? (i := 58) rfl) rfl
theorem gw3_59 : (Jvm.Cond.codeWith ⟨"OriginRallyLaw", "appeal", "(LOriginRally;II[J)I"⟩ method_15_code 5 (Option.some Jvm.ClassFile.FieldType.int) [(0, 17, 20, 24), (0, 17, 24, 15)]) ∈ WG := WG_3 (List.mem_of_getElem? (i := 59) rfl) rfl
theorem gw3_60 : (Jvm.Cond.methodLink "OriginRallyLaw" 58 ⟨"OriginRally", "appeal", "(II)Z"⟩) ∈ WG := WG_3 (List.mem_of_getElem? (i := 60) rfl) rfl
theorem gw3_61 : (Jvm.Cond.instanceMethod ⟨"OriginRally", "appeal", "(II)Z"⟩) ∈ WG := WG_3 (List.mem_of_getElem? (i := 61) rfl) rfl
theorem gw3_62 : (Jvm.Cond.selects "OriginRally" ⟨"OriginRally", "appeal", "(II)Z"⟩ ⟨"OriginRally", "appeal", "(II)Z"⟩) ∈ WG := WG_3 (List.mem_of_getElem? (i := 62) rfl) rfl
theorem gw3_63 : (Jvm.Cond.code ⟨"OriginRally", "appeal", "(II)Z"⟩ prog_1_method_14_code 5 (Option.some Jvm.ClassFile.FieldType.boolean)) ∈ WG := WG_3 (List.mem_of_getElem? (i := 63) rfl) rfl
theorem gw3_64 : (Jvm.Cond.methodLink "OriginRally" 173 ⟨"OriginRally$Car", "recordAt", "(I)I"⟩) ∈ WG := WG_3 (List.mem_of_getElem? (i := 64) rfl) rfl
theorem gw3_65 : (Jvm.Cond.methodLink "OriginRallyLaw" 159 ⟨"OriginRallyLaw", "cellOf", "(LOriginRally;I[J)I"⟩) ∈ WG := WG_3 (List.mem_of_getElem? (i := 65) rfl) rfl
theorem gw3_66 : (Jvm.Cond.static ⟨"OriginRallyLaw", "cellOf", "(LOriginRally;I[J)I"⟩) ∈ WG := WG_3 (List.mem_of_getElem? (i := 66) rfl) rfl
theorem gw3_67 : (Jvm.Cond.codeWith ⟨"OriginRallyLaw", "cellOf", "(LOriginRally;I[J)I"⟩ method_16_code 4 (Option.some Jvm.ClassFile.FieldType.int) [(0, 9, 12, 24)]) ∈ WG := WG_3 (List.mem_of_getElem? (i := 67) rfl) rfl
theorem gw3_68 : (Jvm.Cond.methodLink "OriginRallyLaw" 62 ⟨"OriginRally", "cellOf", "(I)I"⟩) ∈ WG := WG_3 (List.mem_of_getElem? (i := 68) rfl) rfl
theorem gw3_69 : (Jvm.Cond.instanceMethod ⟨"OriginRally", "cellOf", "(I)I"⟩) ∈ WG := WG_3 (List.mem_of_getElem? (i := 69) rfl) rfl
theorem gw3_70 : (Jvm.Cond.selects "OriginRally" ⟨"OriginRally", "cellOf", "(I)I"⟩ ⟨"OriginRally", "cellOf", "(I)I"⟩) ∈ WG := WG_3 (List.mem_of_getElem? (i := 70) rfl) rfl
theorem gw3_71 : (Jvm.Cond.code ⟨"OriginRally", "cellOf", "(I)I"⟩ prog_1_method_16_code 2 (Option.some Jvm.ClassFile.FieldType.int)) ∈ WG := WG_3 (List.mem_of_getElem? (i := 71) rfl) rfl
theorem gw3_72 : (Jvm.Cond.methodLink "OriginRallyLaw" 162 ⟨"OriginRallyLaw", "due", "(LOriginRally;I[J)I"⟩) ∈ WG := WG_3 (List.mem_of_getElem? (i := 72) rfl) rfl
theorem gw3_73 : (Jvm.Cond.static ⟨"OriginRallyLaw", "due", "(LOriginRally;I[J)I"⟩) ∈ WG := WG_3 (List.mem_of_getElem? (i := 73) rfl) rfl
theorem gw3_74 : (Jvm.Cond.codeWith ⟨"OriginRallyLaw", "due", "(LOriginRally;I[J)I"⟩ method_17_code 4 (Option.some Jvm.ClassFile.FieldType.int) [(0, 9, 12, 24)]) ∈ WG := WG_3 (List.mem_of_getElem? (i := 74) rfl) rfl
theorem gw3_75 : (Jvm.Cond.methodLink "OriginRallyLaw" 65 ⟨"OriginRally", "due", "(I)I"⟩) ∈ WG := WG_3 (List.mem_of_getElem? (i := 75) rfl) rfl
theorem gw3_76 : (Jvm.Cond.instanceMethod ⟨"OriginRally", "due", "(I)I"⟩) ∈ WG := WG_3 (List.mem_of_getElem? (i := 76) rfl) rfl
theorem gw3_77 : (Jvm.Cond.selects "OriginRally" ⟨"OriginRally", "due", "(I)I"⟩ ⟨"OriginRally", "due", "(I)I"⟩) ∈ WG := WG_3 (List.mem_of_getElem? (i := 77) rfl) rfl
theorem gw3_78 : (Jvm.Cond.code ⟨"OriginRally", "due", "(I)I"⟩ prog_1_method_17_code 2 (Option.some Jvm.ClassFile.FieldType.int)) ∈ WG := WG_3 (List.mem_of_getElem? (i := 78) rfl) rfl
theorem gw3_79 : (Jvm.Cond.methodLink "OriginRallyLaw" 165 ⟨"OriginRallyLaw", "followed", "(LOriginRally;I[J)I"⟩) ∈ WG := WG_3 (List.mem_of_getElem? (i := 79) rfl) rfl
theorem gw3_80 : (Jvm.Cond.static ⟨"OriginRallyLaw", "followed", "(LOriginRally;I[J)I"⟩) ∈ WG := WG_3 (List.mem_of_getElem? (i := 80) rfl) rfl
theorem gw3_81 : (Jvm.Cond.codeWith ⟨"OriginRallyLaw", "followed", "(LOriginRally;I[J)I"⟩ method_18_code 4 (Option.some Jvm.ClassFile.FieldType.int) [(0, 9, 12, 24)]) ∈ WG := WG_3 (List.mem_of_getElem? (i := 81) rfl) rfl
theorem gw3_82 : (Jvm.Cond.methodLink "OriginRallyLaw" 68 ⟨"OriginRally", "followed", "(I)I"⟩) ∈ WG := WG_3 (List.mem_of_getElem? (i := 82) rfl) rfl
theorem gw3_83 : (Jvm.Cond.instanceMethod ⟨"OriginRally", "followed", "(I)I"⟩) ∈ WG := WG_3 (List.mem_of_getElem? (i := 83) rfl) rfl
theorem gw3_84 : (Jvm.Cond.selects "OriginRally" ⟨"OriginRally", "followed", "(I)I"⟩ ⟨"OriginRally", "followed", "(I)I"⟩) ∈ WG := WG_3 (List.mem_of_getElem? (i := 84) rfl) rfl
theorem gw3_85 : (Jvm.Cond.code ⟨"OriginRally", "followed", "(I)I"⟩ prog_1_method_18_code 2 (Option.some Jvm.ClassFile.FieldType.int)) ∈ WG := WG_3 (List.mem_of_getElem? (i := 85) rfl) rfl
theorem gw3_86 : (Jvm.Cond.methodLink "OriginRally" 187 ⟨"OriginRally$Way", "followedOf", "(LOriginRally$Way;)I"⟩) ∈ WG := WG_3 (List.mem_of_getElem? (i := 86) rfl) rfl
theorem gw3_87 : (Jvm.Cond.instanceMethod ⟨"OriginRally$Way", "followedOf", "(LOriginRally$Way;)I"⟩) ∈ WG := WG_3 (List.mem_of_getElem? (i := 87) rfl) rfl
theorem gw3_88 : (Jvm.Cond.selects "OriginRally$Way" ⟨"OriginRally$Way", "followedOf", "(LOriginRally$Way;)I"⟩ ⟨"OriginRally$Way", "followedOf", "(LOriginRally$Way;)I"⟩) ∈ WG := WG_3 (List.mem_of_getElem? (i := 88) rfl) rfl
theorem gw3_89 : (Jvm.Cond.code ⟨"OriginRally$Way", "followedOf", "(LOriginRally$Way;)I"⟩ prog_6_method_14_code 6 (Option.some Jvm.ClassFile.FieldType.int)) ∈ WG := WG_3 (List.mem_of_getElem? (i := 89) rfl) rfl
theorem gw3_90 : (Jvm.Cond.methodLink "OriginRally$Way" 92 ⟨"OriginRally$Piece", "isDrivenLike", "(LOriginRally$Piece;)Z"⟩) ∈ WG := WG_3 (List.mem_of_getElem? (i := 90) rfl) rfl
theorem gw3_91 : (Jvm.Cond.instanceMethod ⟨"OriginRally$Piece", "isDrivenLike", "(LOriginRally$Piece;)Z"⟩) ∈ WG := WG_3 (List.mem_of_getElem? (i := 91) rfl) rfl
theorem gw3_92 : (Jvm.Cond.selects "OriginRally$Piece" ⟨"OriginRally$Piece", "isDrivenLike", "(LOriginRally$Piece;)Z"⟩ ⟨"OriginRally$Piece", "isDrivenLike", "(LOriginRally$Piece;)Z"⟩) ∈ WG := WG_3 (List.mem_of_getElem? (i := 92) rfl) rfl
theorem gw3_93 : (Jvm.Cond.code ⟨"OriginRally$Piece", "isDrivenLike", "(LOriginRally$Piece;)Z"⟩ prog_5_method_7_code 2 (Option.some Jvm.ClassFile.FieldType.boolean)) ∈ WG := WG_3 (List.mem_of_getElem? (i := 93) rfl) rfl
theorem gw3_94 : (Jvm.Cond.methodLink "OriginRallyLaw" 168 ⟨"OriginRallyLaw", "cellAt", "(LOriginRally;II[J)I"⟩) ∈ WG := WG_3 (List.mem_of_getElem? (i := 94) rfl) rfl
theorem gw3_95 : (Jvm.Cond.static ⟨"OriginRallyLaw", "cellAt", "(LOriginRally;II[J)I"⟩) ∈ WG := WG_3 (List.mem_of_getElem? (i := 95) rfl) rfl
theorem gw3_96 : (Jvm.Cond.codeWith ⟨"OriginRallyLaw", "cellAt", "(LOriginRally;II[J)I"⟩ method_19_code 5 (Option.some Jvm.ClassFile.FieldType.int) [(0, 10, 13, 24), (0, 10, 17, 13)]) ∈ WG := WG_3 (List.mem_of_getElem? (i := 96) rfl) rfl
theorem gw3_97 : (Jvm.Cond.methodLink "OriginRallyLaw" 71 ⟨"OriginRally", "cellAt", "(II)I"⟩) ∈ WG := WG_3 (List.mem_of_getElem? (i := 97) rfl) rfl
theorem gw3_98 : (Jvm.Cond.instanceMethod ⟨"OriginRally", "cellAt", "(II)I"⟩) ∈ WG := WG_3 (List.mem_of_getElem? (i := 98) rfl) rfl
theorem gw3_99 : (Jvm.Cond.selects "OriginRally" ⟨"OriginRally", "cellAt", "(II)I"⟩ ⟨"OriginRally", "cellAt", "(II)I"⟩) ∈ WG := WG_3 (List.mem_of_getElem? (i := 99) rfl) rfl
theorem gw3_100 : (Jvm.Cond.code ⟨"OriginRally", "cellAt", "(II)I"⟩ prog_1_method_19_code 4 (Option.some Jvm.ClassFile.FieldType.int)) ∈ WG := WG_3 (List.mem_of_getElem? (i := 100) rfl) rfl
theorem gw3_101 : (Jvm.Cond.methodLink "OriginRally" 191 ⟨"OriginRally$Way", "pieceAtMinute", "(II)I"⟩) ∈ WG := WG_3 (List.mem_of_getElem? (i := 101) rfl) rfl
theorem gw3_102 : (Jvm.Cond.instanceMethod ⟨"OriginRally$Way", "pieceAtMinute", "(II)I"⟩) ∈ WG := WG_3 (List.mem_of_getElem? (i := 102) rfl) rfl
theorem gw3_103 : (Jvm.Cond.selects "OriginRally$Way" ⟨"OriginRally$Way", "pieceAtMinute", "(II)I"⟩ ⟨"OriginRally$Way", "pieceAtMinute", "(II)I"⟩) ∈ WG := WG_3 (List.mem_of_getElem? (i := 103) rfl) rfl
theorem gw3_104 : (Jvm.Cond.code ⟨"OriginRally$Way", "pieceAtMinute", "(II)I"⟩ prog_6_method_11_code 4 (Option.some Jvm.ClassFile.FieldType.int)) ∈ WG := WG_3 (List.mem_of_getElem? (i := 104) rfl) rfl
theorem gw3_105 : (Jvm.Cond.methodLink "OriginRally$Way" 77 ⟨"OriginRally$Way", "endsAhead", "(II)Z"⟩) ∈ WG := WG_3 (List.mem_of_getElem? (i := 105) rfl) rfl
theorem gw3_107 : (Jvm.Cond.instanceMethod ⟨"OriginRally$Way", "endsAhead", "(II)Z"⟩) ∈ WG := WG_3 (List.mem_of_getElem? (i := 107) rfl) rfl
theorem gw3_108 : (Jvm.Cond.code ⟨"OriginRally$Way", "endsAhead", "(II)Z"⟩ prog_6_method_12_code 4 (Option.some Jvm.ClassFile.FieldType.boolean)) ∈ WG := WG_3 (List.mem_of_getElem? (i := 108) rfl) rfl
theorem gw3_109 : (Jvm.Cond.methodLink "OriginRally" 194 ⟨"OriginRally$Way", "cellAtMinute", "(II)I"⟩) ∈ WG := WG_3 (List.mem_of_getElem? (i := 109) rfl) rfl
theorem gw3_110 : (Jvm.Cond.instanceMethod ⟨"OriginRally$Way", "cellAtMinute", "(II)I"⟩) ∈ WG := WG_3 (List.mem_of_getElem? (i := 110) rfl) rfl
theorem gw3_111 : (Jvm.Cond.selects "OriginRally$Way" ⟨"OriginRally$Way", "cellAtMinute", "(II)I"⟩ ⟨"OriginRally$Way", "cellAtMinute", "(II)I"⟩) ∈ WG := WG_3 (List.mem_of_getElem? (i := 111) rfl) rfl
theorem gw3_112 : (Jvm.Cond.code ⟨"OriginRally$Way", "cellAtMinute", "(II)I"⟩ prog_6_method_13_code 4 (Option.some Jvm.ClassFile.FieldType.int)) ∈ WG := WG_3 (List.mem_of_getElem? (i := 112) rfl) rfl
theorem gw3_113 : (Jvm.Cond.methodLink "OriginRally$Way" 84 ⟨"OriginRally$Piece", "cellAfter", "(I)I"⟩) ∈ WG := WG_3 (List.mem_of_getElem? (i := 113) rfl) rfl
theorem gw3_114 : (Jvm.Cond.methodLink "OriginRallyLaw" 171 ⟨"OriginRallyLaw", "clock", "(LOriginRally;I[J)I"⟩) ∈ WG := WG_3 (List.mem_of_getElem? (i := 114) rfl) rfl
theorem gw3_115 : (Jvm.Cond.static ⟨"OriginRallyLaw", "clock", "(LOriginRally;I[J)I"⟩) ∈ WG := WG_3 (List.mem_of_getElem? (i := 115) rfl) rfl
theorem gw3_116 : (Jvm.Cond.codeWith ⟨"OriginRallyLaw", "clock", "(LOriginRally;I[J)I"⟩ method_20_code 4 (Option.some Jvm.ClassFile.FieldType.int) [(0, 9, 12, 24)]) ∈ WG := WG_3 (List.mem_of_getElem? (i := 116) rfl) rfl
theorem gw3_117 : (Jvm.Cond.methodLink "OriginRallyLaw" 74 ⟨"OriginRally", "clock", "(I)I"⟩) ∈ WG := WG_3 (List.mem_of_getElem? (i := 117) rfl) rfl
theorem gw3_118 : (Jvm.Cond.instanceMethod ⟨"OriginRally", "clock", "(I)I"⟩) ∈ WG := WG_3 (List.mem_of_getElem? (i := 118) rfl) rfl
theorem gw3_119 : (Jvm.Cond.selects "OriginRally" ⟨"OriginRally", "clock", "(I)I"⟩ ⟨"OriginRally", "clock", "(I)I"⟩) ∈ WG := WG_3 (List.mem_of_getElem? (i := 119) rfl) rfl
theorem gw3_120 : (Jvm.Cond.code ⟨"OriginRally", "clock", "(I)I"⟩ prog_1_method_20_code 2 (Option.some Jvm.ClassFile.FieldType.int)) ∈ WG := WG_3 (List.mem_of_getElem? (i := 120) rfl) rfl
theorem gw3_121 : (Jvm.Cond.methodLink "OriginRallyLaw" 174 ⟨"OriginRallyLaw", "byTrack", "(LOriginRally;II[J)I"⟩) ∈ WG := WG_3 (List.mem_of_getElem? (i := 121) rfl) rfl
theorem gw3_122 : (Jvm.Cond.static ⟨"OriginRallyLaw", "byTrack", "(LOriginRally;II[J)I"⟩) ∈ WG := WG_3 (List.mem_of_getElem? (i := 122) rfl) rfl
theorem gw3_123 : (Jvm.Cond.codeWith ⟨"OriginRallyLaw", "byTrack", "(LOriginRally;II[J)I"⟩ method_21_code 5 (Option.some Jvm.ClassFile.FieldType.int) [(0, 10, 13, 24)]) ∈ WG := WG_3 (List.mem_of_getElem? (i := 123) rfl) rfl
theorem gw3_124 : (Jvm.Cond.methodLink "OriginRallyLaw" 77 ⟨"OriginRally", "byTrack", "(II)I"⟩) ∈ WG := WG_3 (List.mem_of_getElem? (i := 124) rfl) rfl
theorem gw3_125 : (Jvm.Cond.instanceMethod ⟨"OriginRally", "byTrack", "(II)I"⟩) ∈ WG := WG_3 (List.mem_of_getElem? (i := 125) rfl) rfl
theorem gw3_126 : (Jvm.Cond.selects "OriginRally" ⟨"OriginRally", "byTrack", "(II)I"⟩ ⟨"OriginRally", "byTrack", "(II)I"⟩) ∈ WG := WG_3 (List.mem_of_getElem? (i := 126) rfl) rfl
theorem gw3_127 : (Jvm.Cond.code ⟨"OriginRally", "byTrack", "(II)I"⟩ prog_1_method_21_code 4 (Option.some Jvm.ClassFile.FieldType.int)) ∈ WG := WG_3 (List.mem_of_getElem? (i := 127) rfl) rfl
theorem gw3_128 : (Jvm.Cond.methodLink "OriginRallyLaw" 177 ⟨"OriginRallyLaw", "byMinutes", "(LOriginRally;II[J)I"⟩) ∈ WG := WG_3 (List.mem_of_getElem? (i := 128) rfl) rfl
theorem gw3_129 : (Jvm.Cond.static ⟨"OriginRallyLaw", "byMinutes", "(LOriginRally;II[J)I"⟩) ∈ WG := WG_3 (List.mem_of_getElem? (i := 129) rfl) rfl
theorem gw3_130 : (Jvm.Cond.codeWith ⟨"OriginRallyLaw", "byMinutes", "(LOriginRally;II[J)I"⟩ method_22_code 5 (Option.some Jvm.ClassFile.FieldType.int) [(0, 10, 13, 24)]) ∈ WG := WG_3 (List.mem_of_getElem? (i := 130) rfl) rfl
theorem gw3_131 : (Jvm.Cond.methodLink "OriginRallyLaw" 80 ⟨"OriginRally", "byMinutes", "(II)I"⟩) ∈ WG := WG_3 (List.mem_of_getElem? (i := 131) rfl) rfl
theorem gw3_132 : (Jvm.Cond.instanceMethod ⟨"OriginRally", "byMinutes", "(II)I"⟩) ∈ WG := WG_3 (List.mem_of_getElem? (i := 132) rfl) rfl
theorem gw3_133 : (Jvm.Cond.selects "OriginRally" ⟨"OriginRally", "byMinutes", "(II)I"⟩ ⟨"OriginRally", "byMinutes", "(II)I"⟩) ∈ WG := WG_3 (List.mem_of_getElem? (i := 133) rfl) rfl
theorem gw3_134 : (Jvm.Cond.code ⟨"OriginRally", "byMinutes", "(II)I"⟩ prog_1_method_22_code 7 (Option.some Jvm.ClassFile.FieldType.int)) ∈ WG := WG_3 (List.mem_of_getElem? (i := 134) rfl) rfl
theorem gw3_135 : (Jvm.Cond.methodLink "OriginRally" 197 ⟨"OriginRally$Way", "firstOfAllMinutes", "(II)I"⟩) ∈ WG := WG_3 (List.mem_of_getElem? (i := 135) rfl) rfl
theorem gw3_136 : (Jvm.Cond.instanceMethod ⟨"OriginRally$Way", "firstOfAllMinutes", "(II)I"⟩) ∈ WG := WG_3 (List.mem_of_getElem? (i := 136) rfl) rfl
theorem gw3_137 : (Jvm.Cond.selects "OriginRally$Way" ⟨"OriginRally$Way", "firstOfAllMinutes", "(II)I"⟩ ⟨"OriginRally$Way", "firstOfAllMinutes", "(II)I"⟩) ∈ WG := WG_3 (List.mem_of_getElem? (i := 137) rfl) rfl
theorem gw3_138 : (Jvm.Cond.code ⟨"OriginRally$Way", "firstOfAllMinutes", "(II)I"⟩ prog_6_method_10_code 5 (Option.some Jvm.ClassFile.FieldType.int)) ∈ WG := WG_3 (List.mem_of_getElem? (i := 138) rfl) rfl
theorem gw3_139 : (Jvm.Cond.methodLink "OriginRally$Way" 71 ⟨"OriginRally$Way", "pieceAtMinute", "(II)I"⟩) ∈ WG := WG_3 (List.mem_of_getElem? (i := 139) rfl) rfl
theorem gw3_140 : (Jvm.Cond.methodLink "OriginRally$Way" 74 ⟨"OriginRally$Way", "cellAtMinute", "(II)I"⟩) ∈ WG := WG_3 (List.mem_of_getElem? (i := 140) rfl) rfl
theorem gw3_141 : (Jvm.Cond.methodLink "OriginRallyLaw" 180 ⟨"OriginRallyLaw", "time", "(LOriginRally;II[J)I"⟩) ∈ WG := WG_3 (List.mem_of_getElem? (i := 141) rfl) rfl
theorem gw3_142 : (Jvm.Cond.static ⟨"OriginRallyLaw", "time", "(LOriginRally;II[J)I"⟩) ∈ WG := WG_3 (List.mem_of_getElem? (i := 142) rfl) rfl
theorem gw3_143 : (Jvm.Cond.codeWith ⟨"OriginRallyLaw", "time", "(LOriginRally;II[J)I"⟩ method_23_code 5 (Option.some Jvm.ClassFile.FieldType.int) [(0, 10, 13, 24)]) ∈ WG := WG_3 (List.mem_of_getElem? (i := 143) rfl) rfl
theorem gw3_144 : (Jvm.Cond.methodLink "OriginRallyLaw" 83 ⟨"OriginRally", "time", "(II)I"⟩) ∈ WG := WG_3 (List.mem_of_getElem? (i := 144) rfl) rfl
theorem gw3_145 : (Jvm.Cond.instanceMethod ⟨"OriginRally", "time", "(II)I"⟩) ∈ WG := WG_3 (List.mem_of_getElem? (i := 145) rfl) rfl
theorem gw3_146 : (Jvm.Cond.selects "OriginRally" ⟨"OriginRally", "time", "(II)I"⟩ ⟨"OriginRally", "time", "(II)I"⟩) ∈ WG := WG_3 (List.mem_of_getElem? (i := 146) rfl) rfl
theorem gw3_147 : (Jvm.Cond.code ⟨"OriginRally", "time", "(II)I"⟩ prog_1_method_23_code 4 (Option.some Jvm.ClassFile.FieldType.int)) ∈ WG := WG_3 (List.mem_of_getElem? (i := 147) rfl) rfl
theorem gw3_148 : (Jvm.Cond.methodLink "OriginRallyLaw" 183 ⟨"OriginRallyLaw", "points", "(LOriginRally;I[J)I"⟩) ∈ WG := WG_3 (List.mem_of_getElem? (i := 148) rfl) rfl
theorem gw3_149 : (Jvm.Cond.static ⟨"OriginRallyLaw", "points", "(LOriginRally;I[J)I"⟩) ∈ WG := WG_3 (List.mem_of_getElem? (i := 149) rfl) rfl
theorem gw3_150 : (Jvm.Cond.codeWith ⟨"OriginRallyLaw", "points", "(LOriginRally;I[J)I"⟩ method_24_code 4 (Option.some Jvm.ClassFile.FieldType.int) [(0, 9, 12, 24)]) ∈ WG := WG_3 (List.mem_of_getElem? (i := 150) rfl) rfl
theorem gw3_151 : (Jvm.Cond.methodLink "OriginRallyLaw" 86 ⟨"OriginRally", "points", "(I)I"⟩) ∈ WG := WG_3 (List.mem_of_getElem? (i := 151) rfl) rfl
theorem gw3_152 : (Jvm.Cond.instanceMethod ⟨"OriginRally", "points", "(I)I"⟩) ∈ WG := WG_3 (List.mem_of_getElem? (i := 152) rfl) rfl
theorem gw3_153 : (Jvm.Cond.selects "OriginRally" ⟨"OriginRally", "points", "(I)I"⟩ ⟨"OriginRally", "points", "(I)I"⟩) ∈ WG := WG_3 (List.mem_of_getElem? (i := 153) rfl) rfl
theorem gw3_154 : (Jvm.Cond.code ⟨"OriginRally", "points", "(I)I"⟩ prog_1_method_24_code 2 (Option.some Jvm.ClassFile.FieldType.int)) ∈ WG := WG_3 (List.mem_of_getElem? (i := 154) rfl) rfl
theorem gw3_155 : (Jvm.Cond.methodLink "OriginRally" 205 ⟨"OriginRally", "pointsOf", "(LOriginRally$Car;)I"⟩) ∈ WG := WG_3 (List.mem_of_getElem? (i := 155) rfl) rfl
theorem gw3_157 : (Jvm.Cond.instanceMethod ⟨"OriginRally", "pointsOf", "(LOriginRally$Car;)I"⟩) ∈ WG := WG_3 (List.mem_of_getElem? (i := 157) rfl) rfl
theorem gw3_158 : (Jvm.Cond.code ⟨"OriginRally", "pointsOf", "(LOriginRally$Car;)I"⟩ prog_1_method_44_code 7 (Option.some Jvm.ClassFile.FieldType.int)) ∈ WG := WG_3 (List.mem_of_getElem? (i := 158) rfl) rfl
theorem gw3_159 : (Jvm.Cond.methodLink "OriginRally" 253 ⟨"OriginRally$Gate", "pointsFor", "(I)I"⟩) ∈ WG := WG_3 (List.mem_of_getElem? (i := 159) rfl) rfl
theorem gw3_160 : (Jvm.Cond.instanceMethod ⟨"OriginRally$Gate", "pointsFor", "(I)I"⟩) ∈ WG := WG_3 (List.mem_of_getElem? (i := 160) rfl) rfl
theorem gw3_161 : (Jvm.Cond.selects "OriginRally$Gate" ⟨"OriginRally$Gate", "pointsFor", "(I)I"⟩ ⟨"OriginRally$Gate", "pointsFor", "(I)I"⟩) ∈ WG := WG_3 (List.mem_of_getElem? (i := 161) rfl) rfl
theorem gw3_162 : (Jvm.Cond.code ⟨"OriginRally$Gate", "pointsFor", "(I)I"⟩ prog_3_method_2_code 3 (Option.some Jvm.ClassFile.FieldType.int)) ∈ WG := WG_3 (List.mem_of_getElem? (i := 162) rfl) rfl
theorem gw3_163 : (Jvm.Cond.methodLink "OriginRally$Gate" 21 ⟨"java/lang/Math", "min", "(II)I"⟩) ∈ WG := WG_3 (List.mem_of_getElem? (i := 163) rfl) rfl
theorem gw3_164 : (Jvm.Cond.static ⟨"java/lang/Math", "min", "(II)I"⟩) ∈ WG := WG_3 (List.mem_of_getElem? (i := 164) rfl) rfl
theorem gw3_165 : (Jvm.Cond.code ⟨"java/lang/Math", "min", "(II)I"⟩ prog_14_method_69_code 2 (Option.some Jvm.ClassFile.FieldType.int)) ∈ WG := WG_3 (List.mem_of_getElem? (i := 165) rfl) rfl
theorem gw3_166 : (Jvm.Cond.methodLink "OriginRallyLaw" 186 ⟨"OriginRallyLaw", "table", "(LOriginRally;I[J)I"⟩) ∈ WG := WG_3 (List.mem_of_getElem? (i := 166) rfl) rfl
theorem gw3_167 : (Jvm.Cond.static ⟨"OriginRallyLaw", "table", "(LOriginRally;I[J)I"⟩) ∈ WG := WG_3 (List.mem_of_getElem? (i := 167) rfl) rfl
theorem gw3_168 : (Jvm.Cond.codeWith ⟨"OriginRallyLaw", "table", "(LOriginRally;I[J)I"⟩ method_25_code 4 (Option.some Jvm.ClassFile.FieldType.int) [(0, 9, 12, 24)]) ∈ WG := WG_3 (List.mem_of_getElem? (i := 168) rfl) rfl
theorem gw3_169 : (Jvm.Cond.methodLink "OriginRallyLaw" 89 ⟨"OriginRally", "table", "(I)I"⟩) ∈ WG := WG_3 (List.mem_of_getElem? (i := 169) rfl) rfl
theorem gw3_170 : (Jvm.Cond.instanceMethod ⟨"OriginRally", "table", "(I)I"⟩) ∈ WG := WG_3 (List.mem_of_getElem? (i := 170) rfl) rfl
theorem gw3_171 : (Jvm.Cond.selects "OriginRally" ⟨"OriginRally", "table", "(I)I"⟩ ⟨"OriginRally", "table", "(I)I"⟩) ∈ WG := WG_3 (List.mem_of_getElem? (i := 171) rfl) rfl
theorem gw3_172 : (Jvm.Cond.code ⟨"OriginRally", "table", "(I)I"⟩ prog_1_method_25_code 3 (Option.some Jvm.ClassFile.FieldType.int)) ∈ WG := WG_3 (List.mem_of_getElem? (i := 172) rfl) rfl
theorem gw3_173 : (Jvm.Cond.methodLink "OriginRally" 209 ⟨"OriginRally", "placeOf", "(I)I"⟩) ∈ WG := WG_3 (List.mem_of_getElem? (i := 173) rfl) rfl
theorem gw3_175 : (Jvm.Cond.instanceMethod ⟨"OriginRally", "placeOf", "(I)I"⟩) ∈ WG := WG_3 (List.mem_of_getElem? (i := 175) rfl) rfl
theorem gw3_176 : (Jvm.Cond.code ⟨"OriginRally", "placeOf", "(I)I"⟩ prog_1_method_45_code 4 (Option.some Jvm.ClassFile.FieldType.int)) ∈ WG := WG_3 (List.mem_of_getElem? (i := 176) rfl) rfl
theorem gw3_177 : (Jvm.Cond.methodLink "OriginRallyLaw" 189 ⟨"OriginRallyLaw", "where", "(LOriginRally;I[J)I"⟩) ∈ WG := WG_3 (List.mem_of_getElem? (i := 177) rfl) rfl
theorem gw3_178 : (Jvm.Cond.static ⟨"OriginRallyLaw", "where", "(LOriginRally;I[J)I"⟩) ∈ WG := WG_3 (List.mem_of_getElem? (i := 178) rfl) rfl
theorem gw3_179 : (Jvm.Cond.codeWith ⟨"OriginRallyLaw", "where", "(LOriginRally;I[J)I"⟩ method_26_code 4 (Option.some Jvm.ClassFile.FieldType.int) [(0, 9, 12, 24)]) ∈ WG := WG_3 (List.mem_of_getElem? (i := 179) rfl) rfl
theorem gw3_180 : (Jvm.Cond.methodLink "OriginRallyLaw" 92 ⟨"OriginRally", "where", "(I)I"⟩) ∈ WG := WG_3 (List.mem_of_getElem? (i := 180) rfl) rfl
theorem gw3_181 : (Jvm.Cond.instanceMethod ⟨"OriginRally", "where", "(I)I"⟩) ∈ WG := WG_3 (List.mem_of_getElem? (i := 181) rfl) rfl
theorem gw3_182 : (Jvm.Cond.selects "OriginRally" ⟨"OriginRally", "where", "(I)I"⟩ ⟨"OriginRally", "where", "(I)I"⟩) ∈ WG := WG_3 (List.mem_of_getElem? (i := 182) rfl) rfl
theorem gw3_183 : (Jvm.Cond.code ⟨"OriginRally", "where", "(I)I"⟩ prog_1_method_26_code 2 (Option.some Jvm.ClassFile.FieldType.int)) ∈ WG := WG_3 (List.mem_of_getElem? (i := 183) rfl) rfl
theorem gw3_184 : (Jvm.Cond.methodLink "OriginRallyLaw" 192 ⟨"OriginRallyLaw", "lent", "(LOriginRally;I[J)I"⟩) ∈ WG := WG_3 (List.mem_of_getElem? (i := 184) rfl) rfl
theorem gw3_185 : (Jvm.Cond.static ⟨"OriginRallyLaw", "lent", "(LOriginRally;I[J)I"⟩) ∈ WG := WG_3 (List.mem_of_getElem? (i := 185) rfl) rfl
theorem gw3_186 : (Jvm.Cond.codeWith ⟨"OriginRallyLaw", "lent", "(LOriginRally;I[J)I"⟩ method_27_code 4 (Option.some Jvm.ClassFile.FieldType.int) [(0, 9, 12, 24)]) ∈ WG := WG_3 (List.mem_of_getElem? (i := 186) rfl) rfl
theorem gw3_187 : (Jvm.Cond.methodLink "OriginRallyLaw" 95 ⟨"OriginRally", "lent", "(I)I"⟩) ∈ WG := WG_3 (List.mem_of_getElem? (i := 187) rfl) rfl
theorem gw3_188 : (Jvm.Cond.instanceMethod ⟨"OriginRally", "lent", "(I)I"⟩) ∈ WG := WG_3 (List.mem_of_getElem? (i := 188) rfl) rfl
theorem gw3_189 : (Jvm.Cond.selects "OriginRally" ⟨"OriginRally", "lent", "(I)I"⟩ ⟨"OriginRally", "lent", "(I)I"⟩) ∈ WG := WG_3 (List.mem_of_getElem? (i := 189) rfl) rfl
theorem gw3_190 : (Jvm.Cond.code ⟨"OriginRally", "lent", "(I)I"⟩ prog_1_method_27_code 4 (Option.some Jvm.ClassFile.FieldType.int)) ∈ WG := WG_3 (List.mem_of_getElem? (i := 190) rfl) rfl
theorem gw3_191 : (Jvm.Cond.methodLink "OriginRally" 215 ⟨"OriginRally$Part", "isLentBy", "(I)Z"⟩) ∈ WG := WG_3 (List.mem_of_getElem? (i := 191) rfl) rfl
theorem gw3_192 : (Jvm.Cond.instanceMethod ⟨"OriginRally$Part", "isLentBy", "(I)Z"⟩) ∈ WG := WG_3 (List.mem_of_getElem? (i := 192) rfl) rfl
theorem gw3_193 : (Jvm.Cond.selects "OriginRally$Part" ⟨"OriginRally$Part", "isLentBy", "(I)Z"⟩ ⟨"OriginRally$Part", "isLentBy", "(I)Z"⟩) ∈ WG := WG_3 (List.mem_of_getElem? (i := 193) rfl) rfl
theorem gw3_194 : (Jvm.Cond.code ⟨"OriginRally$Part", "isLentBy", "(I)Z"⟩ prog_4_method_3_code 2 (Option.some Jvm.ClassFile.FieldType.boolean)) ∈ WG := WG_3 (List.mem_of_getElem? (i := 194) rfl) rfl
theorem gw3_195 : (Jvm.Cond.methodLink "OriginRallyLaw" 195 ⟨"OriginRallyLaw", "isBroken", "(LOriginRally;I[J)I"⟩) ∈ WG := WG_3 (List.mem_of_getElem? (i := 195) rfl) rfl
theorem gw3_196 : (Jvm.Cond.static ⟨"OriginRallyLaw", "isBroken", "(LOriginRally;I[J)I"⟩) ∈ WG := WG_3 (List.mem_of_getElem? (i := 196) rfl) rfl
theorem gw3_197 : (Jvm.Cond.codeWith ⟨"OriginRallyLaw", "isBroken", "(LOriginRally;I[J)I"⟩ method_28_code 4 (Option.some Jvm.ClassFile.FieldType.int) [(0, 16, 19, 24)]) ∈ WG := WG_3 (List.mem_of_getElem? (i := 197) rfl) rfl
theorem gw3_198 : (Jvm.Cond.methodLink "OriginRallyLaw" 98 ⟨"OriginRally", "isBroken", "(I)Z"⟩) ∈ WG := WG_3 (List.mem_of_getElem? (i := 198) rfl) rfl
theorem gw3_199 : (Jvm.Cond.instanceMethod ⟨"OriginRally", "isBroken", "(I)Z"⟩) ∈ WG := WG_3 (List.mem_of_getElem? (i := 199) rfl) rfl
theorem gw3_200 : (Jvm.Cond.selects "OriginRally" ⟨"OriginRally", "isBroken", "(I)Z"⟩ ⟨"OriginRally", "isBroken", "(I)Z"⟩) ∈ WG := WG_3 (List.mem_of_getElem? (i := 200) rfl) rfl
theorem gw3_201 : (Jvm.Cond.code ⟨"OriginRally", "isBroken", "(I)Z"⟩ prog_1_method_28_code 2 (Option.some Jvm.ClassFile.FieldType.boolean)) ∈ WG := WG_3 (List.mem_of_getElem? (i := 201) rfl) rfl
theorem gw3_202 : (Jvm.Cond.classLink "OriginRallyLaw" 103 "OriginRallyModel") ∈ WG := WG_3 (List.mem_of_getElem? (i := 202) rfl) rfl
theorem gw3_203 : (Jvm.Cond.instantiable "OriginRallyModel" 26) ∈ WG := WG_3 (List.mem_of_getElem? (i := 203) rfl) rfl
theorem gw3_204 : (Jvm.Cond.methodLink "OriginRallyLaw" 105 ⟨"OriginRallyModel", "<init>", "()V"⟩) ∈ WG := WG_3 (List.mem_of_getElem? (i := 204) rfl) rfl
theorem gw3_205 : (Jvm.Cond.instanceMethod ⟨"OriginRallyModel", "<init>", "()V"⟩) ∈ WG := WG_3 (List.mem_of_getElem? (i := 205) rfl) rfl
theorem gw3_206 : (Jvm.Cond.code ⟨"OriginRallyModel", "<init>", "()V"⟩ prog_8_method_1_code 2 (Option.none : Option Jvm.ClassFile.FieldType)) ∈ WG := WG_3 (List.mem_of_getElem? (i := 206) rfl) rfl
theorem gw3_207 : (Jvm.Cond.methodLink "OriginRallyModel" 1 ⟨"java/lang/Object", "<init>", "()V"⟩) ∈ WG := WG_3 (List.mem_of_getElem? (i := 207) rfl) rfl
theorem gw3_208 : (Jvm.Cond.fieldLink "OriginRallyModel" 62 "OriginRallyModel" "thrown" "I") ∈ WG := WG_3 (List.mem_of_getElem? (i := 208) rfl) rfl
theorem gw3_209 : (Jvm.Cond.fieldLink "OriginRallyModel" 75 "OriginRallyModel" "start" "I") ∈ WG := WG_3 (List.mem_of_getElem? (i := 209) rfl) rfl
theorem gw3_210 : (Jvm.Cond.fieldLink "OriginRallyModel" 116 "OriginRallyModel" "entries" "I") ∈ WG := WG_3 (List.mem_of_getElem? (i := 210) rfl) rfl
theorem gw3_211 : (Jvm.Cond.fieldLink "OriginRallyModel" 7 "OriginRallyModel" "entryCells" "[I") ∈ WG := WG_3 (List.mem_of_getElem? (i := 211) rfl) rfl
theorem gw3_212 : (Jvm.Cond.fieldLink "OriginRallyModel" 13 "OriginRallyModel" "entryTurns" "[I") ∈ WG := WG_3 (List.mem_of_getElem? (i := 212) rfl) rfl
theorem gw3_213 : (Jvm.Cond.fieldLink "OriginRallyModel" 72 "OriginRallyModel" "gates" "I") ∈ WG := WG_3 (List.mem_of_getElem? (i := 213) rfl) rfl
theorem gw3_214 : (Jvm.Cond.fieldLink "OriginRallyModel" 16 "OriginRallyModel" "gateEntries" "[I") ∈ WG := WG_3 (List.mem_of_getElem? (i := 214) rfl) rfl
theorem gw3_215 : (Jvm.Cond.fieldLink "OriginRallyModel" 19 "OriginRallyModel" "allowed" "[I") ∈ WG := WG_3 (List.mem_of_getElem? (i := 215) rfl) rfl
theorem gw3_216 : (Jvm.Cond.fieldLink "OriginRallyModel" 22 "OriginRallyModel" "counting" "I") ∈ WG := WG_3 (List.mem_of_getElem? (i := 216) rfl) rfl
theorem gw3_217 : (Jvm.Cond.fieldLink "OriginRallyModel" 65 "OriginRallyModel" "cars" "I") ∈ WG := WG_3 (List.mem_of_getElem? (i := 217) rfl) rfl
theorem gw3_218 : (Jvm.Cond.fieldLink "OriginRallyModel" 26 "OriginRallyModel" "pieces" "[I") ∈ WG := WG_3 (List.mem_of_getElem? (i := 218) rfl) rfl
theorem gw3_219 : (Jvm.Cond.fieldLink "OriginRallyModel" 29 "OriginRallyModel" "drives" "[I") ∈ WG := WG_3 (List.mem_of_getElem? (i := 219) rfl) rfl
theorem gw3_220 : (Jvm.Cond.fieldLink "OriginRallyModel" 32 "OriginRallyModel" "minutes" "[I") ∈ WG := WG_3 (List.mem_of_getElem? (i := 220) rfl) rfl
theorem gw3_221 : (Jvm.Cond.fieldLink "OriginRallyModel" 35 "OriginRallyModel" "turns" "[I") ∈ WG := WG_3 (List.mem_of_getElem? (i := 221) rfl) rfl
theorem gw3_222 : (Jvm.Cond.fieldLink "OriginRallyModel" 38 "OriginRallyModel" "broken" "[I") ∈ WG := WG_3 (List.mem_of_getElem? (i := 222) rfl) rfl
theorem gw3_223 : (Jvm.Cond.fieldLink "OriginRallyModel" 41 "OriginRallyModel" "lost" "[I") ∈ WG := WG_3 (List.mem_of_getElem? (i := 223) rfl) rfl
theorem gw3_224 : (Jvm.Cond.fieldLink "OriginRallyModel" 44 "OriginRallyModel" "recorded" "[I") ∈ WG := WG_3 (List.mem_of_getElem? (i := 224) rfl) rfl
theorem gw3_225 : (Jvm.Cond.fieldLink "OriginRallyModel" 134 "OriginRallyModel" "parts" "I") ∈ WG := WG_3 (List.mem_of_getElem? (i := 225) rfl) rfl
theorem gw3_226 : (Jvm.Cond.fieldLink "OriginRallyModel" 47 "OriginRallyModel" "kinds" "[I") ∈ WG := WG_3 (List.mem_of_getElem? (i := 226) rfl) rfl
theorem gw3_227 : (Jvm.Cond.fieldLink "OriginRallyModel" 50 "OriginRallyModel" "owners" "[I") ∈ WG := WG_3 (List.mem_of_getElem? (i := 227) rfl) rfl
theorem gw3_228 : (Jvm.Cond.fieldLink "OriginRallyModel" 53 "OriginRallyModel" "wheres" "[I") ∈ WG := WG_3 (List.mem_of_getElem? (i := 228) rfl) rfl
theorem gw3_229 : (Jvm.Cond.fieldLink "OriginRallyModel" 56 "OriginRallyModel" "users" "[I") ∈ WG := WG_3 (List.mem_of_getElem? (i := 229) rfl) rfl
theorem gw3_230 : (Jvm.Cond.fieldLink "OriginRallyModel" 59 "OriginRallyModel" "tallies" "[I") ∈ WG := WG_3 (List.mem_of_getElem? (i := 230) rfl) rfl
theorem gw3_231 : (Jvm.Cond.fieldLink "OriginRallyModel" 78 "OriginRallyModel" "x" "I") ∈ WG := WG_3 (List.mem_of_getElem? (i := 231) rfl) rfl
theorem gw3_232 : (Jvm.Cond.fieldLink "OriginRallyModel" 81 "OriginRallyModel" "y" "I") ∈ WG := WG_3 (List.mem_of_getElem? (i := 232) rfl) rfl
theorem gw3_233 : (Jvm.Cond.fieldLink "OriginRallyModel" 84 "OriginRallyModel" "heading" "I") ∈ WG := WG_3 (List.mem_of_getElem? (i := 233) rfl) rfl
theorem gw3_234 : (Jvm.Cond.lays "OriginRallyModel" "OriginRallyModel" "thrown" "I") ∈ WG := WG_3 (List.mem_of_getElem? (i := 234) rfl) rfl
theorem gw3_236 : (Jvm.Cond.lays "OriginRallyModel" "OriginRallyModel" "start" "I") ∈ WG := WG_3 (List.mem_of_getElem? (i := 236) rfl) rfl
theorem gw3_238 : (Jvm.Cond.lays "OriginRallyModel" "OriginRallyModel" "entries" "I") ∈ WG := WG_3 (List.mem_of_getElem? (i := 238) rfl) rfl
theorem gw4_0 : (Jvm.Cond.laysFinal "OriginRallyModel" "OriginRallyModel" "entryCells" "[I") ∈ WG := WG_4 (List.mem_of_getElem? (i := 0) rfl) rfl
theorem gw4_2 : (Jvm.Cond.laysFinal "OriginRallyModel" "OriginRallyModel" "entryTurns" "[I") ∈ WG := WG_4 (List.mem_of_getElem? (i := 2) rfl) rfl
theorem gw4_4 : (Jvm.Cond.lays "OriginRallyModel" "OriginRallyModel" "gates" "I") ∈ WG := WG_4 (List.mem_of_getElem? (i := 4) rfl) rfl
theorem gw4_6 : (Jvm.Cond.laysFinal "OriginRallyModel" "OriginRallyModel" "gateEntries" "[I") ∈ WG := WG_4 (List.mem_of_getElem? (i := 6) rfl) rfl
theorem gw4_8 : (Jvm.Cond.laysFinal "OriginRallyModel" "OriginRallyModel" "allowed" "[I") ∈ WG := WG_4 (List.mem_of_getElem? (i := 8) rfl) rfl
theorem gw4_10 : (Jvm.Cond.lays "OriginRallyModel" "OriginRallyModel" "counting" "I") ∈ WG := WG_4 (List.mem_of_getElem? (i := 10) rfl) rfl
theorem gw4_12 : (Jvm.Cond.lays "OriginRallyModel" "OriginRallyModel" "cars" "I") ∈ WG := WG_4 (List.mem_of_getElem? (i := 12) rfl) rfl
theorem gw4_14 : (Jvm.Cond.laysFinal "OriginRallyModel" "OriginRallyModel" "pieces" "[I") ∈ WG := WG_4 (List.mem_of_getElem? (i := 14) rfl) rfl
theorem gw4_16 : (Jvm.Cond.laysFinal "OriginRallyModel" "OriginRallyModel" "drives" "[I") ∈ WG := WG_4 (List.mem_of_getElem? (i := 16) rfl) rfl
theorem gw4_18 : (Jvm.Cond.laysFinal "OriginRallyModel" "OriginRallyModel" "minutes" "[I") ∈ WG := WG_4 (List.mem_of_getElem? (i := 18) rfl) rfl
theorem gw4_20 : (Jvm.Cond.laysFinal "OriginRallyModel" "OriginRallyModel" "turns" "[I") ∈ WG := WG_4 (List.mem_of_getElem? (i := 20) rfl) rfl
theorem gw4_22 : (Jvm.Cond.laysFinal "OriginRallyModel" "OriginRallyModel" "broken" "[I") ∈ WG := WG_4 (List.mem_of_getElem? (i := 22) rfl) rfl
theorem gw4_24 : (Jvm.Cond.laysFinal "OriginRallyModel" "OriginRallyModel" "lost" "[I") ∈ WG := WG_4 (List.mem_of_getElem? (i := 24) rfl) rfl
theorem gw4_26 : (Jvm.Cond.laysFinal "OriginRallyModel" "OriginRallyModel" "recorded" "[I") ∈ WG := WG_4 (List.mem_of_getElem? (i := 26) rfl) rfl
theorem gw4_28 : (Jvm.Cond.lays "OriginRallyModel" "OriginRallyModel" "parts" "I") ∈ WG := WG_4 (List.mem_of_getElem? (i := 28) rfl) rfl
theorem gw4_30 : (Jvm.Cond.laysFinal "OriginRallyModel" "OriginRallyModel" "kinds" "[I") ∈ WG := WG_4 (List.mem_of_getElem? (i := 30) rfl) rfl
theorem gw4_32 : (Jvm.Cond.laysFinal "OriginRallyModel" "OriginRallyModel" "owners" "[I") ∈ WG := WG_4 (List.mem_of_getElem? (i := 32) rfl) rfl
theorem gw4_34 : (Jvm.Cond.laysFinal "OriginRallyModel" "OriginRallyModel" "wheres" "[I") ∈ WG := WG_4 (List.mem_of_getElem? (i := 34) rfl) rfl
theorem gw4_36 : (Jvm.Cond.laysFinal "OriginRallyModel" "OriginRallyModel" "users" "[I") ∈ WG := WG_4 (List.mem_of_getElem? (i := 36) rfl) rfl
theorem gw4_38 : (Jvm.Cond.laysFinal "OriginRallyModel" "OriginRallyModel" "tallies" "[I") ∈ WG := WG_4 (List.mem_of_getElem? (i := 38) rfl) rfl
theorem gw4_40 : (Jvm.Cond.lays "OriginRallyModel" "OriginRallyModel" "x" "I") ∈ WG := WG_4 (List.mem_of_getElem? (i := 40) rfl) rfl
theorem gw4_42 : (Jvm.Cond.lays "OriginRallyModel" "OriginRallyModel" "y" "I") ∈ WG := WG_4 (List.mem_of_getElem? (i := 42) rfl) rfl
theorem gw4_44 : (Jvm.Cond.lays "OriginRallyModel" "OriginRallyModel" "heading" "I") ∈ WG := WG_4 (List.mem_of_getElem? (i := 44) rfl) rfl
theorem gw4_47 : (Jvm.Cond.methodLink "OriginRallyLaw" 112 ⟨"OriginRallyModel", "thrown", "()I"⟩) ∈ WG := WG_4 (List.mem_of_getElem? (i := 47) rfl) rfl
theorem gw4_48 : (Jvm.Cond.instanceMethod ⟨"OriginRallyModel", "thrown", "()I"⟩) ∈ WG := WG_4 (List.mem_of_getElem? (i := 48) rfl) rfl
theorem gw4_49 : (Jvm.Cond.selects "OriginRallyModel" ⟨"OriginRallyModel", "thrown", "()I"⟩ ⟨"OriginRallyModel", "thrown", "()I"⟩) ∈ WG := WG_4 (List.mem_of_getElem? (i := 49) rfl) rfl
theorem gw4_50 : (Jvm.Cond.code ⟨"OriginRallyModel", "thrown", "()I"⟩ prog_8_method_2_code 1 (Option.some Jvm.ClassFile.FieldType.int)) ∈ WG := WG_4 (List.mem_of_getElem? (i := 50) rfl) rfl
theorem gw4_51 : (Jvm.Cond.methodLink "OriginRallyLaw" 111 ⟨"OriginRallyModel", "setStart", "(I)I"⟩) ∈ WG := WG_4 (List.mem_of_getElem? (i := 51) rfl) rfl
theorem gw4_52 : (Jvm.Cond.instanceMethod ⟨"OriginRallyModel", "setStart", "(I)I"⟩) ∈ WG := WG_4 (List.mem_of_getElem? (i := 52) rfl) rfl
theorem gw4_53 : (Jvm.Cond.selects "OriginRallyModel" ⟨"OriginRallyModel", "setStart", "(I)I"⟩ ⟨"OriginRallyModel", "setStart", "(I)I"⟩) ∈ WG := WG_4 (List.mem_of_getElem? (i := 53) rfl) rfl
theorem gw4_54 : (Jvm.Cond.code ⟨"OriginRallyModel", "setStart", "(I)I"⟩ prog_8_method_18_code 3 (Option.some Jvm.ClassFile.FieldType.int)) ∈ WG := WG_4 (List.mem_of_getElem? (i := 54) rfl) rfl
theorem gw4_55 : (Jvm.Cond.methodLink "OriginRallyModel" 68 ⟨"OriginRallyModel", "in", "(III)Z"⟩) ∈ WG := WG_4 (List.mem_of_getElem? (i := 55) rfl) rfl
theorem gw4_56 : (Jvm.Cond.static ⟨"OriginRallyModel", "in", "(III)Z"⟩) ∈ WG := WG_4 (List.mem_of_getElem? (i := 56) rfl) rfl
theorem gw4_57 : (Jvm.Cond.code ⟨"OriginRallyModel", "in", "(III)Z"⟩ prog_8_method_4_code 3 (Option.some Jvm.ClassFile.FieldType.boolean)) ∈ WG := WG_4 (List.mem_of_getElem? (i := 57) rfl) rfl
theorem gw4_58 : (Jvm.Cond.methodLink "OriginRallyModel" 119 ⟨"OriginRallyModel", "goesWell", "(I)Z"⟩) ∈ WG := WG_4 (List.mem_of_getElem? (i := 58) rfl) rfl
theorem gw4_60 : (Jvm.Cond.instanceMethod ⟨"OriginRallyModel", "goesWell", "(I)Z"⟩) ∈ WG := WG_4 (List.mem_of_getElem? (i := 60) rfl) rfl
theorem gw4_61 : (Jvm.Cond.code ⟨"OriginRallyModel", "goesWell", "(I)Z"⟩ prog_8_method_3_code 2 (Option.some Jvm.ClassFile.FieldType.boolean)) ∈ WG := WG_4 (List.mem_of_getElem? (i := 61) rfl) rfl
theorem gw4_62 : (Jvm.Cond.methodLink "OriginRallyLaw" 118 ⟨"OriginRallyModel", "addEntry", "(II)I"⟩) ∈ WG := WG_4 (List.mem_of_getElem? (i := 62) rfl) rfl
theorem gw4_63 : (Jvm.Cond.instanceMethod ⟨"OriginRallyModel", "addEntry", "(II)I"⟩) ∈ WG := WG_4 (List.mem_of_getElem? (i := 63) rfl) rfl
theorem gw4_64 : (Jvm.Cond.selects "OriginRallyModel" ⟨"OriginRallyModel", "addEntry", "(II)I"⟩ ⟨"OriginRallyModel", "addEntry", "(II)I"⟩) ∈ WG := WG_4 (List.mem_of_getElem? (i := 64) rfl) rfl
theorem gw4_65 : (Jvm.Cond.code ⟨"OriginRallyModel", "addEntry", "(II)I"⟩ prog_8_method_19_code 4 (Option.some Jvm.ClassFile.FieldType.int)) ∈ WG := WG_4 (List.mem_of_getElem? (i := 65) rfl) rfl
theorem gw4_66 : (Jvm.Cond.methodLink "OriginRallyModel" 106 ⟨"OriginRallyModel", "followBook", "(I)V"⟩) ∈ WG := WG_4 (List.mem_of_getElem? (i := 66) rfl) rfl
theorem gw4_68 : (Jvm.Cond.instanceMethod ⟨"OriginRallyModel", "followBook", "(I)V"⟩) ∈ WG := WG_4 (List.mem_of_getElem? (i := 68) rfl) rfl
theorem gw4_69 : (Jvm.Cond.code ⟨"OriginRallyModel", "followBook", "(I)V"⟩ prog_8_method_11_code 3 (Option.none : Option Jvm.ClassFile.FieldType)) ∈ WG := WG_4 (List.mem_of_getElem? (i := 69) rfl) rfl
theorem gw4_70 : (Jvm.Cond.methodLink "OriginRallyModel" 87 ⟨"OriginRallyModel", "begin", "()V"⟩) ∈ WG := WG_4 (List.mem_of_getElem? (i := 70) rfl) rfl
theorem gw4_72 : (Jvm.Cond.instanceMethod ⟨"OriginRallyModel", "begin", "()V"⟩) ∈ WG := WG_4 (List.mem_of_getElem? (i := 72) rfl) rfl
theorem gw4_73 : (Jvm.Cond.code ⟨"OriginRallyModel", "begin", "()V"⟩ prog_8_method_7_code 1 (Option.none : Option Jvm.ClassFile.FieldType)) ∈ WG := WG_4 (List.mem_of_getElem? (i := 73) rfl) rfl
theorem gw4_74 : (Jvm.Cond.methodLink "OriginRallyModel" 90 ⟨"OriginRallyModel", "goOn", "(I)V"⟩) ∈ WG := WG_4 (List.mem_of_getElem? (i := 74) rfl) rfl
theorem gw4_76 : (Jvm.Cond.instanceMethod ⟨"OriginRallyModel", "goOn", "(I)V"⟩) ∈ WG := WG_4 (List.mem_of_getElem? (i := 76) rfl) rfl
theorem gw4_77 : (Jvm.Cond.code ⟨"OriginRallyModel", "goOn", "(I)V"⟩ prog_8_method_8_code 2 (Option.none : Option Jvm.ClassFile.FieldType)) ∈ WG := WG_4 (List.mem_of_getElem? (i := 77) rfl) rfl
theorem gw4_78 : (Jvm.Cond.methodLink "OriginRallyModel" 123 ⟨"OriginRallyModel", "isOnGround", "()Z"⟩) ∈ WG := WG_4 (List.mem_of_getElem? (i := 78) rfl) rfl
theorem gw4_80 : (Jvm.Cond.instanceMethod ⟨"OriginRallyModel", "isOnGround", "()Z"⟩) ∈ WG := WG_4 (List.mem_of_getElem? (i := 80) rfl) rfl
theorem gw4_81 : (Jvm.Cond.code ⟨"OriginRallyModel", "isOnGround", "()Z"⟩ prog_8_method_10_code 1 (Option.some Jvm.ClassFile.FieldType.boolean)) ∈ WG := WG_4 (List.mem_of_getElem? (i := 81) rfl) rfl
theorem gw4_82 : (Jvm.Cond.methodLink "OriginRallyModel" 102 ⟨"OriginRallyModel", "cell", "()I"⟩) ∈ WG := WG_4 (List.mem_of_getElem? (i := 82) rfl) rfl
theorem gw4_84 : (Jvm.Cond.instanceMethod ⟨"OriginRallyModel", "cell", "()I"⟩) ∈ WG := WG_4 (List.mem_of_getElem? (i := 84) rfl) rfl
theorem gw4_85 : (Jvm.Cond.code ⟨"OriginRallyModel", "cell", "()I"⟩ prog_8_method_9_code 1 (Option.some Jvm.ClassFile.FieldType.int)) ∈ WG := WG_4 (List.mem_of_getElem? (i := 85) rfl) rfl
theorem gw4_86 : (Jvm.Cond.methodLink "OriginRallyLaw" 121 ⟨"OriginRallyModel", "addGate", "(II)I"⟩) ∈ WG := WG_4 (List.mem_of_getElem? (i := 86) rfl) rfl
theorem gw4_87 : (Jvm.Cond.instanceMethod ⟨"OriginRallyModel", "addGate", "(II)I"⟩) ∈ WG := WG_4 (List.mem_of_getElem? (i := 87) rfl) rfl
theorem gw4_88 : (Jvm.Cond.selects "OriginRallyModel" ⟨"OriginRallyModel", "addGate", "(II)I"⟩ ⟨"OriginRallyModel", "addGate", "(II)I"⟩) ∈ WG := WG_4 (List.mem_of_getElem? (i := 88) rfl) rfl
theorem gw4_89 : (Jvm.Cond.code ⟨"OriginRallyModel", "addGate", "(II)I"⟩ prog_8_method_20_code 5 (Option.some Jvm.ClassFile.FieldType.int)) ∈ WG := WG_4 (List.mem_of_getElem? (i := 89) rfl) rfl
theorem gw4_90 : (Jvm.Cond.methodLink "OriginRallyLaw" 124 ⟨"OriginRallyModel", "cut", "(I)I"⟩) ∈ WG := WG_4 (List.mem_of_getElem? (i := 90) rfl) rfl
theorem gw4_91 : (Jvm.Cond.instanceMethod ⟨"OriginRallyModel", "cut", "(I)I"⟩) ∈ WG := WG_4 (List.mem_of_getElem? (i := 91) rfl) rfl
theorem gw4_92 : (Jvm.Cond.selects "OriginRallyModel" ⟨"OriginRallyModel", "cut", "(I)I"⟩ ⟨"OriginRallyModel", "cut", "(I)I"⟩) ∈ WG := WG_4 (List.mem_of_getElem? (i := 92) rfl) rfl
theorem gw4_93 : (Jvm.Cond.code ⟨"OriginRallyModel", "cut", "(I)I"⟩ prog_8_method_21_code 3 (Option.some Jvm.ClassFile.FieldType.int)) ∈ WG := WG_4 (List.mem_of_getElem? (i := 93) rfl) rfl
theorem gw4_94 : (Jvm.Cond.methodLink "OriginRallyLaw" 128 ⟨"OriginRallyModel", "enter", "()I"⟩) ∈ WG := WG_4 (List.mem_of_getElem? (i := 94) rfl) rfl
theorem gw4_95 : (Jvm.Cond.instanceMethod ⟨"OriginRallyModel", "enter", "()I"⟩) ∈ WG := WG_4 (List.mem_of_getElem? (i := 95) rfl) rfl
theorem gw4_96 : (Jvm.Cond.selects "OriginRallyModel" ⟨"OriginRallyModel", "enter", "()I"⟩ ⟨"OriginRallyModel", "enter", "()I"⟩) ∈ WG := WG_4 (List.mem_of_getElem? (i := 96) rfl) rfl
theorem gw4_97 : (Jvm.Cond.code ⟨"OriginRallyModel", "enter", "()I"⟩ prog_8_method_22_code 1 (Option.some Jvm.ClassFile.FieldType.int)) ∈ WG := WG_4 (List.mem_of_getElem? (i := 97) rfl) rfl
theorem gw4_98 : (Jvm.Cond.methodLink "OriginRallyLaw" 132 ⟨"OriginRallyModel", "drive", "(III)I"⟩) ∈ WG := WG_4 (List.mem_of_getElem? (i := 98) rfl) rfl
theorem gw4_99 : (Jvm.Cond.instanceMethod ⟨"OriginRallyModel", "drive", "(III)I"⟩) ∈ WG := WG_4 (List.mem_of_getElem? (i := 99) rfl) rfl
theorem gw4_100 : (Jvm.Cond.selects "OriginRallyModel" ⟨"OriginRallyModel", "drive", "(III)I"⟩ ⟨"OriginRallyModel", "drive", "(III)I"⟩) ∈ WG := WG_4 (List.mem_of_getElem? (i := 100) rfl) rfl
theorem gw4_101 : (Jvm.Cond.code ⟨"OriginRallyModel", "drive", "(III)I"⟩ prog_8_method_24_code 7 (Option.some Jvm.ClassFile.FieldType.int)) ∈ WG := WG_4 (List.mem_of_getElem? (i := 101) rfl) rfl
theorem gw4_102 : (Jvm.Cond.methodLink "OriginRallyModel" 127 ⟨"OriginRallyModel", "isCar", "(I)Z"⟩) ∈ WG := WG_4 (List.mem_of_getElem? (i := 102) rfl) rfl
theorem gw4_104 : (Jvm.Cond.instanceMethod ⟨"OriginRallyModel", "isCar", "(I)Z"⟩) ∈ WG := WG_4 (List.mem_of_getElem? (i := 104) rfl) rfl
theorem gw4_105 : (Jvm.Cond.code ⟨"OriginRallyModel", "isCar", "(I)Z"⟩ prog_8_method_5_code 2 (Option.some Jvm.ClassFile.FieldType.boolean)) ∈ WG := WG_4 (List.mem_of_getElem? (i := 105) rfl) rfl
theorem gw4_106 : (Jvm.Cond.methodLink "OriginRallyModel" 94 ⟨"OriginRallyModel", "clockOf", "(I)I"⟩) ∈ WG := WG_4 (List.mem_of_getElem? (i := 106) rfl) rfl
theorem gw4_108 : (Jvm.Cond.instanceMethod ⟨"OriginRallyModel", "clockOf", "(I)I"⟩) ∈ WG := WG_4 (List.mem_of_getElem? (i := 108) rfl) rfl
theorem gw4_109 : (Jvm.Cond.code ⟨"OriginRallyModel", "clockOf", "(I)I"⟩ prog_8_method_13_code 4 (Option.some Jvm.ClassFile.FieldType.int)) ∈ WG := WG_4 (List.mem_of_getElem? (i := 109) rfl) rfl
theorem gw4_110 : (Jvm.Cond.methodLink "OriginRallyModel" 98 ⟨"OriginRallyModel", "followTrack", "(II)V"⟩) ∈ WG := WG_4 (List.mem_of_getElem? (i := 110) rfl) rfl
theorem gw4_112 : (Jvm.Cond.instanceMethod ⟨"OriginRallyModel", "followTrack", "(II)V"⟩) ∈ WG := WG_4 (List.mem_of_getElem? (i := 112) rfl) rfl
theorem gw4_113 : (Jvm.Cond.code ⟨"OriginRallyModel", "followTrack", "(II)V"⟩ prog_8_method_12_code 6 (Option.none : Option Jvm.ClassFile.FieldType)) ∈ WG := WG_4 (List.mem_of_getElem? (i := 113) rfl) rfl
theorem gw4_114 : (Jvm.Cond.methodLink "OriginRallyModel" 130 ⟨"OriginRallyModel", "addPiece", "(IIII)I"⟩) ∈ WG := WG_4 (List.mem_of_getElem? (i := 114) rfl) rfl
theorem gw4_116 : (Jvm.Cond.instanceMethod ⟨"OriginRallyModel", "addPiece", "(IIII)I"⟩) ∈ WG := WG_4 (List.mem_of_getElem? (i := 116) rfl) rfl
theorem gw4_117 : (Jvm.Cond.code ⟨"OriginRallyModel", "addPiece", "(IIII)I"⟩ prog_8_method_23_code 6 (Option.some Jvm.ClassFile.FieldType.int)) ∈ WG := WG_4 (List.mem_of_getElem? (i := 117) rfl) rfl
theorem gw4_118 : (Jvm.Cond.methodLink "OriginRallyLaw" 135 ⟨"OriginRallyModel", "stand", "(II)I"⟩) ∈ WG := WG_4 (List.mem_of_getElem? (i := 118) rfl) rfl
theorem gw4_119 : (Jvm.Cond.instanceMethod ⟨"OriginRallyModel", "stand", "(II)I"⟩) ∈ WG := WG_4 (List.mem_of_getElem? (i := 119) rfl) rfl
theorem gw4_120 : (Jvm.Cond.selects "OriginRallyModel" ⟨"OriginRallyModel", "stand", "(II)I"⟩ ⟨"OriginRallyModel", "stand", "(II)I"⟩) ∈ WG := WG_4 (List.mem_of_getElem? (i := 120) rfl) rfl
theorem gw4_121 : (Jvm.Cond.code ⟨"OriginRallyModel", "stand", "(II)I"⟩ prog_8_method_25_code 5 (Option.some Jvm.ClassFile.FieldType.int)) ∈ WG := WG_4 (List.mem_of_getElem? (i := 121) rfl) rfl
theorem gw4_122 : (Jvm.Cond.methodLink "OriginRallyLaw" 139 ⟨"OriginRallyModel", "breakDown", "(II)V"⟩) ∈ WG := WG_4 (List.mem_of_getElem? (i := 122) rfl) rfl
theorem gw4_123 : (Jvm.Cond.instanceMethod ⟨"OriginRallyModel", "breakDown", "(II)V"⟩) ∈ WG := WG_4 (List.mem_of_getElem? (i := 123) rfl) rfl
theorem gw4_124 : (Jvm.Cond.selects "OriginRallyModel" ⟨"OriginRallyModel", "breakDown", "(II)V"⟩ ⟨"OriginRallyModel", "breakDown", "(II)V"⟩) ∈ WG := WG_4 (List.mem_of_getElem? (i := 124) rfl) rfl
theorem gw4_125 : (Jvm.Cond.code ⟨"OriginRallyModel", "breakDown", "(II)V"⟩ prog_8_method_26_code 4 (Option.none : Option Jvm.ClassFile.FieldType)) ∈ WG := WG_4 (List.mem_of_getElem? (i := 125) rfl) rfl
theorem gw4_126 : (Jvm.Cond.methodLink "OriginRallyLaw" 142 ⟨"OriginRallyModel", "mend", "(I)I"⟩) ∈ WG := WG_4 (List.mem_of_getElem? (i := 126) rfl) rfl
theorem gw4_127 : (Jvm.Cond.instanceMethod ⟨"OriginRallyModel", "mend", "(I)I"⟩) ∈ WG := WG_4 (List.mem_of_getElem? (i := 127) rfl) rfl
theorem gw4_128 : (Jvm.Cond.selects "OriginRallyModel" ⟨"OriginRallyModel", "mend", "(I)I"⟩ ⟨"OriginRallyModel", "mend", "(I)I"⟩) ∈ WG := WG_4 (List.mem_of_getElem? (i := 128) rfl) rfl
theorem gw4_129 : (Jvm.Cond.code ⟨"OriginRallyModel", "mend", "(I)I"⟩ prog_8_method_27_code 6 (Option.some Jvm.ClassFile.FieldType.int)) ∈ WG := WG_4 (List.mem_of_getElem? (i := 129) rfl) rfl
theorem gw4_130 : (Jvm.Cond.methodLink "OriginRallyLaw" 145 ⟨"OriginRallyModel", "bring", "(II)I"⟩) ∈ WG := WG_4 (List.mem_of_getElem? (i := 130) rfl) rfl
theorem gw4_131 : (Jvm.Cond.instanceMethod ⟨"OriginRallyModel", "bring", "(II)I"⟩) ∈ WG := WG_4 (List.mem_of_getElem? (i := 131) rfl) rfl
theorem gw4_132 : (Jvm.Cond.selects "OriginRallyModel" ⟨"OriginRallyModel", "bring", "(II)I"⟩ ⟨"OriginRallyModel", "bring", "(II)I"⟩) ∈ WG := WG_4 (List.mem_of_getElem? (i := 132) rfl) rfl
theorem gw4_133 : (Jvm.Cond.code ⟨"OriginRallyModel", "bring", "(II)I"⟩ prog_8_method_28_code 4 (Option.some Jvm.ClassFile.FieldType.int)) ∈ WG := WG_4 (List.mem_of_getElem? (i := 133) rfl) rfl
theorem gw4_134 : (Jvm.Cond.methodLink "OriginRallyLaw" 148 ⟨"OriginRallyModel", "hand", "(II)I"⟩) ∈ WG := WG_4 (List.mem_of_getElem? (i := 134) rfl) rfl
theorem gw4_135 : (Jvm.Cond.instanceMethod ⟨"OriginRallyModel", "hand", "(II)I"⟩) ∈ WG := WG_4 (List.mem_of_getElem? (i := 135) rfl) rfl
theorem gw4_136 : (Jvm.Cond.selects "OriginRallyModel" ⟨"OriginRallyModel", "hand", "(II)I"⟩ ⟨"OriginRallyModel", "hand", "(II)I"⟩) ∈ WG := WG_4 (List.mem_of_getElem? (i := 136) rfl) rfl
theorem gw4_137 : (Jvm.Cond.code ⟨"OriginRallyModel", "hand", "(II)I"⟩ prog_8_method_30_code 6 (Option.some Jvm.ClassFile.FieldType.int)) ∈ WG := WG_4 (List.mem_of_getElem? (i := 137) rfl) rfl
theorem gw4_138 : (Jvm.Cond.methodLink "OriginRallyModel" 140 ⟨"OriginRallyModel", "cellOfPlace", "(I)I"⟩) ∈ WG := WG_4 (List.mem_of_getElem? (i := 138) rfl) rfl
theorem gw4_140 : (Jvm.Cond.instanceMethod ⟨"OriginRallyModel", "cellOfPlace", "(I)I"⟩) ∈ WG := WG_4 (List.mem_of_getElem? (i := 140) rfl) rfl
theorem gw4_141 : (Jvm.Cond.code ⟨"OriginRallyModel", "cellOfPlace", "(I)I"⟩ prog_8_method_29_code 2 (Option.some Jvm.ClassFile.FieldType.int)) ∈ WG := WG_4 (List.mem_of_getElem? (i := 141) rfl) rfl
theorem gw4_142 : (Jvm.Cond.methodLink "OriginRallyModel" 137 ⟨"OriginRallyModel", "cellNow", "(I)I"⟩) ∈ WG := WG_4 (List.mem_of_getElem? (i := 142) rfl) rfl
theorem gw4_144 : (Jvm.Cond.instanceMethod ⟨"OriginRallyModel", "cellNow", "(I)I"⟩) ∈ WG := WG_4 (List.mem_of_getElem? (i := 144) rfl) rfl
theorem gw4_145 : (Jvm.Cond.code ⟨"OriginRallyModel", "cellNow", "(I)I"⟩ prog_8_method_14_code 2 (Option.some Jvm.ClassFile.FieldType.int)) ∈ WG := WG_4 (List.mem_of_getElem? (i := 145) rfl) rfl
theorem gw4_146 : (Jvm.Cond.methodLink "OriginRallyLaw" 151 ⟨"OriginRallyModel", "record", "(III)I"⟩) ∈ WG := WG_4 (List.mem_of_getElem? (i := 146) rfl) rfl
theorem gw4_147 : (Jvm.Cond.instanceMethod ⟨"OriginRallyModel", "record", "(III)I"⟩) ∈ WG := WG_4 (List.mem_of_getElem? (i := 147) rfl) rfl
theorem gw4_148 : (Jvm.Cond.selects "OriginRallyModel" ⟨"OriginRallyModel", "record", "(III)I"⟩ ⟨"OriginRallyModel", "record", "(III)I"⟩) ∈ WG := WG_4 (List.mem_of_getElem? (i := 148) rfl) rfl
theorem gw4_149 : (Jvm.Cond.code ⟨"OriginRallyModel", "record", "(III)I"⟩ prog_8_method_32_code 6 (Option.some Jvm.ClassFile.FieldType.int)) ∈ WG := WG_4 (List.mem_of_getElem? (i := 149) rfl) rfl
theorem gw4_150 : (Jvm.Cond.methodLink "OriginRallyModel" 147 ⟨"OriginRallyModel", "isGate", "(I)Z"⟩) ∈ WG := WG_4 (List.mem_of_getElem? (i := 150) rfl) rfl
theorem gw4_152 : (Jvm.Cond.instanceMethod ⟨"OriginRallyModel", "isGate", "(I)Z"⟩) ∈ WG := WG_4 (List.mem_of_getElem? (i := 152) rfl) rfl
theorem gw4_153 : (Jvm.Cond.code ⟨"OriginRallyModel", "isGate", "(I)Z"⟩ prog_8_method_6_code 2 (Option.some Jvm.ClassFile.FieldType.boolean)) ∈ WG := WG_4 (List.mem_of_getElem? (i := 153) rfl) rfl
theorem gw4_154 : (Jvm.Cond.methodLink "OriginRallyModel" 150 ⟨"OriginRallyModel", "timeOf", "(II)I"⟩) ∈ WG := WG_4 (List.mem_of_getElem? (i := 154) rfl) rfl
theorem gw4_156 : (Jvm.Cond.instanceMethod ⟨"OriginRallyModel", "timeOf", "(II)I"⟩) ∈ WG := WG_4 (List.mem_of_getElem? (i := 156) rfl) rfl
theorem gw4_157 : (Jvm.Cond.code ⟨"OriginRallyModel", "timeOf", "(II)I"⟩ prog_8_method_31_code 4 (Option.some Jvm.ClassFile.FieldType.int)) ∈ WG := WG_4 (List.mem_of_getElem? (i := 157) rfl) rfl
theorem gw4_158 : (Jvm.Cond.methodLink "OriginRallyModel" 143 ⟨"OriginRallyModel", "passedAt", "(II)I"⟩) ∈ WG := WG_4 (List.mem_of_getElem? (i := 158) rfl) rfl
theorem gw4_160 : (Jvm.Cond.instanceMethod ⟨"OriginRallyModel", "passedAt", "(II)I"⟩) ∈ WG := WG_4 (List.mem_of_getElem? (i := 160) rfl) rfl
theorem gw4_161 : (Jvm.Cond.code ⟨"OriginRallyModel", "passedAt", "(II)I"⟩ prog_8_method_17_code 6 (Option.some Jvm.ClassFile.FieldType.int)) ∈ WG := WG_4 (List.mem_of_getElem? (i := 161) rfl) rfl
theorem gw4_162 : (Jvm.Cond.methodLink "OriginRallyModel" 109 ⟨"OriginRallyModel", "cellOfGate", "(I)I"⟩) ∈ WG := WG_4 (List.mem_of_getElem? (i := 162) rfl) rfl
theorem gw4_164 : (Jvm.Cond.instanceMethod ⟨"OriginRallyModel", "cellOfGate", "(I)I"⟩) ∈ WG := WG_4 (List.mem_of_getElem? (i := 164) rfl) rfl
theorem gw4_165 : (Jvm.Cond.code ⟨"OriginRallyModel", "cellOfGate", "(I)I"⟩ prog_8_method_15_code 2 (Option.some Jvm.ClassFile.FieldType.int)) ∈ WG := WG_4 (List.mem_of_getElem? (i := 165) rfl) rfl
theorem gw4_166 : (Jvm.Cond.methodLink "OriginRallyModel" 112 ⟨"OriginRallyModel", "firstIn", "(III)I"⟩) ∈ WG := WG_4 (List.mem_of_getElem? (i := 166) rfl) rfl
theorem gw4_168 : (Jvm.Cond.instanceMethod ⟨"OriginRallyModel", "firstIn", "(III)I"⟩) ∈ WG := WG_4 (List.mem_of_getElem? (i := 168) rfl) rfl
theorem gw4_169 : (Jvm.Cond.code ⟨"OriginRallyModel", "firstIn", "(III)I"⟩ prog_8_method_16_code 7 (Option.some Jvm.ClassFile.FieldType.int)) ∈ WG := WG_4 (List.mem_of_getElem? (i := 169) rfl) rfl
theorem gw4_170 : (Jvm.Cond.methodLink "OriginRallyLaw" 154 ⟨"OriginRallyModel", "appeal", "(II)Z"⟩) ∈ WG := WG_4 (List.mem_of_getElem? (i := 170) rfl) rfl
theorem gw4_171 : (Jvm.Cond.instanceMethod ⟨"OriginRallyModel", "appeal", "(II)Z"⟩) ∈ WG := WG_4 (List.mem_of_getElem? (i := 171) rfl) rfl
theorem gw4_172 : (Jvm.Cond.selects "OriginRallyModel" ⟨"OriginRallyModel", "appeal", "(II)Z"⟩ ⟨"OriginRallyModel", "appeal", "(II)Z"⟩) ∈ WG := WG_4 (List.mem_of_getElem? (i := 172) rfl) rfl
theorem gw4_173 : (Jvm.Cond.code ⟨"OriginRallyModel", "appeal", "(II)Z"⟩ prog_8_method_33_code 5 (Option.some Jvm.ClassFile.FieldType.boolean)) ∈ WG := WG_4 (List.mem_of_getElem? (i := 173) rfl) rfl
theorem gw4_174 : (Jvm.Cond.methodLink "OriginRallyLaw" 158 ⟨"OriginRallyModel", "gates", "()I"⟩) ∈ WG := WG_4 (List.mem_of_getElem? (i := 174) rfl) rfl
theorem gw4_175 : (Jvm.Cond.instanceMethod ⟨"OriginRallyModel", "gates", "()I"⟩) ∈ WG := WG_4 (List.mem_of_getElem? (i := 175) rfl) rfl
theorem gw4_176 : (Jvm.Cond.selects "OriginRallyModel" ⟨"OriginRallyModel", "gates", "()I"⟩ ⟨"OriginRallyModel", "gates", "()I"⟩) ∈ WG := WG_4 (List.mem_of_getElem? (i := 176) rfl) rfl
theorem gw4_177 : (Jvm.Cond.code ⟨"OriginRallyModel", "gates", "()I"⟩ prog_8_method_34_code 1 (Option.some Jvm.ClassFile.FieldType.int)) ∈ WG := WG_4 (List.mem_of_getElem? (i := 177) rfl) rfl
theorem gw4_178 : (Jvm.Cond.methodLink "OriginRallyLaw" 161 ⟨"OriginRallyModel", "cellOf", "(I)I"⟩) ∈ WG := WG_4 (List.mem_of_getElem? (i := 178) rfl) rfl
theorem gw4_179 : (Jvm.Cond.instanceMethod ⟨"OriginRallyModel", "cellOf", "(I)I"⟩) ∈ WG := WG_4 (List.mem_of_getElem? (i := 179) rfl) rfl
theorem gw4_180 : (Jvm.Cond.selects "OriginRallyModel" ⟨"OriginRallyModel", "cellOf", "(I)I"⟩ ⟨"OriginRallyModel", "cellOf", "(I)I"⟩) ∈ WG := WG_4 (List.mem_of_getElem? (i := 180) rfl) rfl
theorem gw4_181 : (Jvm.Cond.code ⟨"OriginRallyModel", "cellOf", "(I)I"⟩ prog_8_method_35_code 2 (Option.some Jvm.ClassFile.FieldType.int)) ∈ WG := WG_4 (List.mem_of_getElem? (i := 181) rfl) rfl
theorem gw4_182 : (Jvm.Cond.methodLink "OriginRallyLaw" 164 ⟨"OriginRallyModel", "due", "(I)I"⟩) ∈ WG := WG_4 (List.mem_of_getElem? (i := 182) rfl) rfl
theorem gw4_183 : (Jvm.Cond.instanceMethod ⟨"OriginRallyModel", "due", "(I)I"⟩) ∈ WG := WG_4 (List.mem_of_getElem? (i := 183) rfl) rfl
theorem gw4_184 : (Jvm.Cond.selects "OriginRallyModel" ⟨"OriginRallyModel", "due", "(I)I"⟩ ⟨"OriginRallyModel", "due", "(I)I"⟩) ∈ WG := WG_4 (List.mem_of_getElem? (i := 184) rfl) rfl
theorem gw4_185 : (Jvm.Cond.code ⟨"OriginRallyModel", "due", "(I)I"⟩ prog_8_method_37_code 2 (Option.some Jvm.ClassFile.FieldType.int)) ∈ WG := WG_4 (List.mem_of_getElem? (i := 185) rfl) rfl
theorem gw4_186 : (Jvm.Cond.methodLink "OriginRallyModel" 153 ⟨"OriginRallyModel", "dueAt", "(I)I"⟩) ∈ WG := WG_4 (List.mem_of_getElem? (i := 186) rfl) rfl
theorem gw4_188 : (Jvm.Cond.instanceMethod ⟨"OriginRallyModel", "dueAt", "(I)I"⟩) ∈ WG := WG_4 (List.mem_of_getElem? (i := 188) rfl) rfl
theorem gw4_189 : (Jvm.Cond.code ⟨"OriginRallyModel", "dueAt", "(I)I"⟩ prog_8_method_36_code 4 (Option.some Jvm.ClassFile.FieldType.int)) ∈ WG := WG_4 (List.mem_of_getElem? (i := 189) rfl) rfl
theorem gw4_190 : (Jvm.Cond.methodLink "OriginRallyLaw" 167 ⟨"OriginRallyModel", "followed", "(I)I"⟩) ∈ WG := WG_4 (List.mem_of_getElem? (i := 190) rfl) rfl
theorem gw4_191 : (Jvm.Cond.instanceMethod ⟨"OriginRallyModel", "followed", "(I)I"⟩) ∈ WG := WG_4 (List.mem_of_getElem? (i := 191) rfl) rfl
theorem gw4_192 : (Jvm.Cond.selects "OriginRallyModel" ⟨"OriginRallyModel", "followed", "(I)I"⟩ ⟨"OriginRallyModel", "followed", "(I)I"⟩) ∈ WG := WG_4 (List.mem_of_getElem? (i := 192) rfl) rfl
theorem gw4_193 : (Jvm.Cond.code ⟨"OriginRallyModel", "followed", "(I)I"⟩ prog_8_method_38_code 5 (Option.some Jvm.ClassFile.FieldType.int)) ∈ WG := WG_4 (List.mem_of_getElem? (i := 193) rfl) rfl
theorem gw4_194 : (Jvm.Cond.methodLink "OriginRallyLaw" 170 ⟨"OriginRallyModel", "cellAt", "(II)I"⟩) ∈ WG := WG_4 (List.mem_of_getElem? (i := 194) rfl) rfl
theorem gw4_195 : (Jvm.Cond.instanceMethod ⟨"OriginRallyModel", "cellAt", "(II)I"⟩) ∈ WG := WG_4 (List.mem_of_getElem? (i := 195) rfl) rfl
theorem gw4_196 : (Jvm.Cond.selects "OriginRallyModel" ⟨"OriginRallyModel", "cellAt", "(II)I"⟩ ⟨"OriginRallyModel", "cellAt", "(II)I"⟩) ∈ WG := WG_4 (List.mem_of_getElem? (i := 196) rfl) rfl
theorem gw4_197 : (Jvm.Cond.code ⟨"OriginRallyModel", "cellAt", "(II)I"⟩ prog_8_method_39_code 4 (Option.some Jvm.ClassFile.FieldType.int)) ∈ WG := WG_4 (List.mem_of_getElem? (i := 197) rfl) rfl
theorem gw4_198 : (Jvm.Cond.methodLink "OriginRallyLaw" 173 ⟨"OriginRallyModel", "clock", "(I)I"⟩) ∈ WG := WG_4 (List.mem_of_getElem? (i := 198) rfl) rfl
theorem gw4_199 : (Jvm.Cond.instanceMethod ⟨"OriginRallyModel", "clock", "(I)I"⟩) ∈ WG := WG_4 (List.mem_of_getElem? (i := 199) rfl) rfl
theorem gw4_200 : (Jvm.Cond.selects "OriginRallyModel" ⟨"OriginRallyModel", "clock", "(I)I"⟩ ⟨"OriginRallyModel", "clock", "(I)I"⟩) ∈ WG := WG_4 (List.mem_of_getElem? (i := 200) rfl) rfl
theorem gw4_201 : (Jvm.Cond.code ⟨"OriginRallyModel", "clock", "(I)I"⟩ prog_8_method_40_code 2 (Option.some Jvm.ClassFile.FieldType.int)) ∈ WG := WG_4 (List.mem_of_getElem? (i := 201) rfl) rfl
theorem gw4_202 : (Jvm.Cond.methodLink "OriginRallyLaw" 176 ⟨"OriginRallyModel", "byTrack", "(II)I"⟩) ∈ WG := WG_4 (List.mem_of_getElem? (i := 202) rfl) rfl
theorem gw4_203 : (Jvm.Cond.instanceMethod ⟨"OriginRallyModel", "byTrack", "(II)I"⟩) ∈ WG := WG_4 (List.mem_of_getElem? (i := 203) rfl) rfl
theorem gw4_204 : (Jvm.Cond.selects "OriginRallyModel" ⟨"OriginRallyModel", "byTrack", "(II)I"⟩ ⟨"OriginRallyModel", "byTrack", "(II)I"⟩) ∈ WG := WG_4 (List.mem_of_getElem? (i := 204) rfl) rfl
theorem gw4_205 : (Jvm.Cond.code ⟨"OriginRallyModel", "byTrack", "(II)I"⟩ prog_8_method_41_code 3 (Option.some Jvm.ClassFile.FieldType.int)) ∈ WG := WG_4 (List.mem_of_getElem? (i := 205) rfl) rfl
theorem gw4_206 : (Jvm.Cond.methodLink "OriginRallyModel" 156 ⟨"OriginRallyModel", "byMinutes", "(II)I"⟩) ∈ WG := WG_4 (List.mem_of_getElem? (i := 206) rfl) rfl
theorem gw4_207 : (Jvm.Cond.instanceMethod ⟨"OriginRallyModel", "byMinutes", "(II)I"⟩) ∈ WG := WG_4 (List.mem_of_getElem? (i := 207) rfl) rfl
theorem gw4_208 : (Jvm.Cond.selects "OriginRallyModel" ⟨"OriginRallyModel", "byMinutes", "(II)I"⟩ ⟨"OriginRallyModel", "byMinutes", "(II)I"⟩) ∈ WG := WG_4 (List.mem_of_getElem? (i := 208) rfl) rfl
theorem gw4_209 : (Jvm.Cond.code ⟨"OriginRallyModel", "byMinutes", "(II)I"⟩ prog_8_method_42_code 3 (Option.some Jvm.ClassFile.FieldType.int)) ∈ WG := WG_4 (List.mem_of_getElem? (i := 209) rfl) rfl
theorem gw4_210 : (Jvm.Cond.methodLink "OriginRallyLaw" 179 ⟨"OriginRallyModel", "byMinutes", "(II)I"⟩) ∈ WG := WG_4 (List.mem_of_getElem? (i := 210) rfl) rfl
theorem gw4_211 : (Jvm.Cond.methodLink "OriginRallyLaw" 182 ⟨"OriginRallyModel", "time", "(II)I"⟩) ∈ WG := WG_4 (List.mem_of_getElem? (i := 211) rfl) rfl
theorem gw4_212 : (Jvm.Cond.instanceMethod ⟨"OriginRallyModel", "time", "(II)I"⟩) ∈ WG := WG_4 (List.mem_of_getElem? (i := 212) rfl) rfl
theorem gw4_213 : (Jvm.Cond.selects "OriginRallyModel" ⟨"OriginRallyModel", "time", "(II)I"⟩ ⟨"OriginRallyModel", "time", "(II)I"⟩) ∈ WG := WG_4 (List.mem_of_getElem? (i := 213) rfl) rfl
theorem gw4_214 : (Jvm.Cond.code ⟨"OriginRallyModel", "time", "(II)I"⟩ prog_8_method_43_code 3 (Option.some Jvm.ClassFile.FieldType.int)) ∈ WG := WG_4 (List.mem_of_getElem? (i := 214) rfl) rfl
theorem gw4_215 : (Jvm.Cond.methodLink "OriginRallyLaw" 185 ⟨"OriginRallyModel", "points", "(I)I"⟩) ∈ WG := WG_4 (List.mem_of_getElem? (i := 215) rfl) rfl
theorem gw4_216 : (Jvm.Cond.instanceMethod ⟨"OriginRallyModel", "points", "(I)I"⟩) ∈ WG := WG_4 (List.mem_of_getElem? (i := 216) rfl) rfl
theorem gw4_217 : (Jvm.Cond.selects "OriginRallyModel" ⟨"OriginRallyModel", "points", "(I)I"⟩ ⟨"OriginRallyModel", "points", "(I)I"⟩) ∈ WG := WG_4 (List.mem_of_getElem? (i := 217) rfl) rfl
theorem gw4_218 : (Jvm.Cond.code ⟨"OriginRallyModel", "points", "(I)I"⟩ prog_8_method_45_code 2 (Option.some Jvm.ClassFile.FieldType.int)) ∈ WG := WG_4 (List.mem_of_getElem? (i := 218) rfl) rfl
theorem gw4_219 : (Jvm.Cond.methodLink "OriginRallyModel" 159 ⟨"OriginRallyModel", "pointsOf", "(I)I"⟩) ∈ WG := WG_4 (List.mem_of_getElem? (i := 219) rfl) rfl
theorem gw4_221 : (Jvm.Cond.instanceMethod ⟨"OriginRallyModel", "pointsOf", "(I)I"⟩) ∈ WG := WG_4 (List.mem_of_getElem? (i := 221) rfl) rfl
theorem gw4_222 : (Jvm.Cond.code ⟨"OriginRallyModel", "pointsOf", "(I)I"⟩ prog_8_method_44_code 10 (Option.some Jvm.ClassFile.FieldType.int)) ∈ WG := WG_4 (List.mem_of_getElem? (i := 222) rfl) rfl
theorem gw4_223 : (Jvm.Cond.methodLink "OriginRallyLaw" 188 ⟨"OriginRallyModel", "table", "(I)I"⟩) ∈ WG := WG_4 (List.mem_of_getElem? (i := 223) rfl) rfl
theorem gw4_224 : (Jvm.Cond.instanceMethod ⟨"OriginRallyModel", "table", "(I)I"⟩) ∈ WG := WG_4 (List.mem_of_getElem? (i := 224) rfl) rfl
theorem gw4_225 : (Jvm.Cond.selects "OriginRallyModel" ⟨"OriginRallyModel", "table", "(I)I"⟩ ⟨"OriginRallyModel", "table", "(I)I"⟩) ∈ WG := WG_4 (List.mem_of_getElem? (i := 225) rfl) rfl
theorem gw4_226 : (Jvm.Cond.code ⟨"OriginRallyModel", "table", "(I)I"⟩ prog_8_method_46_code 6 (Option.some Jvm.ClassFile.FieldType.int)) ∈ WG := WG_4 (List.mem_of_getElem? (i := 226) rfl) rfl
theorem gw4_227 : (Jvm.Cond.methodLink "OriginRallyLaw" 191 ⟨"OriginRallyModel", "where", "(I)I"⟩) ∈ WG := WG_4 (List.mem_of_getElem? (i := 227) rfl) rfl
theorem gw4_228 : (Jvm.Cond.instanceMethod ⟨"OriginRallyModel", "where", "(I)I"⟩) ∈ WG := WG_4 (List.mem_of_getElem? (i := 228) rfl) rfl
theorem gw4_229 : (Jvm.Cond.selects "OriginRallyModel" ⟨"OriginRallyModel", "where", "(I)I"⟩ ⟨"OriginRallyModel", "where", "(I)I"⟩) ∈ WG := WG_4 (List.mem_of_getElem? (i := 229) rfl) rfl
theorem gw4_230 : (Jvm.Cond.code ⟨"OriginRallyModel", "where", "(I)I"⟩ prog_8_method_48_code 2 (Option.some Jvm.ClassFile.FieldType.int)) ∈ WG := WG_4 (List.mem_of_getElem? (i := 230) rfl) rfl
theorem gw4_231 : (Jvm.Cond.methodLink "OriginRallyModel" 162 ⟨"OriginRallyModel", "isPart", "(I)Z"⟩) ∈ WG := WG_4 (List.mem_of_getElem? (i := 231) rfl) rfl
theorem gw4_233 : (Jvm.Cond.instanceMethod ⟨"OriginRallyModel", "isPart", "(I)Z"⟩) ∈ WG := WG_4 (List.mem_of_getElem? (i := 233) rfl) rfl
theorem gw4_234 : (Jvm.Cond.code ⟨"OriginRallyModel", "isPart", "(I)Z"⟩ prog_8_method_47_code 2 (Option.some Jvm.ClassFile.FieldType.boolean)) ∈ WG := WG_4 (List.mem_of_getElem? (i := 234) rfl) rfl
theorem gw4_235 : (Jvm.Cond.methodLink "OriginRallyLaw" 194 ⟨"OriginRallyModel", "lent", "(I)I"⟩) ∈ WG := WG_4 (List.mem_of_getElem? (i := 235) rfl) rfl
theorem gw4_236 : (Jvm.Cond.instanceMethod ⟨"OriginRallyModel", "lent", "(I)I"⟩) ∈ WG := WG_4 (List.mem_of_getElem? (i := 236) rfl) rfl
theorem gw4_237 : (Jvm.Cond.selects "OriginRallyModel" ⟨"OriginRallyModel", "lent", "(I)I"⟩ ⟨"OriginRallyModel", "lent", "(I)I"⟩) ∈ WG := WG_4 (List.mem_of_getElem? (i := 237) rfl) rfl
theorem gw4_238 : (Jvm.Cond.code ⟨"OriginRallyModel", "lent", "(I)I"⟩ prog_8_method_49_code 5 (Option.some Jvm.ClassFile.FieldType.int)) ∈ WG := WG_4 (List.mem_of_getElem? (i := 238) rfl) rfl
theorem gw4_239 : (Jvm.Cond.methodLink "OriginRallyLaw" 197 ⟨"OriginRallyModel", "isBroken", "(I)Z"⟩) ∈ WG := WG_4 (List.mem_of_getElem? (i := 239) rfl) rfl
theorem gw5_0 : (Jvm.Cond.instanceMethod ⟨"OriginRallyModel", "isBroken", "(I)Z"⟩) ∈ WG := WG_5 (List.mem_of_getElem? (i := 0) rfl) rfl
theorem gw5_1 : (Jvm.Cond.selects "OriginRallyModel" ⟨"OriginRallyModel", "isBroken", "(I)Z"⟩ ⟨"OriginRallyModel", "isBroken", "(I)Z"⟩) ∈ WG := WG_5 (List.mem_of_getElem? (i := 1) rfl) rfl
theorem gw5_2 : (Jvm.Cond.code ⟨"OriginRallyModel", "isBroken", "(I)Z"⟩ prog_8_method_50_code 2 (Option.some Jvm.ClassFile.FieldType.boolean)) ∈ WG := WG_5 (List.mem_of_getElem? (i := 2) rfl) rfl
theorem gw5_3 : (Jvm.Cond.arrayClass Jvm.ClassFile.FieldType.long) ∈ WG := WG_5 (List.mem_of_getElem? (i := 3) rfl) rfl
theorem gws_0 : Cond.selects (⟨"java/lang/Throwable", "fillInStackTrace", "(I)Ljava/lang/Throwable;"⟩ : MethodName).cls ⟨"java/lang/Throwable", "fillInStackTrace", "(I)Ljava/lang/Throwable;"⟩ ⟨"java/lang/Throwable", "fillInStackTrace", "(I)Ljava/lang/Throwable;"⟩ ∈ WG := WG_s (List.mem_map.mpr ⟨(⟨"java/lang/Throwable", "fillInStackTrace", "(I)Ljava/lang/Throwable;"⟩, 6), List.mem_of_getElem? (i := 0) rfl, rfl⟩) rfl
theorem gws_1 : Cond.selects (⟨"OriginRally$Way", "append", "(LOriginRally$Piece;)V"⟩ : MethodName).cls ⟨"OriginRally$Way", "append", "(LOriginRally$Piece;)V"⟩ ⟨"OriginRally$Way", "append", "(LOriginRally$Piece;)V"⟩ ∈ WG := WG_s (List.mem_map.mpr ⟨(⟨"OriginRally$Way", "append", "(LOriginRally$Piece;)V"⟩, 5), List.mem_of_getElem? (i := 1) rfl, rfl⟩) rfl
theorem gws_2 : Cond.selects (⟨"OriginRally", "entryAt", "(I)LOriginRally$Piece;"⟩ : MethodName).cls ⟨"OriginRally", "entryAt", "(I)LOriginRally$Piece;"⟩ ⟨"OriginRally", "entryAt", "(I)LOriginRally$Piece;"⟩ ∈ WG := WG_s (List.mem_map.mpr ⟨(⟨"OriginRally", "entryAt", "(I)LOriginRally$Piece;"⟩, 10), List.mem_of_getElem? (i := 2) rfl, rfl⟩) rfl
theorem gws_3 : Cond.selects (⟨"OriginRally", "lastGateEntry", "()I"⟩ : MethodName).cls ⟨"OriginRally", "lastGateEntry", "()I"⟩ ⟨"OriginRally", "lastGateEntry", "()I"⟩ ∈ WG := WG_s (List.mem_map.mpr ⟨(⟨"OriginRally", "lastGateEntry", "()I"⟩, 10), List.mem_of_getElem? (i := 3) rfl, rfl⟩) rfl
theorem gws_4 : Cond.selects (⟨"OriginRally", "gateAt", "(I)LOriginRally$Gate;"⟩ : MethodName).cls ⟨"OriginRally", "gateAt", "(I)LOriginRally$Gate;"⟩ ⟨"OriginRally", "gateAt", "(I)LOriginRally$Gate;"⟩ ∈ WG := WG_s (List.mem_map.mpr ⟨(⟨"OriginRally", "gateAt", "(I)LOriginRally$Gate;"⟩, 10), List.mem_of_getElem? (i := 4) rfl, rfl⟩) rfl
theorem gws_5 : Cond.selects (⟨"OriginRally", "carAt", "(I)LOriginRally$Car;"⟩ : MethodName).cls ⟨"OriginRally", "carAt", "(I)LOriginRally$Car;"⟩ ⟨"OriginRally", "carAt", "(I)LOriginRally$Car;"⟩ ∈ WG := WG_s (List.mem_map.mpr ⟨(⟨"OriginRally", "carAt", "(I)LOriginRally$Car;"⟩, 10), List.mem_of_getElem? (i := 5) rfl, rfl⟩) rfl
theorem gws_6 : Cond.selects (⟨"OriginRally", "isCar", "(I)Z"⟩ : MethodName).cls ⟨"OriginRally", "isCar", "(I)Z"⟩ ⟨"OriginRally", "isCar", "(I)Z"⟩ ∈ WG := WG_s (List.mem_map.mpr ⟨(⟨"OriginRally", "isCar", "(I)Z"⟩, 10), List.mem_of_getElem? (i := 6) rfl, rfl⟩) rfl
theorem gws_7 : Cond.selects (⟨"OriginRally", "firstPartIn", "(II)I"⟩ : MethodName).cls ⟨"OriginRally", "firstPartIn", "(II)I"⟩ ⟨"OriginRally", "firstPartIn", "(II)I"⟩ ∈ WG := WG_s (List.mem_map.mpr ⟨(⟨"OriginRally", "firstPartIn", "(II)I"⟩, 10), List.mem_of_getElem? (i := 7) rfl, rfl⟩) rfl
theorem gws_8 : Cond.selects (⟨"OriginRally", "partAt", "(I)LOriginRally$Part;"⟩ : MethodName).cls ⟨"OriginRally", "partAt", "(I)LOriginRally$Part;"⟩ ⟨"OriginRally", "partAt", "(I)LOriginRally$Part;"⟩ ∈ WG := WG_s (List.mem_map.mpr ⟨(⟨"OriginRally", "partAt", "(I)LOriginRally$Part;"⟩, 10), List.mem_of_getElem? (i := 8) rfl, rfl⟩) rfl
theorem gws_9 : Cond.selects (⟨"OriginRally", "isPlace", "(I)Z"⟩ : MethodName).cls ⟨"OriginRally", "isPlace", "(I)Z"⟩ ⟨"OriginRally", "isPlace", "(I)Z"⟩ ∈ WG := WG_s (List.mem_map.mpr ⟨(⟨"OriginRally", "isPlace", "(I)Z"⟩, 10), List.mem_of_getElem? (i := 9) rfl, rfl⟩) rfl
theorem gws_10 : Cond.selects (⟨"OriginRally", "cellOfPlace", "(I)I"⟩ : MethodName).cls ⟨"OriginRally", "cellOfPlace", "(I)I"⟩ ⟨"OriginRally", "cellOfPlace", "(I)I"⟩ ∈ WG := WG_s (List.mem_map.mpr ⟨(⟨"OriginRally", "cellOfPlace", "(I)I"⟩, 10), List.mem_of_getElem? (i := 10) rfl, rfl⟩) rfl
theorem gws_11 : Cond.selects (⟨"OriginRally", "checkGate", "(I)V"⟩ : MethodName).cls ⟨"OriginRally", "checkGate", "(I)V"⟩ ⟨"OriginRally", "checkGate", "(I)V"⟩ ∈ WG := WG_s (List.mem_map.mpr ⟨(⟨"OriginRally", "checkGate", "(I)V"⟩, 10), List.mem_of_getElem? (i := 11) rfl, rfl⟩) rfl
theorem gws_12 : Cond.selects (⟨"OriginRally", "passMinute", "(LOriginRally$Car;I)I"⟩ : MethodName).cls ⟨"OriginRally", "passMinute", "(LOriginRally$Car;I)I"⟩ ⟨"OriginRally", "passMinute", "(LOriginRally$Car;I)I"⟩ ∈ WG := WG_s (List.mem_map.mpr ⟨(⟨"OriginRally", "passMinute", "(LOriginRally$Car;I)I"⟩, 10), List.mem_of_getElem? (i := 12) rfl, rfl⟩) rfl
theorem gws_13 : Cond.selects (⟨"OriginRally$Piece", "cellsOnTo", "(I)I"⟩ : MethodName).cls ⟨"OriginRally$Piece", "cellsOnTo", "(I)I"⟩ ⟨"OriginRally$Piece", "cellsOnTo", "(I)I"⟩ ∈ WG := WG_s (List.mem_map.mpr ⟨(⟨"OriginRally$Piece", "cellsOnTo", "(I)I"⟩, 6), List.mem_of_getElem? (i := 13) rfl, rfl⟩) rfl
theorem gws_14 : Cond.selects (⟨"OriginRally$Way", "endsAhead", "(II)Z"⟩ : MethodName).cls ⟨"OriginRally$Way", "endsAhead", "(II)Z"⟩ ⟨"OriginRally$Way", "endsAhead", "(II)Z"⟩ ∈ WG := WG_s (List.mem_map.mpr ⟨(⟨"OriginRally$Way", "endsAhead", "(II)Z"⟩, 5), List.mem_of_getElem? (i := 14) rfl, rfl⟩) rfl
theorem gws_15 : Cond.selects (⟨"OriginRally", "pointsOf", "(LOriginRally$Car;)I"⟩ : MethodName).cls ⟨"OriginRally", "pointsOf", "(LOriginRally$Car;)I"⟩ ⟨"OriginRally", "pointsOf", "(LOriginRally$Car;)I"⟩ ∈ WG := WG_s (List.mem_map.mpr ⟨(⟨"OriginRally", "pointsOf", "(LOriginRally$Car;)I"⟩, 10), List.mem_of_getElem? (i := 15) rfl, rfl⟩) rfl
theorem gws_16 : Cond.selects (⟨"OriginRally", "placeOf", "(I)I"⟩ : MethodName).cls ⟨"OriginRally", "placeOf", "(I)I"⟩ ⟨"OriginRally", "placeOf", "(I)I"⟩ ∈ WG := WG_s (List.mem_map.mpr ⟨(⟨"OriginRally", "placeOf", "(I)I"⟩, 10), List.mem_of_getElem? (i := 16) rfl, rfl⟩) rfl
theorem gws_17 : Cond.selects (⟨"OriginRallyModel", "goesWell", "(I)Z"⟩ : MethodName).cls ⟨"OriginRallyModel", "goesWell", "(I)Z"⟩ ⟨"OriginRallyModel", "goesWell", "(I)Z"⟩ ∈ WG := WG_s (List.mem_map.mpr ⟨(⟨"OriginRallyModel", "goesWell", "(I)Z"⟩, 26), List.mem_of_getElem? (i := 17) rfl, rfl⟩) rfl
theorem gws_18 : Cond.selects (⟨"OriginRallyModel", "followBook", "(I)V"⟩ : MethodName).cls ⟨"OriginRallyModel", "followBook", "(I)V"⟩ ⟨"OriginRallyModel", "followBook", "(I)V"⟩ ∈ WG := WG_s (List.mem_map.mpr ⟨(⟨"OriginRallyModel", "followBook", "(I)V"⟩, 26), List.mem_of_getElem? (i := 18) rfl, rfl⟩) rfl
theorem gws_19 : Cond.selects (⟨"OriginRallyModel", "begin", "()V"⟩ : MethodName).cls ⟨"OriginRallyModel", "begin", "()V"⟩ ⟨"OriginRallyModel", "begin", "()V"⟩ ∈ WG := WG_s (List.mem_map.mpr ⟨(⟨"OriginRallyModel", "begin", "()V"⟩, 26), List.mem_of_getElem? (i := 19) rfl, rfl⟩) rfl
theorem gws_20 : Cond.selects (⟨"OriginRallyModel", "goOn", "(I)V"⟩ : MethodName).cls ⟨"OriginRallyModel", "goOn", "(I)V"⟩ ⟨"OriginRallyModel", "goOn", "(I)V"⟩ ∈ WG := WG_s (List.mem_map.mpr ⟨(⟨"OriginRallyModel", "goOn", "(I)V"⟩, 26), List.mem_of_getElem? (i := 20) rfl, rfl⟩) rfl
theorem gws_21 : Cond.selects (⟨"OriginRallyModel", "isOnGround", "()Z"⟩ : MethodName).cls ⟨"OriginRallyModel", "isOnGround", "()Z"⟩ ⟨"OriginRallyModel", "isOnGround", "()Z"⟩ ∈ WG := WG_s (List.mem_map.mpr ⟨(⟨"OriginRallyModel", "isOnGround", "()Z"⟩, 26), List.mem_of_getElem? (i := 21) rfl, rfl⟩) rfl
theorem gws_22 : Cond.selects (⟨"OriginRallyModel", "cell", "()I"⟩ : MethodName).cls ⟨"OriginRallyModel", "cell", "()I"⟩ ⟨"OriginRallyModel", "cell", "()I"⟩ ∈ WG := WG_s (List.mem_map.mpr ⟨(⟨"OriginRallyModel", "cell", "()I"⟩, 26), List.mem_of_getElem? (i := 22) rfl, rfl⟩) rfl
theorem gws_23 : Cond.selects (⟨"OriginRallyModel", "isCar", "(I)Z"⟩ : MethodName).cls ⟨"OriginRallyModel", "isCar", "(I)Z"⟩ ⟨"OriginRallyModel", "isCar", "(I)Z"⟩ ∈ WG := WG_s (List.mem_map.mpr ⟨(⟨"OriginRallyModel", "isCar", "(I)Z"⟩, 26), List.mem_of_getElem? (i := 23) rfl, rfl⟩) rfl
theorem gws_24 : Cond.selects (⟨"OriginRallyModel", "clockOf", "(I)I"⟩ : MethodName).cls ⟨"OriginRallyModel", "clockOf", "(I)I"⟩ ⟨"OriginRallyModel", "clockOf", "(I)I"⟩ ∈ WG := WG_s (List.mem_map.mpr ⟨(⟨"OriginRallyModel", "clockOf", "(I)I"⟩, 26), List.mem_of_getElem? (i := 24) rfl, rfl⟩) rfl
theorem gws_25 : Cond.selects (⟨"OriginRallyModel", "followTrack", "(II)V"⟩ : MethodName).cls ⟨"OriginRallyModel", "followTrack", "(II)V"⟩ ⟨"OriginRallyModel", "followTrack", "(II)V"⟩ ∈ WG := WG_s (List.mem_map.mpr ⟨(⟨"OriginRallyModel", "followTrack", "(II)V"⟩, 26), List.mem_of_getElem? (i := 25) rfl, rfl⟩) rfl
theorem gws_26 : Cond.selects (⟨"OriginRallyModel", "addPiece", "(IIII)I"⟩ : MethodName).cls ⟨"OriginRallyModel", "addPiece", "(IIII)I"⟩ ⟨"OriginRallyModel", "addPiece", "(IIII)I"⟩ ∈ WG := WG_s (List.mem_map.mpr ⟨(⟨"OriginRallyModel", "addPiece", "(IIII)I"⟩, 26), List.mem_of_getElem? (i := 26) rfl, rfl⟩) rfl
theorem gws_27 : Cond.selects (⟨"OriginRallyModel", "cellOfPlace", "(I)I"⟩ : MethodName).cls ⟨"OriginRallyModel", "cellOfPlace", "(I)I"⟩ ⟨"OriginRallyModel", "cellOfPlace", "(I)I"⟩ ∈ WG := WG_s (List.mem_map.mpr ⟨(⟨"OriginRallyModel", "cellOfPlace", "(I)I"⟩, 26), List.mem_of_getElem? (i := 27) rfl, rfl⟩) rfl
theorem gws_28 : Cond.selects (⟨"OriginRallyModel", "cellNow", "(I)I"⟩ : MethodName).cls ⟨"OriginRallyModel", "cellNow", "(I)I"⟩ ⟨"OriginRallyModel", "cellNow", "(I)I"⟩ ∈ WG := WG_s (List.mem_map.mpr ⟨(⟨"OriginRallyModel", "cellNow", "(I)I"⟩, 26), List.mem_of_getElem? (i := 28) rfl, rfl⟩) rfl
theorem gws_29 : Cond.selects (⟨"OriginRallyModel", "isGate", "(I)Z"⟩ : MethodName).cls ⟨"OriginRallyModel", "isGate", "(I)Z"⟩ ⟨"OriginRallyModel", "isGate", "(I)Z"⟩ ∈ WG := WG_s (List.mem_map.mpr ⟨(⟨"OriginRallyModel", "isGate", "(I)Z"⟩, 26), List.mem_of_getElem? (i := 29) rfl, rfl⟩) rfl
theorem gws_30 : Cond.selects (⟨"OriginRallyModel", "timeOf", "(II)I"⟩ : MethodName).cls ⟨"OriginRallyModel", "timeOf", "(II)I"⟩ ⟨"OriginRallyModel", "timeOf", "(II)I"⟩ ∈ WG := WG_s (List.mem_map.mpr ⟨(⟨"OriginRallyModel", "timeOf", "(II)I"⟩, 26), List.mem_of_getElem? (i := 30) rfl, rfl⟩) rfl
theorem gws_31 : Cond.selects (⟨"OriginRallyModel", "passedAt", "(II)I"⟩ : MethodName).cls ⟨"OriginRallyModel", "passedAt", "(II)I"⟩ ⟨"OriginRallyModel", "passedAt", "(II)I"⟩ ∈ WG := WG_s (List.mem_map.mpr ⟨(⟨"OriginRallyModel", "passedAt", "(II)I"⟩, 26), List.mem_of_getElem? (i := 31) rfl, rfl⟩) rfl
theorem gws_32 : Cond.selects (⟨"OriginRallyModel", "cellOfGate", "(I)I"⟩ : MethodName).cls ⟨"OriginRallyModel", "cellOfGate", "(I)I"⟩ ⟨"OriginRallyModel", "cellOfGate", "(I)I"⟩ ∈ WG := WG_s (List.mem_map.mpr ⟨(⟨"OriginRallyModel", "cellOfGate", "(I)I"⟩, 26), List.mem_of_getElem? (i := 32) rfl, rfl⟩) rfl
theorem gws_33 : Cond.selects (⟨"OriginRallyModel", "firstIn", "(III)I"⟩ : MethodName).cls ⟨"OriginRallyModel", "firstIn", "(III)I"⟩ ⟨"OriginRallyModel", "firstIn", "(III)I"⟩ ∈ WG := WG_s (List.mem_map.mpr ⟨(⟨"OriginRallyModel", "firstIn", "(III)I"⟩, 26), List.mem_of_getElem? (i := 33) rfl, rfl⟩) rfl
theorem gws_34 : Cond.selects (⟨"OriginRallyModel", "dueAt", "(I)I"⟩ : MethodName).cls ⟨"OriginRallyModel", "dueAt", "(I)I"⟩ ⟨"OriginRallyModel", "dueAt", "(I)I"⟩ ∈ WG := WG_s (List.mem_map.mpr ⟨(⟨"OriginRallyModel", "dueAt", "(I)I"⟩, 26), List.mem_of_getElem? (i := 34) rfl, rfl⟩) rfl
theorem gws_35 : Cond.selects (⟨"OriginRallyModel", "pointsOf", "(I)I"⟩ : MethodName).cls ⟨"OriginRallyModel", "pointsOf", "(I)I"⟩ ⟨"OriginRallyModel", "pointsOf", "(I)I"⟩ ∈ WG := WG_s (List.mem_map.mpr ⟨(⟨"OriginRallyModel", "pointsOf", "(I)I"⟩, 26), List.mem_of_getElem? (i := 35) rfl, rfl⟩) rfl
theorem gws_36 : Cond.selects (⟨"OriginRallyModel", "isPart", "(I)Z"⟩ : MethodName).cls ⟨"OriginRallyModel", "isPart", "(I)Z"⟩ ⟨"OriginRallyModel", "isPart", "(I)Z"⟩ ∈ WG := WG_s (List.mem_map.mpr ⟨(⟨"OriginRallyModel", "isPart", "(I)Z"⟩, 26), List.mem_of_getElem? (i := 36) rfl, rfl⟩) rfl
