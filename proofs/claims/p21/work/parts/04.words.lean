/-- the words that any method may want: those of the tables that every call keeps -/
def WS : List Cond := lw_tbl.filter goodWord
theorem ws_of {w : Cond} (h : w ∈ tables_1) (g : goodWord w = true) : w ∈ WS := List.mem_filter.mpr ⟨List.mem_append_right _ h, g⟩
theorem ws_p {w : Cond} (h : w ∈ k2_sels lw_privs) (g : goodWord w = true) : w ∈ WS := List.mem_filter.mpr ⟨List.mem_append_left _ h, g⟩
theorem tb1 {w : Cond} {i : Nat} (h : tables_1_1[i]? = some w) (g : goodWord w = true) : w ∈ WS := ws_of (List.mem_append_left _ (List.mem_of_getElem? h)) g
theorem tb2 {w : Cond} {i : Nat} (h : tables_1_2[i]? = some w) (g : goodWord w = true) : w ∈ WS := ws_of (List.mem_append_right _ (List.mem_append_left _ (List.mem_of_getElem? h))) g
theorem tb3 {w : Cond} {i : Nat} (h : tables_1_3[i]? = some w) (g : goodWord w = true) : w ∈ WS := ws_of (List.mem_append_right _ (List.mem_append_right _ (List.mem_append_left _ (List.mem_of_getElem? h)))) g
theorem tb4 {w : Cond} {i : Nat} (h : tables_1_4[i]? = some w) (g : goodWord w = true) : w ∈ WS := ws_of (List.mem_append_right _ (List.mem_append_right _ (List.mem_append_right _ (List.mem_of_getElem? h)))) g
theorem qw_0 : Cond.initialized "DataroomLaw" ∈ WS := tb1 (i := 0) rfl rfl
theorem qw_1 : Cond.initialized "Dataroom" ∈ WS := tb1 (i := 1) rfl rfl
theorem qw_2 : Cond.initialized "java/util/AbstractCollection" ∈ WS := tb1 (i := 2) rfl rfl
theorem qw_3 : Cond.initialized "java/util/AbstractList" ∈ WS := tb1 (i := 3) rfl rfl
theorem qw_4 : Cond.initialized "java/util/ArrayList" ∈ WS := tb1 (i := 4) rfl rfl
theorem qw_5 : Cond.initialized "Dataroom$Knowledge" ∈ WS := tb1 (i := 5) rfl rfl
theorem qw_6 : Cond.initialized "Dataroom$Marks" ∈ WS := tb1 (i := 6) rfl rfl
theorem qw_7 : Cond.initialized "java/lang/Throwable" ∈ WS := tb1 (i := 7) rfl rfl
theorem qw_8 : Cond.initialized "java/lang/Exception" ∈ WS := tb1 (i := 8) rfl rfl
theorem qw_9 : Cond.initialized "java/lang/RuntimeException" ∈ WS := tb1 (i := 9) rfl rfl
theorem qw_10 : Cond.initialized "java/lang/IllegalArgumentException" ∈ WS := tb1 (i := 10) rfl rfl
theorem qw_11 : Cond.initialized "java/lang/IllegalStateException" ∈ WS := tb1 (i := 11) rfl rfl
theorem qw_12 : Cond.initialized "Dataroom$Card" ∈ WS := tb1 (i := 12) rfl rfl
theorem qw_13 : Cond.initialized "jdk/internal/util/ArraysSupport" ∈ WS := tb1 (i := 13) rfl rfl
theorem qw_14 : Cond.initialized "java/lang/Math" ∈ WS := tb1 (i := 14) rfl rfl
theorem qw_15 : Cond.initialized "java/util/Arrays" ∈ WS := tb1 (i := 15) rfl rfl
theorem qw_16 : Cond.initialized "java/lang/System" ∈ WS := tb1 (i := 16) rfl rfl
theorem qw_17 : Cond.initialized "java/lang/IndexOutOfBoundsException" ∈ WS := tb1 (i := 17) rfl rfl
theorem qw_18 : Cond.initialized "java/util/Objects" ∈ WS := tb1 (i := 18) rfl rfl
theorem qw_19 : Cond.initialized "jdk/internal/util/Preconditions" ∈ WS := tb1 (i := 19) rfl rfl
theorem qw_20 : Cond.initialized "Dataroom$Party" ∈ WS := tb1 (i := 20) rfl rfl
theorem qw_21 : Cond.initialized "Dataroom$Right" ∈ WS := tb1 (i := 21) rfl rfl
theorem qw_22 : Cond.initialized "Dataroom$Answer" ∈ WS := tb1 (i := 22) rfl rfl
theorem qw_23 : Cond.initialized "java/lang/Long" ∈ WS := tb1 (i := 23) rfl rfl
theorem qw_24 : Cond.classLink "DataroomLaw" 9 "Dataroom" ∈ WS := tb1 (i := 24) rfl rfl
theorem qw_25 : Cond.instantiable "Dataroom" 6 ∈ WS := tb1 (i := 25) rfl rfl
theorem qw_26 : Cond.methodLink "DataroomLaw" 120 ⟨"Dataroom", "<init>", "()V"⟩ ∈ WS := tb1 (i := 26) rfl rfl
theorem qw_27 : Cond.instanceMethod ⟨"Dataroom", "<init>", "()V"⟩ ∈ WS := tb1 (i := 27) rfl rfl
theorem qw_28 : Cond.code ⟨"Dataroom", "<init>", "()V"⟩ prog_1_method_1_code 1 (Option.none : Option Jvm.ClassFile.FieldType) ∈ WS := tb1 (i := 28) rfl rfl
theorem qw_29 : Cond.methodLink "Dataroom" 1 ⟨"java/lang/Object", "<init>", "()V"⟩ ∈ WS := tb1 (i := 29) rfl rfl
theorem qw_30 : Cond.instanceMethod ⟨"java/lang/Object", "<init>", "()V"⟩ ∈ WS := tb1 (i := 30) rfl rfl
theorem qw_31 : Cond.code ⟨"java/lang/Object", "<init>", "()V"⟩ object_method_1_code 1 (Option.none : Option Jvm.ClassFile.FieldType) ∈ WS := tb1 (i := 31) rfl rfl
theorem qw_32 : Cond.classLink "Dataroom" 7 "java/util/ArrayList" ∈ WS := tb1 (i := 32) rfl rfl
theorem qw_33 : Cond.instantiable "java/util/ArrayList" 3 ∈ WS := tb1 (i := 33) rfl rfl
theorem qw_34 : Cond.methodLink "Dataroom" 9 ⟨"java/util/ArrayList", "<init>", "()V"⟩ ∈ WS := tb1 (i := 34) rfl rfl
theorem qw_35 : Cond.instanceMethod ⟨"java/util/ArrayList", "<init>", "()V"⟩ ∈ WS := tb1 (i := 35) rfl rfl
theorem qw_36 : Cond.code ⟨"java/util/ArrayList", "<init>", "()V"⟩ prog_25_method_2_code 1 (Option.none : Option Jvm.ClassFile.FieldType) ∈ WS := tb1 (i := 36) rfl rfl
theorem qw_37 : Cond.methodLink "java/util/ArrayList" 1 ⟨"java/util/AbstractList", "<init>", "()V"⟩ ∈ WS := tb1 (i := 37) rfl rfl
theorem qw_38 : Cond.instanceMethod ⟨"java/util/AbstractList", "<init>", "()V"⟩ ∈ WS := tb1 (i := 38) rfl rfl
theorem qw_39 : Cond.code ⟨"java/util/AbstractList", "<init>", "()V"⟩ prog_24_method_1_code 1 (Option.none : Option Jvm.ClassFile.FieldType) ∈ WS := tb1 (i := 39) rfl rfl
theorem qw_40 : Cond.methodLink "java/util/AbstractList" 1 ⟨"java/util/AbstractCollection", "<init>", "()V"⟩ ∈ WS := tb1 (i := 40) rfl rfl
theorem qw_41 : Cond.instanceMethod ⟨"java/util/AbstractCollection", "<init>", "()V"⟩ ∈ WS := tb1 (i := 41) rfl rfl
theorem qw_42 : Cond.code ⟨"java/util/AbstractCollection", "<init>", "()V"⟩ prog_23_method_1_code 1 (Option.none : Option Jvm.ClassFile.FieldType) ∈ WS := tb1 (i := 42) rfl rfl
theorem qw_43 : Cond.methodLink "java/util/AbstractCollection" 1 ⟨"java/lang/Object", "<init>", "()V"⟩ ∈ WS := tb1 (i := 43) rfl rfl
theorem qw_44 : Cond.fieldLink "java/util/ArrayList" 39 "java/util/ArrayList" "DEFAULTCAPACITY_EMPTY_ELEMENTDATA" "[Ljava/lang/Object;" ∈ WS := tb1 (i := 44) rfl rfl
theorem qw_46 : Cond.fieldLink "java/util/ArrayList" 9 "java/util/ArrayList" "elementData" "[Ljava/lang/Object;" ∈ WS := tb1 (i := 46) rfl rfl
theorem qw_47 : Cond.fieldLink "java/util/ArrayList" 48 "java/util/ArrayList" "size" "I" ∈ WS := tb1 (i := 47) rfl rfl
theorem qw_48 : Cond.fieldLink "java/util/AbstractList" 7 "java/util/AbstractList" "modCount" "I" ∈ WS := tb1 (i := 48) rfl rfl
theorem qw_49 : Cond.fieldLink "java/util/ArrayList" 63 "java/util/ArrayList" "modCount" "I" ∈ WS := tb1 (i := 49) rfl rfl
theorem qw_50 : Cond.sameField "java/util/ArrayList" "java/util/AbstractList" "modCount" "I" ∈ WS := tb1 (i := 50) rfl rfl
theorem qw_51 : Cond.lays "java/util/ArrayList" "java/util/ArrayList" "elementData" "[Ljava/lang/Object;" ∈ WS := tb1 (i := 51) rfl rfl
theorem qw_53 : Cond.lays "java/util/ArrayList" "java/util/ArrayList" "size" "I" ∈ WS := tb1 (i := 53) rfl rfl
theorem qw_55 : Cond.lays "java/util/ArrayList" "java/util/AbstractList" "modCount" "I" ∈ WS := tb1 (i := 55) rfl rfl
theorem qw_57 : Cond.superclass "java/util/ArrayList" "java/util/AbstractList" ∈ WS := tb1 (i := 57) rfl rfl
theorem qw_58 : Cond.classLink "Dataroom" 22 "Dataroom$Knowledge" ∈ WS := tb1 (i := 58) rfl rfl
theorem qw_59 : Cond.instantiable "Dataroom$Knowledge" 2 ∈ WS := tb1 (i := 59) rfl rfl
theorem qw_61 : Cond.instanceMethod ⟨"Dataroom$Knowledge", "<init>", "()V"⟩ ∈ WS := tb1 (i := 61) rfl rfl
theorem qw_62 : Cond.code ⟨"Dataroom$Knowledge", "<init>", "()V"⟩ prog_4_method_1_code 1 (Option.none : Option Jvm.ClassFile.FieldType) ∈ WS := tb1 (i := 62) rfl rfl
theorem qw_63 : Cond.methodLink "Dataroom$Knowledge" 3 ⟨"java/lang/Object", "<init>", "()V"⟩ ∈ WS := tb1 (i := 63) rfl rfl
theorem qw_64 : Cond.fieldLink "Dataroom$Knowledge" 9 "Dataroom$Knowledge" "rows" "[I" ∈ WS := tb1 (i := 64) rfl rfl
theorem qw_65 : Cond.fieldLink "Dataroom$Knowledge" 15 "Dataroom$Knowledge" "learned" "I" ∈ WS := tb1 (i := 65) rfl rfl
theorem qw_67 : Cond.laysFinal "Dataroom$Knowledge" "Dataroom$Knowledge" "rows" "[I" ∈ WS := tb1 (i := 67) rfl rfl
theorem qw_69 : Cond.lays "Dataroom$Knowledge" "Dataroom$Knowledge" "learned" "I" ∈ WS := tb1 (i := 69) rfl rfl
theorem qw_71 : Cond.superclass "Dataroom$Knowledge" "java/lang/Object" ∈ WS := tb1 (i := 71) rfl rfl
theorem qw_72 : Cond.arrayClass Jvm.ClassFile.FieldType.int ∈ WS := tb1 (i := 72) rfl rfl
theorem qw_73 : Cond.classLink "Dataroom" 29 "Dataroom$Marks" ∈ WS := tb1 (i := 73) rfl rfl
theorem qw_74 : Cond.instantiable "Dataroom$Marks" 2 ∈ WS := tb1 (i := 74) rfl rfl
theorem qw_76 : Cond.instanceMethod ⟨"Dataroom$Marks", "<init>", "()V"⟩ ∈ WS := tb1 (i := 76) rfl rfl
theorem qw_77 : Cond.code ⟨"Dataroom$Marks", "<init>", "()V"⟩ prog_5_method_1_code 1 (Option.none : Option Jvm.ClassFile.FieldType) ∈ WS := tb1 (i := 77) rfl rfl
theorem qw_78 : Cond.methodLink "Dataroom$Marks" 3 ⟨"java/lang/Object", "<init>", "()V"⟩ ∈ WS := tb1 (i := 78) rfl rfl
theorem qw_79 : Cond.fieldLink "Dataroom$Marks" 11 "Dataroom$Marks" "words" "[J" ∈ WS := tb1 (i := 79) rfl rfl
theorem qw_80 : Cond.fieldLink "Dataroom$Marks" 24 "Dataroom$Marks" "used" "I" ∈ WS := tb1 (i := 80) rfl rfl
theorem qw_81 : Cond.laysFinal "Dataroom$Marks" "Dataroom$Marks" "words" "[J" ∈ WS := tb1 (i := 81) rfl rfl
theorem qw_83 : Cond.lays "Dataroom$Marks" "Dataroom$Marks" "used" "I" ∈ WS := tb1 (i := 83) rfl rfl
theorem qw_85 : Cond.superclass "Dataroom$Marks" "java/lang/Object" ∈ WS := tb1 (i := 85) rfl rfl
theorem qw_86 : Cond.arrayClass Jvm.ClassFile.FieldType.long ∈ WS := tb1 (i := 86) rfl rfl
theorem qw_87 : Cond.fieldLink "Dataroom" 10 "Dataroom" "allFiles" "Ljava/util/ArrayList;" ∈ WS := tb1 (i := 87) rfl rfl
theorem qw_88 : Cond.fieldLink "Dataroom" 16 "Dataroom" "allParties" "Ljava/util/ArrayList;" ∈ WS := tb1 (i := 88) rfl rfl
theorem qw_89 : Cond.fieldLink "Dataroom" 19 "Dataroom" "allAnswers" "Ljava/util/ArrayList;" ∈ WS := tb1 (i := 89) rfl rfl
theorem qw_90 : Cond.fieldLink "Dataroom" 108 "Dataroom" "now" "I" ∈ WS := tb1 (i := 90) rfl rfl
theorem qw_91 : Cond.fieldLink "Dataroom" 25 "Dataroom" "shared" "LDataroom$Knowledge;" ∈ WS := tb1 (i := 91) rfl rfl
theorem qw_92 : Cond.fieldLink "Dataroom" 32 "Dataroom" "marks" "LDataroom$Marks;" ∈ WS := tb1 (i := 92) rfl rfl
theorem qw_93 : Cond.laysFinal "Dataroom" "Dataroom" "allFiles" "Ljava/util/ArrayList;" ∈ WS := tb1 (i := 93) rfl rfl
theorem qw_95 : Cond.laysFinal "Dataroom" "Dataroom" "allParties" "Ljava/util/ArrayList;" ∈ WS := tb1 (i := 95) rfl rfl
theorem qw_97 : Cond.laysFinal "Dataroom" "Dataroom" "allAnswers" "Ljava/util/ArrayList;" ∈ WS := tb1 (i := 97) rfl rfl
theorem qw_99 : Cond.lays "Dataroom" "Dataroom" "now" "I" ∈ WS := tb1 (i := 99) rfl rfl
theorem qw_101 : Cond.laysFinal "Dataroom" "Dataroom" "shared" "LDataroom$Knowledge;" ∈ WS := tb1 (i := 101) rfl rfl
theorem qw_103 : Cond.laysFinal "Dataroom" "Dataroom" "marks" "LDataroom$Marks;" ∈ WS := tb1 (i := 103) rfl rfl
theorem qw_105 : Cond.superclass "Dataroom" "java/lang/Object" ∈ WS := tb1 (i := 105) rfl rfl
theorem qw_106 : Cond.methodLink "DataroomLaw" 121 ⟨"DataroomLaw", "cell", "([II)I"⟩ ∈ WS := tb1 (i := 106) rfl rfl
theorem qw_107 : Cond.static ⟨"DataroomLaw", "cell", "([II)I"⟩ ∈ WS := tb1 (i := 107) rfl rfl
theorem qw_108 : Cond.code ⟨"DataroomLaw", "cell", "([II)I"⟩ method_2_code 2 (Option.some Jvm.ClassFile.FieldType.int) ∈ WS := tb1 (i := 108) rfl rfl
theorem qw_109 : Cond.methodLink "DataroomLaw" 125 ⟨"DataroomLaw", "act", "(LDataroom;I)I"⟩ ∈ WS := tb1 (i := 109) rfl rfl
theorem qw_110 : Cond.static ⟨"DataroomLaw", "act", "(LDataroom;I)I"⟩ ∈ WS := tb1 (i := 110) rfl rfl
theorem qw_111 : Cond.code ⟨"DataroomLaw", "act", "(LDataroom;I)I"⟩ method_22_code 8 (Option.some Jvm.ClassFile.FieldType.int) ∈ WS := tb1 (i := 111) rfl rfl
theorem qw_112 : Cond.methodLink "DataroomLaw" 77 ⟨"DataroomLaw", "low", "(II)I"⟩ ∈ WS := tb1 (i := 112) rfl rfl
theorem qw_113 : Cond.static ⟨"DataroomLaw", "low", "(II)I"⟩ ∈ WS := tb1 (i := 113) rfl rfl
theorem qw_114 : Cond.code ⟨"DataroomLaw", "low", "(II)I"⟩ method_3_code 2 (Option.some Jvm.ClassFile.FieldType.int) ∈ WS := tb1 (i := 114) rfl rfl
theorem qw_115 : Cond.constant "DataroomLaw" 7 (2147483647 : Int32) ∈ WS := tb1 (i := 115) rfl rfl
theorem qw_116 : Cond.methodLink "DataroomLaw" 82 ⟨"DataroomLaw", "file", "(LDataroom;I)I"⟩ ∈ WS := tb1 (i := 116) rfl rfl
theorem qw_117 : Cond.static ⟨"DataroomLaw", "file", "(LDataroom;I)I"⟩ ∈ WS := tb1 (i := 117) rfl rfl
theorem qw_118 : Cond.codeWith ⟨"DataroomLaw", "file", "(LDataroom;I)I"⟩ method_4_code 3 (Option.some Jvm.ClassFile.FieldType.int) [(0, 5, 6, 14), (0, 5, 10, 17)] ∈ WS := tb1 (i := 118) rfl rfl
theorem qw_119 : Cond.classLink "DataroomLaw" 14 "java/lang/IllegalArgumentException" ∈ WS := tb1 (i := 119) rfl rfl
theorem qw_120 : Cond.classLink "DataroomLaw" 17 "java/lang/IllegalStateException" ∈ WS := tb1 (i := 120) rfl rfl
theorem qw_121 : Cond.methodLink "DataroomLaw" 8 ⟨"Dataroom", "file", "(I)I"⟩ ∈ WS := tb1 (i := 121) rfl rfl
theorem qw_122 : Cond.instanceMethod ⟨"Dataroom", "file", "(I)I"⟩ ∈ WS := tb1 (i := 122) rfl rfl
theorem qw_123 : Cond.selects "Dataroom" ⟨"Dataroom", "file", "(I)I"⟩ ⟨"Dataroom", "file", "(I)I"⟩ ∈ WS := tb1 (i := 123) rfl rfl
theorem qw_124 : Cond.code ⟨"Dataroom", "file", "(I)I"⟩ prog_1_method_2_code 2 (Option.some Jvm.ClassFile.FieldType.int) ∈ WS := tb1 (i := 124) rfl rfl
theorem qw_125 : Cond.methodLink "Dataroom" 36 ⟨"Dataroom", "requireRange", "(III)V"⟩ ∈ WS := tb1 (i := 125) rfl rfl
theorem qw_126 : Cond.static ⟨"Dataroom", "requireRange", "(III)V"⟩ ∈ WS := tb1 (i := 126) rfl rfl
theorem qw_127 : Cond.code ⟨"Dataroom", "requireRange", "(III)V"⟩ prog_1_method_23_code 3 (Option.none : Option Jvm.ClassFile.FieldType) ∈ WS := tb1 (i := 127) rfl rfl
theorem qw_128 : Cond.classLink "Dataroom" 189 "java/lang/IllegalArgumentException" ∈ WS := tb1 (i := 128) rfl rfl
theorem qw_129 : Cond.instantiable "java/lang/IllegalArgumentException" 6 ∈ WS := tb1 (i := 129) rfl rfl
theorem qw_137 : Cond.selects "java/lang/IllegalArgumentException" ⟨"java/lang/Throwable", "fillInStackTrace", "(I)Ljava/lang/Throwable;"⟩ ⟨"java/lang/Throwable", "fillInStackTrace", "(I)Ljava/lang/Throwable;"⟩ ∈ WS := tb1 (i := 137) rfl rfl
theorem qw_138 : Cond.selects "java/lang/IllegalArgumentException" ⟨"java/lang/Throwable", "fillInStackTrace", "()Ljava/lang/Throwable;"⟩ ⟨"java/lang/Throwable", "fillInStackTrace", "()Ljava/lang/Throwable;"⟩ ∈ WS := tb1 (i := 138) rfl rfl
theorem qw_139 : Cond.lays "java/lang/IllegalArgumentException" "java/lang/Throwable" "cause" "Ljava/lang/Throwable;" ∈ WS := tb1 (i := 139) rfl rfl
theorem qw_140 : Cond.lays "java/lang/Throwable" "java/lang/Throwable" "cause" "Ljava/lang/Throwable;" ∈ WS := tb1 (i := 140) rfl rfl
theorem qw_141 : Cond.lays "java/lang/IllegalArgumentException" "java/lang/Throwable" "stackTrace" "[Ljava/lang/StackTraceElement;" ∈ WS := tb1 (i := 141) rfl rfl
theorem qw_142 : Cond.lays "java/lang/Throwable" "java/lang/Throwable" "stackTrace" "[Ljava/lang/StackTraceElement;" ∈ WS := tb1 (i := 142) rfl rfl
theorem qw_143 : Cond.lays "java/lang/IllegalArgumentException" "java/lang/Throwable" "suppressedExceptions" "Ljava/util/List;" ∈ WS := tb1 (i := 143) rfl rfl
theorem qw_144 : Cond.lays "java/lang/Throwable" "java/lang/Throwable" "suppressedExceptions" "Ljava/util/List;" ∈ WS := tb1 (i := 144) rfl rfl
theorem qw_145 : Cond.lays "java/lang/IllegalArgumentException" "java/lang/Throwable" "detailMessage" "Ljava/lang/String;" ∈ WS := tb1 (i := 145) rfl rfl
theorem qw_146 : Cond.lays "java/lang/Throwable" "java/lang/Throwable" "detailMessage" "Ljava/lang/String;" ∈ WS := tb1 (i := 146) rfl rfl
theorem qw_147 : Cond.lays "java/lang/IllegalArgumentException" "java/lang/Throwable" "backtrace" "Ljava/lang/Object;" ∈ WS := tb1 (i := 147) rfl rfl
theorem qw_148 : Cond.lays "java/lang/Throwable" "java/lang/Throwable" "backtrace" "Ljava/lang/Object;" ∈ WS := tb1 (i := 148) rfl rfl
theorem qw_149 : Cond.fieldLink "java/lang/Throwable" 198 "java/lang/Throwable" "backtrace" "Ljava/lang/Object;" ∈ WS := tb1 (i := 149) rfl rfl
theorem qw_150 : Cond.superclass "java/lang/Throwable" "java/lang/Object" ∈ WS := tb1 (i := 150) rfl rfl
theorem qw_151 : Cond.instanceMethod ⟨"java/lang/Throwable", "<init>", "()V"⟩ ∈ WS := tb1 (i := 151) rfl rfl
theorem qw_152 : Cond.code ⟨"java/lang/Throwable", "<init>", "()V"⟩ prog_22_method_1_code 1 (Option.none : Option Jvm.ClassFile.FieldType) ∈ WS := tb1 (i := 152) rfl rfl
theorem qw_153 : Cond.methodLink "java/lang/Throwable" 1 ⟨"java/lang/Object", "<init>", "()V"⟩ ∈ WS := tb1 (i := 153) rfl rfl
theorem qw_154 : Cond.fieldLink "java/lang/Throwable" 13 "java/lang/Throwable" "UNASSIGNED_STACK" "[Ljava/lang/StackTraceElement;" ∈ WS := tb1 (i := 154) rfl rfl
theorem qw_156 : Cond.fieldLink "java/lang/Throwable" 20 "java/lang/Throwable" "SUPPRESSED_SENTINEL" "Ljava/util/List;" ∈ WS := tb1 (i := 156) rfl rfl
theorem qw_158 : Cond.methodLink "java/lang/Throwable" 27 ⟨"java/lang/Throwable", "fillInStackTrace", "()Ljava/lang/Throwable;"⟩ ∈ WS := tb1 (i := 158) rfl rfl
theorem qw_159 : Cond.instanceMethod ⟨"java/lang/Throwable", "fillInStackTrace", "()Ljava/lang/Throwable;"⟩ ∈ WS := tb1 (i := 159) rfl rfl
theorem qw_160 : Cond.sameMethod "java/lang/Throwable" "java/lang/Throwable" "fillInStackTrace" "()Ljava/lang/Throwable;" ∈ WS := tb1 (i := 160) rfl rfl
theorem qw_161 : Cond.selects "java/lang/IllegalStateException" ⟨"java/lang/Throwable", "fillInStackTrace", "()Ljava/lang/Throwable;"⟩ ⟨"java/lang/Throwable", "fillInStackTrace", "()Ljava/lang/Throwable;"⟩ ∈ WS := tb1 (i := 161) rfl rfl
theorem qw_162 : Cond.selects "java/lang/IndexOutOfBoundsException" ⟨"java/lang/Throwable", "fillInStackTrace", "()Ljava/lang/Throwable;"⟩ ⟨"java/lang/Throwable", "fillInStackTrace", "()Ljava/lang/Throwable;"⟩ ∈ WS := tb1 (i := 162) rfl rfl
theorem qw_163 : Cond.codeSync ⟨"java/lang/Throwable", "fillInStackTrace", "()Ljava/lang/Throwable;"⟩ prog_22_method_18_code 1 (Option.some (Jvm.ClassFile.FieldType.object "java/lang/Throwable")) ∈ WS := tb1 (i := 163) rfl rfl
theorem qw_164 : Cond.methodLink "java/lang/Throwable" 202 ⟨"java/lang/Throwable", "fillInStackTrace", "(I)Ljava/lang/Throwable;"⟩ ∈ WS := tb1 (i := 164) rfl rfl
theorem qw_166 : Cond.instanceMethod ⟨"java/lang/Throwable", "fillInStackTrace", "(I)Ljava/lang/Throwable;"⟩ ∈ WS := tb1 (i := 166) rfl rfl
theorem qw_167 : Cond.instantiable "java/lang/Throwable" 6 ∈ WS := tb1 (i := 167) rfl rfl
theorem qw_170 : Cond.methodLink "Dataroom" 193 ⟨"java/lang/IllegalArgumentException", "<init>", "(Ljava/lang/String;)V"⟩ ∈ WS := tb1 (i := 170) rfl rfl
theorem qw_171 : Cond.instanceMethod ⟨"java/lang/IllegalArgumentException", "<init>", "(Ljava/lang/String;)V"⟩ ∈ WS := tb1 (i := 171) rfl rfl
theorem qw_172 : Cond.code ⟨"java/lang/IllegalArgumentException", "<init>", "(Ljava/lang/String;)V"⟩ prog_13_method_2_code 2 (Option.none : Option Jvm.ClassFile.FieldType) ∈ WS := tb1 (i := 172) rfl rfl
theorem qw_173 : Cond.methodLink "java/lang/IllegalArgumentException" 7 ⟨"java/lang/RuntimeException", "<init>", "(Ljava/lang/String;)V"⟩ ∈ WS := tb1 (i := 173) rfl rfl
theorem qw_174 : Cond.instanceMethod ⟨"java/lang/RuntimeException", "<init>", "(Ljava/lang/String;)V"⟩ ∈ WS := tb1 (i := 174) rfl rfl
theorem qw_175 : Cond.code ⟨"java/lang/RuntimeException", "<init>", "(Ljava/lang/String;)V"⟩ prog_19_method_2_code 2 (Option.none : Option Jvm.ClassFile.FieldType) ∈ WS := tb1 (i := 175) rfl rfl
theorem qw_176 : Cond.methodLink "java/lang/RuntimeException" 7 ⟨"java/lang/Exception", "<init>", "(Ljava/lang/String;)V"⟩ ∈ WS := tb1 (i := 176) rfl rfl
theorem qw_177 : Cond.instanceMethod ⟨"java/lang/Exception", "<init>", "(Ljava/lang/String;)V"⟩ ∈ WS := tb1 (i := 177) rfl rfl
theorem qw_178 : Cond.code ⟨"java/lang/Exception", "<init>", "(Ljava/lang/String;)V"⟩ prog_12_method_2_code 2 (Option.none : Option Jvm.ClassFile.FieldType) ∈ WS := tb1 (i := 178) rfl rfl
theorem qw_179 : Cond.methodLink "java/lang/Exception" 7 ⟨"java/lang/Throwable", "<init>", "(Ljava/lang/String;)V"⟩ ∈ WS := tb1 (i := 179) rfl rfl
theorem qw_180 : Cond.instanceMethod ⟨"java/lang/Throwable", "<init>", "(Ljava/lang/String;)V"⟩ ∈ WS := tb1 (i := 180) rfl rfl
theorem qw_181 : Cond.code ⟨"java/lang/Throwable", "<init>", "(Ljava/lang/String;)V"⟩ prog_22_method_2_code 2 (Option.none : Option Jvm.ClassFile.FieldType) ∈ WS := tb1 (i := 181) rfl rfl
theorem qw_182 : Cond.fieldLink "java/lang/Throwable" 198 "java/lang/Throwable" "backtrace" "Ljava/lang/Object;" ∈ WS := tb1 (i := 182) rfl rfl
theorem qw_183 : Cond.fieldLink "java/lang/Throwable" 31 "java/lang/Throwable" "detailMessage" "Ljava/lang/String;" ∈ WS := tb1 (i := 183) rfl rfl
theorem qw_184 : Cond.fieldLink "java/lang/Throwable" 7 "java/lang/Throwable" "cause" "Ljava/lang/Throwable;" ∈ WS := tb1 (i := 184) rfl rfl
theorem qw_185 : Cond.fieldLink "java/lang/Throwable" 17 "java/lang/Throwable" "stackTrace" "[Ljava/lang/StackTraceElement;" ∈ WS := tb1 (i := 185) rfl rfl
theorem qw_186 : Cond.fieldLink "java/lang/Throwable" 24 "java/lang/Throwable" "suppressedExceptions" "Ljava/util/List;" ∈ WS := tb1 (i := 186) rfl rfl
theorem qw_191 : Cond.lays "java/lang/IllegalArgumentException" "java/lang/Throwable" "depth" "I" ∈ WS := tb1 (i := 191) rfl rfl
theorem qw_194 : Cond.superclass "java/lang/IllegalArgumentException" "java/lang/RuntimeException" ∈ WS := tb1 (i := 194) rfl rfl
theorem qw_195 : Cond.arrayClass Jvm.ClassFile.FieldType.byte ∈ WS := tb1 (i := 195) rfl rfl
theorem qw_196 : Cond.methodLink "Dataroom" 40 ⟨"java/util/ArrayList", "size", "()I"⟩ ∈ WS := tb1 (i := 196) rfl rfl
theorem qw_197 : Cond.instanceMethod ⟨"java/util/ArrayList", "size", "()I"⟩ ∈ WS := tb1 (i := 197) rfl rfl
theorem qw_198 : Cond.selects "java/util/ArrayList" ⟨"java/util/ArrayList", "size", "()I"⟩ ⟨"java/util/ArrayList", "size", "()I"⟩ ∈ WS := tb1 (i := 198) rfl rfl
theorem qw_199 : Cond.code ⟨"java/util/ArrayList", "size", "()I"⟩ prog_25_method_8_code 1 (Option.some Jvm.ClassFile.FieldType.int) ∈ WS := tb1 (i := 199) rfl rfl
theorem qw_200 : Cond.classLink "Dataroom" 44 "java/lang/IllegalStateException" ∈ WS := tb1 (i := 200) rfl rfl
theorem qw_201 : Cond.instantiable "java/lang/IllegalStateException" 6 ∈ WS := tb1 (i := 201) rfl rfl
theorem qw_203 : Cond.selects "java/lang/IllegalStateException" ⟨"java/lang/Throwable", "fillInStackTrace", "(I)Ljava/lang/Throwable;"⟩ ⟨"java/lang/Throwable", "fillInStackTrace", "(I)Ljava/lang/Throwable;"⟩ ∈ WS := tb1 (i := 203) rfl rfl
theorem qw_204 : Cond.lays "java/lang/IllegalStateException" "java/lang/Throwable" "cause" "Ljava/lang/Throwable;" ∈ WS := tb1 (i := 204) rfl rfl
theorem qw_205 : Cond.lays "java/lang/IllegalStateException" "java/lang/Throwable" "stackTrace" "[Ljava/lang/StackTraceElement;" ∈ WS := tb1 (i := 205) rfl rfl
theorem qw_206 : Cond.lays "java/lang/IllegalStateException" "java/lang/Throwable" "suppressedExceptions" "Ljava/util/List;" ∈ WS := tb1 (i := 206) rfl rfl
theorem qw_207 : Cond.lays "java/lang/IllegalStateException" "java/lang/Throwable" "detailMessage" "Ljava/lang/String;" ∈ WS := tb1 (i := 207) rfl rfl
theorem qw_208 : Cond.lays "java/lang/IllegalStateException" "java/lang/Throwable" "backtrace" "Ljava/lang/Object;" ∈ WS := tb1 (i := 208) rfl rfl
theorem qw_210 : Cond.methodLink "Dataroom" 48 ⟨"java/lang/IllegalStateException", "<init>", "(Ljava/lang/String;)V"⟩ ∈ WS := tb1 (i := 210) rfl rfl
theorem qw_211 : Cond.instanceMethod ⟨"java/lang/IllegalStateException", "<init>", "(Ljava/lang/String;)V"⟩ ∈ WS := tb1 (i := 211) rfl rfl
theorem qw_212 : Cond.code ⟨"java/lang/IllegalStateException", "<init>", "(Ljava/lang/String;)V"⟩ prog_14_method_2_code 2 (Option.none : Option Jvm.ClassFile.FieldType) ∈ WS := tb1 (i := 212) rfl rfl
theorem qw_213 : Cond.methodLink "java/lang/IllegalStateException" 7 ⟨"java/lang/RuntimeException", "<init>", "(Ljava/lang/String;)V"⟩ ∈ WS := tb1 (i := 213) rfl rfl
theorem qw_214 : Cond.lays "java/lang/IllegalStateException" "java/lang/Throwable" "depth" "I" ∈ WS := tb1 (i := 214) rfl rfl
theorem qw_215 : Cond.superclass "java/lang/IllegalStateException" "java/lang/RuntimeException" ∈ WS := tb1 (i := 215) rfl rfl
theorem qw_216 : Cond.classLink "Dataroom" 51 "Dataroom$Card" ∈ WS := tb1 (i := 216) rfl rfl
theorem qw_217 : Cond.instantiable "Dataroom$Card" 2 ∈ WS := tb1 (i := 217) rfl rfl
theorem qw_218 : Cond.methodLink "Dataroom" 53 ⟨"Dataroom$Card", "<init>", "(I)V"⟩ ∈ WS := tb1 (i := 218) rfl rfl
theorem qw_219 : Cond.instanceMethod ⟨"Dataroom$Card", "<init>", "(I)V"⟩ ∈ WS := tb1 (i := 219) rfl rfl
theorem qw_220 : Cond.code ⟨"Dataroom$Card", "<init>", "(I)V"⟩ prog_3_method_1_code 2 (Option.none : Option Jvm.ClassFile.FieldType) ∈ WS := tb1 (i := 220) rfl rfl
theorem qw_221 : Cond.methodLink "Dataroom$Card" 3 ⟨"java/lang/Object", "<init>", "()V"⟩ ∈ WS := tb1 (i := 221) rfl rfl
theorem qw_222 : Cond.fieldLink "Dataroom$Card" 15 "Dataroom$Card" "number" "I" ∈ WS := tb1 (i := 222) rfl rfl
theorem qw_224 : Cond.fieldLink "Dataroom$Card" 9 "Dataroom$Card" "sealedTill" "I" ∈ WS := tb1 (i := 224) rfl rfl
theorem qw_226 : Cond.lays "Dataroom$Card" "Dataroom$Card" "number" "I" ∈ WS := tb1 (i := 226) rfl rfl
theorem qw_228 : Cond.lays "Dataroom$Card" "Dataroom$Card" "sealedTill" "I" ∈ WS := tb1 (i := 228) rfl rfl
theorem qw_230 : Cond.superclass "Dataroom$Card" "java/lang/Object" ∈ WS := tb1 (i := 230) rfl rfl
theorem qw_231 : Cond.methodLink "Dataroom" 56 ⟨"java/util/ArrayList", "add", "(Ljava/lang/Object;)Z"⟩ ∈ WS := tb1 (i := 231) rfl rfl
theorem qw_232 : Cond.instanceMethod ⟨"java/util/ArrayList", "add", "(Ljava/lang/Object;)Z"⟩ ∈ WS := tb1 (i := 232) rfl rfl
theorem qw_233 : Cond.selects "java/util/ArrayList" ⟨"java/util/ArrayList", "add", "(Ljava/lang/Object;)Z"⟩ ⟨"java/util/ArrayList", "add", "(Ljava/lang/Object;)Z"⟩ ∈ WS := tb1 (i := 233) rfl rfl
theorem qw_234 : Cond.code ⟨"java/util/ArrayList", "add", "(Ljava/lang/Object;)Z"⟩ prog_25_method_25_code 2 (Option.some Jvm.ClassFile.FieldType.boolean) ∈ WS := tb1 (i := 234) rfl rfl
theorem qw_235 : Cond.methodLink "java/util/ArrayList" 131 ⟨"java/util/ArrayList", "add", "(Ljava/lang/Object;[Ljava/lang/Object;I)V"⟩ ∈ WS := tb1 (i := 235) rfl rfl
theorem qw_237 : Cond.instanceMethod ⟨"java/util/ArrayList", "add", "(Ljava/lang/Object;[Ljava/lang/Object;I)V"⟩ ∈ WS := tb1 (i := 237) rfl rfl
theorem qw_238 : Cond.code ⟨"java/util/ArrayList", "add", "(Ljava/lang/Object;[Ljava/lang/Object;I)V"⟩ prog_25_method_24_code 4 (Option.none : Option Jvm.ClassFile.FieldType) ∈ WS := tb1 (i := 238) rfl rfl
theorem qw_239 : Cond.methodLink "java/util/ArrayList" 129 ⟨"java/util/ArrayList", "grow", "()[Ljava/lang/Object;"⟩ ∈ WS := tb1 (i := 239) rfl rfl
theorem qw_241 : Cond.instanceMethod ⟨"java/util/ArrayList", "grow", "()[Ljava/lang/Object;"⟩ ∈ WS := tb2 (i := 1) rfl rfl
theorem qw_242 : Cond.code ⟨"java/util/ArrayList", "grow", "()[Ljava/lang/Object;"⟩ prog_25_method_7_code 1 (Option.some (Jvm.ClassFile.FieldType.array (Jvm.ClassFile.FieldType.object "java/lang/Object"))) ∈ WS := tb2 (i := 2) rfl rfl
theorem qw_243 : Cond.methodLink "java/util/ArrayList" 69 ⟨"java/util/ArrayList", "grow", "(I)[Ljava/lang/Object;"⟩ ∈ WS := tb2 (i := 3) rfl rfl
theorem qw_245 : Cond.instanceMethod ⟨"java/util/ArrayList", "grow", "(I)[Ljava/lang/Object;"⟩ ∈ WS := tb2 (i := 5) rfl rfl
theorem qw_246 : Cond.code ⟨"java/util/ArrayList", "grow", "(I)[Ljava/lang/Object;"⟩ prog_25_method_6_code 4 (Option.some (Jvm.ClassFile.FieldType.array (Jvm.ClassFile.FieldType.object "java/lang/Object"))) ∈ WS := tb2 (i := 6) rfl rfl
theorem qw_247 : Cond.methodLink "java/util/ArrayList" 73 ⟨"jdk/internal/util/ArraysSupport", "newLength", "(III)I"⟩ ∈ WS := tb2 (i := 7) rfl rfl
theorem qw_248 : Cond.static ⟨"jdk/internal/util/ArraysSupport", "newLength", "(III)I"⟩ ∈ WS := tb2 (i := 8) rfl rfl
theorem qw_249 : Cond.code ⟨"jdk/internal/util/ArraysSupport", "newLength", "(III)I"⟩ prog_32_method_27_code 4 (Option.some Jvm.ClassFile.FieldType.int) ∈ WS := tb2 (i := 9) rfl rfl
theorem qw_250 : Cond.methodLink "jdk/internal/util/ArraysSupport" 194 ⟨"java/lang/Math", "max", "(II)I"⟩ ∈ WS := tb2 (i := 10) rfl rfl
theorem qw_251 : Cond.static ⟨"java/lang/Math", "max", "(II)I"⟩ ∈ WS := tb2 (i := 11) rfl rfl
theorem qw_252 : Cond.code ⟨"java/lang/Math", "max", "(II)I"⟩ prog_18_method_65_code 2 (Option.some Jvm.ClassFile.FieldType.int) ∈ WS := tb2 (i := 12) rfl rfl
theorem qw_253 : Cond.constant "jdk/internal/util/ArraysSupport" 200 (2147483639 : Int32) ∈ WS := tb2 (i := 13) rfl rfl
theorem qw_254 : Cond.methodLink "jdk/internal/util/ArraysSupport" 201 ⟨"jdk/internal/util/ArraysSupport", "hugeLength", "(II)I"⟩ ∈ WS := tb2 (i := 14) rfl rfl
theorem qw_255 : Cond.static ⟨"jdk/internal/util/ArraysSupport", "hugeLength", "(II)I"⟩ ∈ WS := tb2 (i := 15) rfl rfl
theorem qw_256 : Cond.code ⟨"jdk/internal/util/ArraysSupport", "hugeLength", "(II)I"⟩ prog_32_method_28_code 3 (Option.some Jvm.ClassFile.FieldType.int) ∈ WS := tb2 (i := 16) rfl rfl
theorem qw_257 : Cond.methodLink "java/util/ArrayList" 66 ⟨"java/util/Arrays", "copyOf", "([Ljava/lang/Object;I)[Ljava/lang/Object;"⟩ ∈ WS := tb2 (i := 17) rfl rfl
theorem qw_258 : Cond.static ⟨"java/util/Arrays", "copyOf", "([Ljava/lang/Object;I)[Ljava/lang/Object;"⟩ ∈ WS := tb2 (i := 18) rfl rfl
theorem qw_259 : Cond.code ⟨"java/util/Arrays", "copyOf", "([Ljava/lang/Object;I)[Ljava/lang/Object;"⟩ prog_26_method_119_code 2 (Option.some (Jvm.ClassFile.FieldType.array (Jvm.ClassFile.FieldType.object "java/lang/Object"))) ∈ WS := tb2 (i := 19) rfl rfl
theorem qw_260 : Cond.methodLink "java/util/Arrays" 86 ⟨"java/lang/Object", "getClass", "()Ljava/lang/Class;"⟩ ∈ WS := tb2 (i := 20) rfl rfl
theorem qw_261 : Cond.instanceMethod ⟨"java/lang/Object", "getClass", "()Ljava/lang/Class;"⟩ ∈ WS := tb2 (i := 21) rfl rfl
theorem qw_262 : Cond.sameMethod "java/lang/Object" "java/lang/Object" "getClass" "()Ljava/lang/Class;" ∈ WS := tb2 (i := 22) rfl rfl
theorem qw_263 : Cond.selects "Dataroom" ⟨"java/lang/Object", "getClass", "()Ljava/lang/Class;"⟩ ⟨"java/lang/Object", "getClass", "()Ljava/lang/Class;"⟩ ∈ WS := tb2 (i := 23) rfl rfl
theorem qw_264 : Cond.selects "Dataroom$Answer" ⟨"java/lang/Object", "getClass", "()Ljava/lang/Class;"⟩ ⟨"java/lang/Object", "getClass", "()Ljava/lang/Class;"⟩ ∈ WS := tb2 (i := 24) rfl rfl
theorem qw_265 : Cond.selects "Dataroom$Card" ⟨"java/lang/Object", "getClass", "()Ljava/lang/Class;"⟩ ⟨"java/lang/Object", "getClass", "()Ljava/lang/Class;"⟩ ∈ WS := tb2 (i := 25) rfl rfl
theorem qw_266 : Cond.selects "Dataroom$Knowledge" ⟨"java/lang/Object", "getClass", "()Ljava/lang/Class;"⟩ ⟨"java/lang/Object", "getClass", "()Ljava/lang/Class;"⟩ ∈ WS := tb2 (i := 26) rfl rfl
theorem qw_267 : Cond.selects "Dataroom$Marks" ⟨"java/lang/Object", "getClass", "()Ljava/lang/Class;"⟩ ⟨"java/lang/Object", "getClass", "()Ljava/lang/Class;"⟩ ∈ WS := tb2 (i := 27) rfl rfl
theorem qw_268 : Cond.selects "Dataroom$Party" ⟨"java/lang/Object", "getClass", "()Ljava/lang/Class;"⟩ ⟨"java/lang/Object", "getClass", "()Ljava/lang/Class;"⟩ ∈ WS := tb2 (i := 28) rfl rfl
theorem qw_269 : Cond.selects "Dataroom$Right" ⟨"java/lang/Object", "getClass", "()Ljava/lang/Class;"⟩ ⟨"java/lang/Object", "getClass", "()Ljava/lang/Class;"⟩ ∈ WS := tb2 (i := 29) rfl rfl
theorem qw_270 : Cond.selects "java/lang/IllegalArgumentException" ⟨"java/lang/Object", "getClass", "()Ljava/lang/Class;"⟩ ⟨"java/lang/Object", "getClass", "()Ljava/lang/Class;"⟩ ∈ WS := tb2 (i := 30) rfl rfl
theorem qw_271 : Cond.selects "java/lang/IllegalStateException" ⟨"java/lang/Object", "getClass", "()Ljava/lang/Class;"⟩ ⟨"java/lang/Object", "getClass", "()Ljava/lang/Class;"⟩ ∈ WS := tb2 (i := 31) rfl rfl
theorem qw_272 : Cond.selects "java/lang/IndexOutOfBoundsException" ⟨"java/lang/Object", "getClass", "()Ljava/lang/Class;"⟩ ⟨"java/lang/Object", "getClass", "()Ljava/lang/Class;"⟩ ∈ WS := tb2 (i := 32) rfl rfl
theorem qw_273 : Cond.selects "java/util/ArrayList" ⟨"java/lang/Object", "getClass", "()Ljava/lang/Class;"⟩ ⟨"java/lang/Object", "getClass", "()Ljava/lang/Class;"⟩ ∈ WS := tb2 (i := 33) rfl rfl
theorem qw_275 : Cond.methodLink "java/util/Arrays" 300 ⟨"java/util/Arrays", "copyOf", "([Ljava/lang/Object;ILjava/lang/Class;)[Ljava/lang/Object;"⟩ ∈ WS := tb2 (i := 35) rfl rfl
theorem qw_276 : Cond.static ⟨"java/util/Arrays", "copyOf", "([Ljava/lang/Object;ILjava/lang/Class;)[Ljava/lang/Object;"⟩ ∈ WS := tb2 (i := 36) rfl rfl
theorem qw_277 : Cond.code ⟨"java/util/Arrays", "copyOf", "([Ljava/lang/Object;ILjava/lang/Class;)[Ljava/lang/Object;"⟩ prog_26_method_120_code 4 (Option.some (Jvm.ClassFile.FieldType.array (Jvm.ClassFile.FieldType.object "java/lang/Object"))) ∈ WS := tb2 (i := 37) rfl rfl
theorem qw_278 : Cond.classLink "java/util/Arrays" 110 "[Ljava/lang/Object;" ∈ WS := tb2 (i := 38) rfl rfl
theorem qw_280 : Cond.classLink "java/util/Arrays" 2 "java/lang/Object" ∈ WS := tb2 (i := 40) rfl rfl
theorem qw_281 : Cond.methodLink "java/util/Arrays" 304 ⟨"java/lang/Math", "min", "(II)I"⟩ ∈ WS := tb2 (i := 41) rfl rfl
theorem qw_282 : Cond.static ⟨"java/lang/Math", "min", "(II)I"⟩ ∈ WS := tb2 (i := 42) rfl rfl
theorem qw_283 : Cond.code ⟨"java/lang/Math", "min", "(II)I"⟩ prog_18_method_69_code 2 (Option.some Jvm.ClassFile.FieldType.int) ∈ WS := tb2 (i := 43) rfl rfl
theorem qw_284 : Cond.methodLink "java/util/Arrays" 150 ⟨"java/lang/System", "arraycopy", "(Ljava/lang/Object;ILjava/lang/Object;II)V"⟩ ∈ WS := tb2 (i := 44) rfl rfl
theorem qw_285 : Cond.static ⟨"java/lang/System", "arraycopy", "(Ljava/lang/Object;ILjava/lang/Object;II)V"⟩ ∈ WS := tb2 (i := 45) rfl rfl
theorem qw_287 : Cond.methodLink "java/util/ArrayList" 79 ⟨"java/lang/Math", "max", "(II)I"⟩ ∈ WS := tb2 (i := 47) rfl rfl
theorem qw_288 : Cond.classLink "java/util/ArrayList" 7 "java/lang/Object" ∈ WS := tb2 (i := 48) rfl rfl
theorem qw_289 : Cond.constant "DataroomLaw" 16 (-99999999 : Int32) ∈ WS := tb2 (i := 49) rfl rfl
theorem qw_290 : Cond.methodLink "DataroomLaw" 85 ⟨"DataroomLaw", "change", "(LDataroom;II)I"⟩ ∈ WS := tb2 (i := 50) rfl rfl
theorem qw_291 : Cond.static ⟨"DataroomLaw", "change", "(LDataroom;II)I"⟩ ∈ WS := tb2 (i := 51) rfl rfl
theorem qw_292 : Cond.codeWith ⟨"DataroomLaw", "change", "(LDataroom;II)I"⟩ method_5_code 4 (Option.some Jvm.ClassFile.FieldType.int) [(0, 6, 7, 23), (0, 6, 11, 14)] ∈ WS := tb2 (i := 52) rfl rfl
theorem qw_293 : Cond.classLink "DataroomLaw" 23 "java/lang/IndexOutOfBoundsException" ∈ WS := tb2 (i := 53) rfl rfl
theorem qw_294 : Cond.methodLink "DataroomLaw" 19 ⟨"Dataroom", "change", "(II)I"⟩ ∈ WS := tb2 (i := 54) rfl rfl
theorem qw_295 : Cond.instanceMethod ⟨"Dataroom", "change", "(II)I"⟩ ∈ WS := tb2 (i := 55) rfl rfl
theorem qw_296 : Cond.selects "Dataroom" ⟨"Dataroom", "change", "(II)I"⟩ ⟨"Dataroom", "change", "(II)I"⟩ ∈ WS := tb2 (i := 56) rfl rfl
theorem qw_297 : Cond.code ⟨"Dataroom", "change", "(II)I"⟩ prog_1_method_3_code 6 (Option.some Jvm.ClassFile.FieldType.int) ∈ WS := tb2 (i := 57) rfl rfl
theorem qw_298 : Cond.methodLink "Dataroom" 60 ⟨"Dataroom", "fileAt", "(I)LDataroom$Card;"⟩ ∈ WS := tb2 (i := 58) rfl rfl
theorem qw_300 : Cond.instanceMethod ⟨"Dataroom", "fileAt", "(I)LDataroom$Card;"⟩ ∈ WS := tb2 (i := 60) rfl rfl
theorem qw_301 : Cond.code ⟨"Dataroom", "fileAt", "(I)LDataroom$Card;"⟩ prog_1_method_21_code 2 (Option.some (Jvm.ClassFile.FieldType.object "Dataroom$Card")) ∈ WS := tb2 (i := 61) rfl rfl
theorem qw_302 : Cond.methodLink "Dataroom" 90 ⟨"Dataroom", "requireFile", "(I)V"⟩ ∈ WS := tb2 (i := 62) rfl rfl
theorem qw_304 : Cond.instanceMethod ⟨"Dataroom", "requireFile", "(I)V"⟩ ∈ WS := tb2 (i := 64) rfl rfl
theorem qw_305 : Cond.code ⟨"Dataroom", "requireFile", "(I)V"⟩ prog_1_method_22_code 2 (Option.none : Option Jvm.ClassFile.FieldType) ∈ WS := tb2 (i := 65) rfl rfl
theorem qw_306 : Cond.classLink "Dataroom" 143 "java/lang/IndexOutOfBoundsException" ∈ WS := tb2 (i := 66) rfl rfl
theorem qw_307 : Cond.instantiable "java/lang/IndexOutOfBoundsException" 6 ∈ WS := tb2 (i := 67) rfl rfl
theorem qw_309 : Cond.selects "java/lang/IndexOutOfBoundsException" ⟨"java/lang/Throwable", "fillInStackTrace", "(I)Ljava/lang/Throwable;"⟩ ⟨"java/lang/Throwable", "fillInStackTrace", "(I)Ljava/lang/Throwable;"⟩ ∈ WS := tb2 (i := 69) rfl rfl
theorem qw_310 : Cond.lays "java/lang/IndexOutOfBoundsException" "java/lang/Throwable" "cause" "Ljava/lang/Throwable;" ∈ WS := tb2 (i := 70) rfl rfl
theorem qw_311 : Cond.lays "java/lang/IndexOutOfBoundsException" "java/lang/Throwable" "stackTrace" "[Ljava/lang/StackTraceElement;" ∈ WS := tb2 (i := 71) rfl rfl
theorem qw_312 : Cond.lays "java/lang/IndexOutOfBoundsException" "java/lang/Throwable" "suppressedExceptions" "Ljava/util/List;" ∈ WS := tb2 (i := 72) rfl rfl
theorem qw_313 : Cond.lays "java/lang/IndexOutOfBoundsException" "java/lang/Throwable" "detailMessage" "Ljava/lang/String;" ∈ WS := tb2 (i := 73) rfl rfl
theorem qw_314 : Cond.lays "java/lang/IndexOutOfBoundsException" "java/lang/Throwable" "backtrace" "Ljava/lang/Object;" ∈ WS := tb2 (i := 74) rfl rfl
theorem qw_316 : Cond.methodLink "Dataroom" 147 ⟨"java/lang/IndexOutOfBoundsException", "<init>", "(Ljava/lang/String;)V"⟩ ∈ WS := tb2 (i := 76) rfl rfl
theorem qw_317 : Cond.instanceMethod ⟨"java/lang/IndexOutOfBoundsException", "<init>", "(Ljava/lang/String;)V"⟩ ∈ WS := tb2 (i := 77) rfl rfl
theorem qw_318 : Cond.code ⟨"java/lang/IndexOutOfBoundsException", "<init>", "(Ljava/lang/String;)V"⟩ prog_15_method_2_code 2 (Option.none : Option Jvm.ClassFile.FieldType) ∈ WS := tb2 (i := 78) rfl rfl
theorem qw_319 : Cond.methodLink "java/lang/IndexOutOfBoundsException" 7 ⟨"java/lang/RuntimeException", "<init>", "(Ljava/lang/String;)V"⟩ ∈ WS := tb2 (i := 79) rfl rfl
theorem qw_320 : Cond.lays "java/lang/IndexOutOfBoundsException" "java/lang/Throwable" "depth" "I" ∈ WS := tb2 (i := 80) rfl rfl
theorem qw_321 : Cond.superclass "java/lang/IndexOutOfBoundsException" "java/lang/RuntimeException" ∈ WS := tb2 (i := 81) rfl rfl
theorem qw_322 : Cond.methodLink "Dataroom" 68 ⟨"java/util/ArrayList", "get", "(I)Ljava/lang/Object;"⟩ ∈ WS := tb2 (i := 82) rfl rfl
theorem qw_323 : Cond.instanceMethod ⟨"java/util/ArrayList", "get", "(I)Ljava/lang/Object;"⟩ ∈ WS := tb2 (i := 83) rfl rfl
theorem qw_324 : Cond.selects "java/util/ArrayList" ⟨"java/util/ArrayList", "get", "(I)Ljava/lang/Object;"⟩ ⟨"java/util/ArrayList", "get", "(I)Ljava/lang/Object;"⟩ ∈ WS := tb2 (i := 84) rfl rfl
theorem qw_325 : Cond.code ⟨"java/util/ArrayList", "get", "(I)Ljava/lang/Object;"⟩ prog_25_method_20_code 2 (Option.some (Jvm.ClassFile.FieldType.object "java/lang/Object")) ∈ WS := tb2 (i := 85) rfl rfl
theorem qw_326 : Cond.methodLink "java/util/ArrayList" 118 ⟨"java/util/Objects", "checkIndex", "(II)I"⟩ ∈ WS := tb2 (i := 86) rfl rfl
theorem qw_327 : Cond.static ⟨"java/util/Objects", "checkIndex", "(II)I"⟩ ∈ WS := tb2 (i := 87) rfl rfl
theorem qw_328 : Cond.code ⟨"java/util/Objects", "checkIndex", "(II)I"⟩ prog_29_method_17_code 2 (Option.some Jvm.ClassFile.FieldType.int) ∈ WS := tb2 (i := 88) rfl rfl
theorem qw_329 : Cond.methodLink "java/util/Objects" 105 ⟨"jdk/internal/util/Preconditions", "checkIndex", "(IILjava/util/function/BiFunction;)I"⟩ ∈ WS := tb2 (i := 89) rfl rfl
theorem qw_330 : Cond.static ⟨"jdk/internal/util/Preconditions", "checkIndex", "(IILjava/util/function/BiFunction;)I"⟩ ∈ WS := tb2 (i := 90) rfl rfl
theorem qw_331 : Cond.code ⟨"jdk/internal/util/Preconditions", "checkIndex", "(IILjava/util/function/BiFunction;)I"⟩ prog_33_method_11_code 3 (Option.some Jvm.ClassFile.FieldType.int) ∈ WS := tb2 (i := 91) rfl rfl
theorem qw_332 : Cond.methodLink "java/util/ArrayList" 123 ⟨"java/util/ArrayList", "elementData", "(I)Ljava/lang/Object;"⟩ ∈ WS := tb2 (i := 92) rfl rfl
theorem qw_333 : Cond.instanceMethod ⟨"java/util/ArrayList", "elementData", "(I)Ljava/lang/Object;"⟩ ∈ WS := tb2 (i := 93) rfl rfl
theorem qw_334 : Cond.selects "java/util/ArrayList" ⟨"java/util/ArrayList", "elementData", "(I)Ljava/lang/Object;"⟩ ⟨"java/util/ArrayList", "elementData", "(I)Ljava/lang/Object;"⟩ ∈ WS := tb2 (i := 94) rfl rfl
theorem qw_335 : Cond.code ⟨"java/util/ArrayList", "elementData", "(I)Ljava/lang/Object;"⟩ prog_25_method_18_code 2 (Option.some (Jvm.ClassFile.FieldType.object "java/lang/Object")) ∈ WS := tb2 (i := 95) rfl rfl
theorem qw_336 : Cond.classLink "Dataroom" 72 "Dataroom$Party" ∈ WS := tb2 (i := 96) rfl rfl
theorem qw_337 : Cond.methodLink "Dataroom" 74 ⟨"Dataroom", "recall", "(LDataroom$Party;I)I"⟩ ∈ WS := tb2 (i := 97) rfl rfl
theorem qw_339 : Cond.instanceMethod ⟨"Dataroom", "recall", "(LDataroom$Party;I)I"⟩ ∈ WS := tb2 (i := 99) rfl rfl
theorem qw_340 : Cond.code ⟨"Dataroom", "recall", "(LDataroom$Party;I)I"⟩ prog_1_method_31_code 6 (Option.some Jvm.ClassFile.FieldType.int) ∈ WS := tb2 (i := 100) rfl rfl
theorem qw_341 : Cond.classLink "Dataroom" 129 "Dataroom$Answer" ∈ WS := tb2 (i := 101) rfl rfl
theorem qw_342 : Cond.methodLink "Dataroom" 209 ⟨"Dataroom$Answer", "standsFor", "(LDataroom$Party;)Z"⟩ ∈ WS := tb2 (i := 102) rfl rfl
theorem qw_343 : Cond.instanceMethod ⟨"Dataroom$Answer", "standsFor", "(LDataroom$Party;)Z"⟩ ∈ WS := tb2 (i := 103) rfl rfl
theorem qw_344 : Cond.selects "Dataroom$Answer" ⟨"Dataroom$Answer", "standsFor", "(LDataroom$Party;)Z"⟩ ⟨"Dataroom$Answer", "standsFor", "(LDataroom$Party;)Z"⟩ ∈ WS := tb2 (i := 104) rfl rfl
theorem qw_345 : Cond.code ⟨"Dataroom$Answer", "standsFor", "(LDataroom$Party;)Z"⟩ prog_2_method_2_code 2 (Option.some Jvm.ClassFile.FieldType.boolean) ∈ WS := tb2 (i := 105) rfl rfl
theorem qw_346 : Cond.methodLink "Dataroom" 205 ⟨"Dataroom", "holds", "(II)Z"⟩ ∈ WS := tb2 (i := 106) rfl rfl
theorem qw_347 : Cond.static ⟨"Dataroom", "holds", "(II)Z"⟩ ∈ WS := tb2 (i := 107) rfl rfl
theorem qw_348 : Cond.code ⟨"Dataroom", "holds", "(II)Z"⟩ prog_1_method_25_code 2 (Option.some Jvm.ClassFile.FieldType.boolean) ∈ WS := tb2 (i := 108) rfl rfl
theorem qw_349 : Cond.methodLink "Dataroom" 220 ⟨"Dataroom", "learnAnew", "(LDataroom$Party;)V"⟩ ∈ WS := tb2 (i := 109) rfl rfl
theorem qw_351 : Cond.instanceMethod ⟨"Dataroom", "learnAnew", "(LDataroom$Party;)V"⟩ ∈ WS := tb2 (i := 111) rfl rfl
theorem qw_352 : Cond.code ⟨"Dataroom", "learnAnew", "(LDataroom$Party;)V"⟩ prog_1_method_32_code 4 (Option.none : Option Jvm.ClassFile.FieldType) ∈ WS := tb2 (i := 112) rfl rfl
theorem qw_353 : Cond.methodLink "Dataroom" 224 ⟨"Dataroom$Party", "forget", "()V"⟩ ∈ WS := tb2 (i := 113) rfl rfl
theorem qw_354 : Cond.instanceMethod ⟨"Dataroom$Party", "forget", "()V"⟩ ∈ WS := tb2 (i := 114) rfl rfl
theorem qw_355 : Cond.selects "Dataroom$Party" ⟨"Dataroom$Party", "forget", "()V"⟩ ⟨"Dataroom$Party", "forget", "()V"⟩ ∈ WS := tb2 (i := 115) rfl rfl
theorem qw_356 : Cond.code ⟨"Dataroom$Party", "forget", "()V"⟩ prog_6_method_8_code 2 (Option.none : Option Jvm.ClassFile.FieldType) ∈ WS := tb2 (i := 116) rfl rfl
theorem qw_357 : Cond.methodLink "Dataroom$Party" 51 ⟨"Dataroom$Knowledge", "forget", "()V"⟩ ∈ WS := tb2 (i := 117) rfl rfl
theorem qw_358 : Cond.instanceMethod ⟨"Dataroom$Knowledge", "forget", "()V"⟩ ∈ WS := tb2 (i := 118) rfl rfl
theorem qw_359 : Cond.selects "Dataroom$Knowledge" ⟨"Dataroom$Knowledge", "forget", "()V"⟩ ⟨"Dataroom$Knowledge", "forget", "()V"⟩ ∈ WS := tb2 (i := 119) rfl rfl
theorem qw_360 : Cond.code ⟨"Dataroom$Knowledge", "forget", "()V"⟩ prog_4_method_2_code 2 (Option.none : Option Jvm.ClassFile.FieldType) ∈ WS := tb2 (i := 120) rfl rfl
theorem qw_361 : Cond.methodLink "Dataroom" 137 ⟨"Dataroom$Party", "learn", "(II)V"⟩ ∈ WS := tb2 (i := 121) rfl rfl
theorem qw_362 : Cond.instanceMethod ⟨"Dataroom$Party", "learn", "(II)V"⟩ ∈ WS := tb2 (i := 122) rfl rfl
theorem qw_363 : Cond.selects "Dataroom$Party" ⟨"Dataroom$Party", "learn", "(II)V"⟩ ⟨"Dataroom$Party", "learn", "(II)V"⟩ ∈ WS := tb2 (i := 123) rfl rfl
theorem qw_364 : Cond.code ⟨"Dataroom$Party", "learn", "(II)V"⟩ prog_6_method_7_code 4 (Option.none : Option Jvm.ClassFile.FieldType) ∈ WS := tb2 (i := 124) rfl rfl
theorem qw_366 : Cond.static ⟨"Dataroom", "covers", "(II)Z"⟩ ∈ WS := tb2 (i := 126) rfl rfl
theorem qw_367 : Cond.code ⟨"Dataroom", "covers", "(II)Z"⟩ prog_1_method_26_code 2 (Option.some Jvm.ClassFile.FieldType.boolean) ∈ WS := tb2 (i := 127) rfl rfl
theorem qw_368 : Cond.methodLink "Dataroom$Party" 47 ⟨"Dataroom$Knowledge", "learn", "(I)V"⟩ ∈ WS := tb2 (i := 128) rfl rfl
theorem qw_369 : Cond.instanceMethod ⟨"Dataroom$Knowledge", "learn", "(I)V"⟩ ∈ WS := tb2 (i := 129) rfl rfl
theorem qw_370 : Cond.selects "Dataroom$Knowledge" ⟨"Dataroom$Knowledge", "learn", "(I)V"⟩ ⟨"Dataroom$Knowledge", "learn", "(I)V"⟩ ∈ WS := tb2 (i := 130) rfl rfl
theorem qw_371 : Cond.code ⟨"Dataroom$Knowledge", "learn", "(I)V"⟩ prog_4_method_3_code 4 (Option.none : Option Jvm.ClassFile.FieldType) ∈ WS := tb2 (i := 131) rfl rfl
theorem qw_373 : Cond.methodLink "DataroomLaw" 88 ⟨"DataroomLaw", "party", "(LDataroom;I)I"⟩ ∈ WS := tb2 (i := 133) rfl rfl
theorem qw_374 : Cond.static ⟨"DataroomLaw", "party", "(LDataroom;I)I"⟩ ∈ WS := tb2 (i := 134) rfl rfl
theorem qw_375 : Cond.codeWith ⟨"DataroomLaw", "party", "(LDataroom;I)I"⟩ method_6_code 3 (Option.some Jvm.ClassFile.FieldType.int) [(0, 5, 6, 14), (0, 5, 10, 17)] ∈ WS := tb2 (i := 135) rfl rfl
theorem qw_376 : Cond.methodLink "DataroomLaw" 25 ⟨"Dataroom", "party", "(I)I"⟩ ∈ WS := tb2 (i := 136) rfl rfl
theorem qw_377 : Cond.instanceMethod ⟨"Dataroom", "party", "(I)I"⟩ ∈ WS := tb2 (i := 137) rfl rfl
theorem qw_378 : Cond.selects "Dataroom" ⟨"Dataroom", "party", "(I)I"⟩ ⟨"Dataroom", "party", "(I)I"⟩ ∈ WS := tb2 (i := 138) rfl rfl
theorem qw_379 : Cond.code ⟨"Dataroom", "party", "(I)I"⟩ prog_1_method_4_code 3 (Option.some Jvm.ClassFile.FieldType.int) ∈ WS := tb2 (i := 139) rfl rfl
theorem qw_381 : Cond.instantiable "Dataroom$Party" 5 ∈ WS := tb2 (i := 141) rfl rfl
theorem qw_382 : Cond.methodLink "Dataroom" 80 ⟨"Dataroom$Party", "<init>", "(II)V"⟩ ∈ WS := tb2 (i := 142) rfl rfl
theorem qw_383 : Cond.instanceMethod ⟨"Dataroom$Party", "<init>", "(II)V"⟩ ∈ WS := tb2 (i := 143) rfl rfl
theorem qw_384 : Cond.code ⟨"Dataroom$Party", "<init>", "(II)V"⟩ prog_6_method_1_code 4 (Option.none : Option Jvm.ClassFile.FieldType) ∈ WS := tb2 (i := 144) rfl rfl
theorem qw_385 : Cond.methodLink "Dataroom$Party" 3 ⟨"java/lang/Object", "<init>", "()V"⟩ ∈ WS := tb2 (i := 145) rfl rfl
theorem qw_386 : Cond.classLink "Dataroom$Party" 9 "Dataroom$Right" ∈ WS := tb2 (i := 146) rfl rfl
theorem qw_388 : Cond.classLink "Dataroom$Party" 17 "Dataroom$Knowledge" ∈ WS := tb2 (i := 148) rfl rfl
theorem qw_391 : Cond.fieldLink "Dataroom$Party" 27 "Dataroom$Party" "place" "I" ∈ WS := tb2 (i := 151) rfl rfl
theorem qw_394 : Cond.fieldLink "Dataroom$Party" 31 "Dataroom$Party" "budget" "I" ∈ WS := tb2 (i := 154) rfl rfl
theorem qw_396 : Cond.fieldLink "Dataroom$Party" 11 "Dataroom$Party" "rights" "[LDataroom$Right;" ∈ WS := tb2 (i := 156) rfl rfl
theorem qw_397 : Cond.fieldLink "Dataroom$Party" 19 "Dataroom$Party" "known" "[LDataroom$Knowledge;" ∈ WS := tb2 (i := 157) rfl rfl
theorem qw_399 : Cond.fieldLink "Dataroom$Party" 23 "Dataroom$Party" "fared" "[I" ∈ WS := tb2 (i := 159) rfl rfl
theorem qw_400 : Cond.laysFinal "Dataroom$Party" "Dataroom$Party" "place" "I" ∈ WS := tb2 (i := 160) rfl rfl
theorem qw_402 : Cond.lays "Dataroom$Party" "Dataroom$Party" "budget" "I" ∈ WS := tb2 (i := 162) rfl rfl
theorem qw_404 : Cond.laysFinal "Dataroom$Party" "Dataroom$Party" "rights" "[LDataroom$Right;" ∈ WS := tb2 (i := 164) rfl rfl
theorem qw_406 : Cond.laysFinal "Dataroom$Party" "Dataroom$Party" "known" "[LDataroom$Knowledge;" ∈ WS := tb2 (i := 166) rfl rfl
theorem qw_408 : Cond.laysFinal "Dataroom$Party" "Dataroom$Party" "fared" "[I" ∈ WS := tb2 (i := 168) rfl rfl
theorem qw_410 : Cond.superclass "Dataroom$Party" "java/lang/Object" ∈ WS := tb2 (i := 170) rfl rfl
theorem qw_411 : Cond.methodLink "DataroomLaw" 90 ⟨"DataroomLaw", "budget", "(LDataroom;II)I"⟩ ∈ WS := tb2 (i := 171) rfl rfl
theorem qw_412 : Cond.static ⟨"DataroomLaw", "budget", "(LDataroom;II)I"⟩ ∈ WS := tb2 (i := 172) rfl rfl
theorem qw_413 : Cond.codeWith ⟨"DataroomLaw", "budget", "(LDataroom;II)I"⟩ method_7_code 4 (Option.some Jvm.ClassFile.FieldType.int) [(0, 6, 7, 23), (0, 6, 11, 14)] ∈ WS := tb2 (i := 173) rfl rfl
theorem qw_414 : Cond.methodLink "DataroomLaw" 28 ⟨"Dataroom", "budget", "(II)I"⟩ ∈ WS := tb2 (i := 174) rfl rfl
theorem qw_415 : Cond.instanceMethod ⟨"Dataroom", "budget", "(II)I"⟩ ∈ WS := tb2 (i := 175) rfl rfl
theorem qw_416 : Cond.selects "Dataroom" ⟨"Dataroom", "budget", "(II)I"⟩ ⟨"Dataroom", "budget", "(II)I"⟩ ∈ WS := tb2 (i := 176) rfl rfl
theorem qw_417 : Cond.code ⟨"Dataroom", "budget", "(II)I"⟩ prog_1_method_5_code 5 (Option.some Jvm.ClassFile.FieldType.int) ∈ WS := tb2 (i := 177) rfl rfl
theorem qw_418 : Cond.methodLink "Dataroom" 83 ⟨"Dataroom", "partyAt", "(I)LDataroom$Party;"⟩ ∈ WS := tb2 (i := 178) rfl rfl
theorem qw_420 : Cond.instanceMethod ⟨"Dataroom", "partyAt", "(I)LDataroom$Party;"⟩ ∈ WS := tb2 (i := 180) rfl rfl
theorem qw_421 : Cond.code ⟨"Dataroom", "partyAt", "(I)LDataroom$Party;"⟩ prog_1_method_20_code 2 (Option.some (Jvm.ClassFile.FieldType.object "Dataroom$Party")) ∈ WS := tb2 (i := 181) rfl rfl
theorem qw_423 : Cond.methodLink "DataroomLaw" 92 ⟨"DataroomLaw", "right", "(LDataroom;IIIII)I"⟩ ∈ WS := tb2 (i := 183) rfl rfl
theorem qw_424 : Cond.static ⟨"DataroomLaw", "right", "(LDataroom;IIIII)I"⟩ ∈ WS := tb2 (i := 184) rfl rfl
theorem qw_425 : Cond.codeWith ⟨"DataroomLaw", "right", "(LDataroom;IIIII)I"⟩ method_8_code 7 (Option.some Jvm.ClassFile.FieldType.int) [(0, 12, 13, 23), (0, 12, 18, 14)] ∈ WS := tb2 (i := 185) rfl rfl
theorem qw_426 : Cond.methodLink "DataroomLaw" 31 ⟨"Dataroom", "right", "(IIIII)V"⟩ ∈ WS := tb2 (i := 186) rfl rfl
theorem qw_427 : Cond.instanceMethod ⟨"Dataroom", "right", "(IIIII)V"⟩ ∈ WS := tb2 (i := 187) rfl rfl
theorem qw_428 : Cond.selects "Dataroom" ⟨"Dataroom", "right", "(IIIII)V"⟩ ⟨"Dataroom", "right", "(IIIII)V"⟩ ∈ WS := tb2 (i := 188) rfl rfl
theorem qw_429 : Cond.code ⟨"Dataroom", "right", "(IIIII)V"⟩ prog_1_method_6_code 7 (Option.none : Option Jvm.ClassFile.FieldType) ∈ WS := tb2 (i := 189) rfl rfl
theorem qw_430 : Cond.classLink "Dataroom" 93 "Dataroom$Right" ∈ WS := tb2 (i := 190) rfl rfl
theorem qw_431 : Cond.instantiable "Dataroom$Right" 3 ∈ WS := tb2 (i := 191) rfl rfl
theorem qw_432 : Cond.methodLink "Dataroom" 95 ⟨"Dataroom$Right", "<init>", "(III)V"⟩ ∈ WS := tb2 (i := 192) rfl rfl
theorem qw_433 : Cond.instanceMethod ⟨"Dataroom$Right", "<init>", "(III)V"⟩ ∈ WS := tb2 (i := 193) rfl rfl
theorem qw_434 : Cond.code ⟨"Dataroom$Right", "<init>", "(III)V"⟩ prog_7_method_1_code 4 (Option.none : Option Jvm.ClassFile.FieldType) ∈ WS := tb2 (i := 194) rfl rfl
theorem qw_435 : Cond.methodLink "Dataroom$Right" 3 ⟨"java/lang/Object", "<init>", "()V"⟩ ∈ WS := tb2 (i := 195) rfl rfl
theorem qw_436 : Cond.fieldLink "Dataroom$Right" 9 "Dataroom$Right" "kind" "I" ∈ WS := tb2 (i := 196) rfl rfl
theorem qw_437 : Cond.fieldLink "Dataroom$Right" 15 "Dataroom$Right" "from" "I" ∈ WS := tb2 (i := 197) rfl rfl
theorem qw_438 : Cond.fieldLink "Dataroom$Right" 18 "Dataroom$Right" "to" "I" ∈ WS := tb2 (i := 198) rfl rfl
theorem qw_439 : Cond.laysFinal "Dataroom$Right" "Dataroom$Right" "kind" "I" ∈ WS := tb2 (i := 199) rfl rfl
theorem qw_441 : Cond.laysFinal "Dataroom$Right" "Dataroom$Right" "from" "I" ∈ WS := tb2 (i := 201) rfl rfl
theorem qw_443 : Cond.laysFinal "Dataroom$Right" "Dataroom$Right" "to" "I" ∈ WS := tb2 (i := 203) rfl rfl
theorem qw_445 : Cond.superclass "Dataroom$Right" "java/lang/Object" ∈ WS := tb2 (i := 205) rfl rfl
theorem qw_446 : Cond.methodLink "Dataroom" 97 ⟨"Dataroom$Party", "setRight", "(ILDataroom$Right;)V"⟩ ∈ WS := tb2 (i := 206) rfl rfl
theorem qw_447 : Cond.instanceMethod ⟨"Dataroom$Party", "setRight", "(ILDataroom$Right;)V"⟩ ∈ WS := tb2 (i := 207) rfl rfl
theorem qw_448 : Cond.selects "Dataroom$Party" ⟨"Dataroom$Party", "setRight", "(ILDataroom$Right;)V"⟩ ⟨"Dataroom$Party", "setRight", "(ILDataroom$Right;)V"⟩ ∈ WS := tb2 (i := 208) rfl rfl
theorem qw_449 : Cond.code ⟨"Dataroom$Party", "setRight", "(ILDataroom$Right;)V"⟩ prog_6_method_3_code 3 (Option.none : Option Jvm.ClassFile.FieldType) ∈ WS := tb2 (i := 209) rfl rfl
theorem qw_450 : Cond.methodLink "DataroomLaw" 95 ⟨"DataroomLaw", "takeBack", "(LDataroom;II)I"⟩ ∈ WS := tb2 (i := 210) rfl rfl
theorem qw_451 : Cond.static ⟨"DataroomLaw", "takeBack", "(LDataroom;II)I"⟩ ∈ WS := tb2 (i := 211) rfl rfl
theorem qw_452 : Cond.codeWith ⟨"DataroomLaw", "takeBack", "(LDataroom;II)I"⟩ method_9_code 4 (Option.some Jvm.ClassFile.FieldType.int) [(0, 6, 7, 23)] ∈ WS := tb2 (i := 212) rfl rfl
theorem qw_453 : Cond.methodLink "DataroomLaw" 35 ⟨"Dataroom", "takeBack", "(II)I"⟩ ∈ WS := tb2 (i := 213) rfl rfl
theorem qw_454 : Cond.instanceMethod ⟨"Dataroom", "takeBack", "(II)I"⟩ ∈ WS := tb2 (i := 214) rfl rfl
theorem qw_455 : Cond.selects "Dataroom" ⟨"Dataroom", "takeBack", "(II)I"⟩ ⟨"Dataroom", "takeBack", "(II)I"⟩ ∈ WS := tb2 (i := 215) rfl rfl
theorem qw_456 : Cond.code ⟨"Dataroom", "takeBack", "(II)I"⟩ prog_1_method_7_code 4 (Option.some Jvm.ClassFile.FieldType.int) ∈ WS := tb2 (i := 216) rfl rfl
theorem qw_457 : Cond.methodLink "Dataroom" 101 ⟨"Dataroom$Party", "rightFor", "(I)LDataroom$Right;"⟩ ∈ WS := tb2 (i := 217) rfl rfl
theorem qw_458 : Cond.instanceMethod ⟨"Dataroom$Party", "rightFor", "(I)LDataroom$Right;"⟩ ∈ WS := tb2 (i := 218) rfl rfl
theorem qw_459 : Cond.selects "Dataroom$Party" ⟨"Dataroom$Party", "rightFor", "(I)LDataroom$Right;"⟩ ⟨"Dataroom$Party", "rightFor", "(I)LDataroom$Right;"⟩ ∈ WS := tb2 (i := 219) rfl rfl
theorem qw_460 : Cond.code ⟨"Dataroom$Party", "rightFor", "(I)LDataroom$Right;"⟩ prog_6_method_2_code 2 (Option.some (Jvm.ClassFile.FieldType.object "Dataroom$Right")) ∈ WS := tb2 (i := 220) rfl rfl
theorem qw_461 : Cond.methodLink "DataroomLaw" 97 ⟨"DataroomLaw", "seal", "(LDataroom;II)I"⟩ ∈ WS := tb2 (i := 221) rfl rfl
theorem qw_462 : Cond.static ⟨"DataroomLaw", "seal", "(LDataroom;II)I"⟩ ∈ WS := tb2 (i := 222) rfl rfl
theorem qw_463 : Cond.codeWith ⟨"DataroomLaw", "seal", "(LDataroom;II)I"⟩ method_10_code 4 (Option.some Jvm.ClassFile.FieldType.int) [(0, 7, 8, 23), (0, 7, 12, 14)] ∈ WS := tb2 (i := 223) rfl rfl
theorem qw_464 : Cond.methodLink "DataroomLaw" 38 ⟨"Dataroom", "seal", "(II)V"⟩ ∈ WS := tb2 (i := 224) rfl rfl
theorem qw_465 : Cond.instanceMethod ⟨"Dataroom", "seal", "(II)V"⟩ ∈ WS := tb2 (i := 225) rfl rfl
theorem qw_466 : Cond.selects "Dataroom" ⟨"Dataroom", "seal", "(II)V"⟩ ⟨"Dataroom", "seal", "(II)V"⟩ ∈ WS := tb2 (i := 226) rfl rfl
theorem qw_467 : Cond.code ⟨"Dataroom", "seal", "(II)V"⟩ prog_1_method_8_code 4 (Option.none : Option Jvm.ClassFile.FieldType) ∈ WS := tb2 (i := 227) rfl rfl
theorem qw_468 : Cond.methodLink "DataroomLaw" 99 ⟨"DataroomLaw", "pass", "(LDataroom;I)I"⟩ ∈ WS := tb2 (i := 228) rfl rfl
theorem qw_469 : Cond.static ⟨"DataroomLaw", "pass", "(LDataroom;I)I"⟩ ∈ WS := tb2 (i := 229) rfl rfl
theorem qw_470 : Cond.codeWith ⟨"DataroomLaw", "pass", "(LDataroom;I)I"⟩ method_11_code 3 (Option.some Jvm.ClassFile.FieldType.int) [(0, 5, 6, 14), (0, 5, 10, 17)] ∈ WS := tb2 (i := 230) rfl rfl
theorem qw_471 : Cond.methodLink "DataroomLaw" 42 ⟨"Dataroom", "pass", "(I)I"⟩ ∈ WS := tb2 (i := 231) rfl rfl
theorem qw_472 : Cond.instanceMethod ⟨"Dataroom", "pass", "(I)I"⟩ ∈ WS := tb2 (i := 232) rfl rfl
theorem qw_473 : Cond.selects "Dataroom" ⟨"Dataroom", "pass", "(I)I"⟩ ⟨"Dataroom", "pass", "(I)I"⟩ ∈ WS := tb2 (i := 233) rfl rfl
theorem qw_474 : Cond.code ⟨"Dataroom", "pass", "(I)I"⟩ prog_1_method_9_code 2 (Option.some Jvm.ClassFile.FieldType.int) ∈ WS := tb2 (i := 234) rfl rfl
theorem qw_476 : Cond.methodLink "DataroomLaw" 101 ⟨"DataroomLaw", "ask", "(LDataroom;III)I"⟩ ∈ WS := tb2 (i := 236) rfl rfl
theorem qw_477 : Cond.static ⟨"DataroomLaw", "ask", "(LDataroom;III)I"⟩ ∈ WS := tb2 (i := 237) rfl rfl
theorem qw_478 : Cond.codeWith ⟨"DataroomLaw", "ask", "(LDataroom;III)I"⟩ method_12_code 5 (Option.some Jvm.ClassFile.FieldType.int) [(0, 7, 8, 23), (0, 7, 13, 14), (0, 7, 18, 17)] ∈ WS := tb2 (i := 238) rfl rfl
theorem qw_479 : Cond.methodLink "DataroomLaw" 45 ⟨"Dataroom", "ask", "(III)I"⟩ ∈ WS := tb2 (i := 239) rfl rfl
theorem qw_480 : Cond.instanceMethod ⟨"Dataroom", "ask", "(III)I"⟩ ∈ WS := tb3 (i := 0) rfl rfl
theorem qw_481 : Cond.selects "Dataroom" ⟨"Dataroom", "ask", "(III)I"⟩ ⟨"Dataroom", "ask", "(III)I"⟩ ∈ WS := tb3 (i := 1) rfl rfl
theorem qw_482 : Cond.code ⟨"Dataroom", "ask", "(III)I"⟩ prog_1_method_10_code 7 (Option.some Jvm.ClassFile.FieldType.int) ∈ WS := tb3 (i := 2) rfl rfl
theorem qw_483 : Cond.methodLink "Dataroom" 113 ⟨"Dataroom", "requireQuestion", "(II)V"⟩ ∈ WS := tb3 (i := 3) rfl rfl
theorem qw_485 : Cond.instanceMethod ⟨"Dataroom", "requireQuestion", "(II)V"⟩ ∈ WS := tb3 (i := 5) rfl rfl
theorem qw_486 : Cond.code ⟨"Dataroom", "requireQuestion", "(II)V"⟩ prog_1_method_24_code 3 (Option.none : Option Jvm.ClassFile.FieldType) ∈ WS := tb3 (i := 6) rfl rfl
theorem qw_488 : Cond.methodLink "Dataroom" 118 ⟨"Dataroom", "refusalOf", "(LDataroom$Party;II)I"⟩ ∈ WS := tb3 (i := 8) rfl rfl
theorem qw_490 : Cond.instanceMethod ⟨"Dataroom", "refusalOf", "(LDataroom$Party;II)I"⟩ ∈ WS := tb3 (i := 10) rfl rfl
theorem qw_491 : Cond.code ⟨"Dataroom", "refusalOf", "(LDataroom$Party;II)I"⟩ prog_1_method_27_code 4 (Option.some Jvm.ClassFile.FieldType.int) ∈ WS := tb3 (i := 11) rfl rfl
theorem qw_492 : Cond.methodLink "Dataroom" 194 ⟨"Dataroom", "lacksRight", "(LDataroom$Party;I)Z"⟩ ∈ WS := tb3 (i := 12) rfl rfl
theorem qw_494 : Cond.instanceMethod ⟨"Dataroom", "lacksRight", "(LDataroom$Party;I)Z"⟩ ∈ WS := tb3 (i := 14) rfl rfl
theorem qw_495 : Cond.code ⟨"Dataroom", "lacksRight", "(LDataroom$Party;I)Z"⟩ prog_1_method_28_code 4 (Option.some Jvm.ClassFile.FieldType.boolean) ∈ WS := tb3 (i := 15) rfl rfl
theorem qw_496 : Cond.methodLink "Dataroom" 172 ⟨"Dataroom$Party", "rightIn", "(II)I"⟩ ∈ WS := tb3 (i := 16) rfl rfl
theorem qw_497 : Cond.instanceMethod ⟨"Dataroom$Party", "rightIn", "(II)I"⟩ ∈ WS := tb3 (i := 17) rfl rfl
theorem qw_498 : Cond.selects "Dataroom$Party" ⟨"Dataroom$Party", "rightIn", "(II)I"⟩ ⟨"Dataroom$Party", "rightIn", "(II)I"⟩ ∈ WS := tb3 (i := 18) rfl rfl
theorem qw_499 : Cond.code ⟨"Dataroom$Party", "rightIn", "(II)I"⟩ prog_6_method_4_code 4 (Option.some Jvm.ClassFile.FieldType.int) ∈ WS := tb3 (i := 19) rfl rfl
theorem qw_500 : Cond.methodLink "Dataroom$Party" 35 ⟨"Dataroom$Party", "rightFor", "(I)LDataroom$Right;"⟩ ∈ WS := tb3 (i := 20) rfl rfl
theorem qw_501 : Cond.methodLink "Dataroom$Party" 39 ⟨"Dataroom$Right", "in", "(I)I"⟩ ∈ WS := tb3 (i := 21) rfl rfl
theorem qw_502 : Cond.instanceMethod ⟨"Dataroom$Right", "in", "(I)I"⟩ ∈ WS := tb3 (i := 22) rfl rfl
theorem qw_503 : Cond.selects "Dataroom$Right" ⟨"Dataroom$Right", "in", "(I)I"⟩ ⟨"Dataroom$Right", "in", "(I)I"⟩ ∈ WS := tb3 (i := 23) rfl rfl
theorem qw_504 : Cond.code ⟨"Dataroom$Right", "in", "(I)I"⟩ prog_7_method_2_code 2 (Option.some Jvm.ClassFile.FieldType.int) ∈ WS := tb3 (i := 24) rfl rfl
theorem qw_505 : Cond.methodLink "Dataroom" 198 ⟨"Dataroom", "hasSealed", "(I)Z"⟩ ∈ WS := tb3 (i := 25) rfl rfl
theorem qw_507 : Cond.instanceMethod ⟨"Dataroom", "hasSealed", "(I)Z"⟩ ∈ WS := tb3 (i := 27) rfl rfl
theorem qw_508 : Cond.code ⟨"Dataroom", "hasSealed", "(I)Z"⟩ prog_1_method_29_code 3 (Option.some Jvm.ClassFile.FieldType.boolean) ∈ WS := tb3 (i := 28) rfl rfl
theorem qw_509 : Cond.methodLink "Dataroom" 175 ⟨"Dataroom$Card", "isClosedIn", "(I)Z"⟩ ∈ WS := tb3 (i := 29) rfl rfl
theorem qw_510 : Cond.instanceMethod ⟨"Dataroom$Card", "isClosedIn", "(I)Z"⟩ ∈ WS := tb3 (i := 30) rfl rfl
theorem qw_511 : Cond.selects "Dataroom$Card" ⟨"Dataroom$Card", "isClosedIn", "(I)Z"⟩ ⟨"Dataroom$Card", "isClosedIn", "(I)Z"⟩ ∈ WS := tb3 (i := 31) rfl rfl
theorem qw_512 : Cond.code ⟨"Dataroom$Card", "isClosedIn", "(I)Z"⟩ prog_3_method_2_code 2 (Option.some Jvm.ClassFile.FieldType.boolean) ∈ WS := tb3 (i := 32) rfl rfl
theorem qw_513 : Cond.methodLink "Dataroom" 201 ⟨"Dataroom$Party", "wouldFindUnread", "(III)Z"⟩ ∈ WS := tb3 (i := 33) rfl rfl
theorem qw_514 : Cond.instanceMethod ⟨"Dataroom$Party", "wouldFindUnread", "(III)Z"⟩ ∈ WS := tb3 (i := 34) rfl rfl
theorem qw_515 : Cond.selects "Dataroom$Party" ⟨"Dataroom$Party", "wouldFindUnread", "(III)Z"⟩ ⟨"Dataroom$Party", "wouldFindUnread", "(III)Z"⟩ ∈ WS := tb3 (i := 35) rfl rfl
theorem qw_516 : Cond.code ⟨"Dataroom$Party", "wouldFindUnread", "(III)Z"⟩ prog_6_method_11_code 5 (Option.some Jvm.ClassFile.FieldType.boolean) ∈ WS := tb3 (i := 36) rfl rfl
theorem qw_517 : Cond.methodLink "Dataroom$Party" 61 ⟨"Dataroom$Party", "rightIn", "(II)I"⟩ ∈ WS := tb3 (i := 37) rfl rfl
theorem qw_518 : Cond.methodLink "Dataroom$Party" 65 ⟨"Dataroom$Party", "wouldFind", "(III)Z"⟩ ∈ WS := tb3 (i := 38) rfl rfl
theorem qw_520 : Cond.instanceMethod ⟨"Dataroom$Party", "wouldFind", "(III)Z"⟩ ∈ WS := tb3 (i := 40) rfl rfl
theorem qw_521 : Cond.code ⟨"Dataroom$Party", "wouldFind", "(III)Z"⟩ prog_6_method_12_code 5 (Option.some Jvm.ClassFile.FieldType.boolean) ∈ WS := tb3 (i := 41) rfl rfl
theorem qw_522 : Cond.methodLink "Dataroom$Party" 69 ⟨"Dataroom$Knowledge", "wouldReach", "(II)Z"⟩ ∈ WS := tb3 (i := 42) rfl rfl
theorem qw_523 : Cond.instanceMethod ⟨"Dataroom$Knowledge", "wouldReach", "(II)Z"⟩ ∈ WS := tb3 (i := 43) rfl rfl
theorem qw_524 : Cond.selects "Dataroom$Knowledge" ⟨"Dataroom$Knowledge", "wouldReach", "(II)Z"⟩ ⟨"Dataroom$Knowledge", "wouldReach", "(II)Z"⟩ ∈ WS := tb3 (i := 44) rfl rfl
theorem qw_525 : Cond.code ⟨"Dataroom$Knowledge", "wouldReach", "(II)Z"⟩ prog_4_method_6_code 3 (Option.some Jvm.ClassFile.FieldType.boolean) ∈ WS := tb3 (i := 45) rfl rfl
theorem qw_526 : Cond.methodLink "Dataroom$Knowledge" 27 ⟨"Dataroom$Knowledge", "knows", "(I)Z"⟩ ∈ WS := tb3 (i := 46) rfl rfl
theorem qw_527 : Cond.instanceMethod ⟨"Dataroom$Knowledge", "knows", "(I)Z"⟩ ∈ WS := tb3 (i := 47) rfl rfl
theorem qw_528 : Cond.selects "Dataroom$Knowledge" ⟨"Dataroom$Knowledge", "knows", "(I)Z"⟩ ⟨"Dataroom$Knowledge", "knows", "(I)Z"⟩ ∈ WS := tb3 (i := 48) rfl rfl
theorem qw_529 : Cond.code ⟨"Dataroom$Knowledge", "knows", "(I)Z"⟩ prog_4_method_5_code 4 (Option.some Jvm.ClassFile.FieldType.boolean) ∈ WS := tb3 (i := 49) rfl rfl
theorem qw_530 : Cond.methodLink "Dataroom" 152 ⟨"Dataroom$Party", "learnedInAll", "()I"⟩ ∈ WS := tb3 (i := 50) rfl rfl
theorem qw_531 : Cond.instanceMethod ⟨"Dataroom$Party", "learnedInAll", "()I"⟩ ∈ WS := tb3 (i := 51) rfl rfl
theorem qw_532 : Cond.selects "Dataroom$Party" ⟨"Dataroom$Party", "learnedInAll", "()I"⟩ ⟨"Dataroom$Party", "learnedInAll", "()I"⟩ ∈ WS := tb3 (i := 52) rfl rfl
theorem qw_533 : Cond.code ⟨"Dataroom$Party", "learnedInAll", "()I"⟩ prog_6_method_9_code 3 (Option.some Jvm.ClassFile.FieldType.int) ∈ WS := tb3 (i := 53) rfl rfl
theorem qw_534 : Cond.methodLink "Dataroom" 140 ⟨"Dataroom$Party", "costOf", "(II)I"⟩ ∈ WS := tb3 (i := 54) rfl rfl
theorem qw_535 : Cond.instanceMethod ⟨"Dataroom$Party", "costOf", "(II)I"⟩ ∈ WS := tb3 (i := 55) rfl rfl
theorem qw_536 : Cond.selects "Dataroom$Party" ⟨"Dataroom$Party", "costOf", "(II)I"⟩ ⟨"Dataroom$Party", "costOf", "(II)I"⟩ ∈ WS := tb3 (i := 56) rfl rfl
theorem qw_537 : Cond.code ⟨"Dataroom$Party", "costOf", "(II)I"⟩ prog_6_method_10_code 5 (Option.some Jvm.ClassFile.FieldType.int) ∈ WS := tb3 (i := 57) rfl rfl
theorem qw_538 : Cond.methodLink "Dataroom$Party" 57 ⟨"Dataroom$Knowledge", "knows", "(I)Z"⟩ ∈ WS := tb3 (i := 58) rfl rfl
theorem qw_539 : Cond.methodLink "Dataroom" 122 ⟨"Dataroom$Party", "countQuestion", "(I)V"⟩ ∈ WS := tb3 (i := 59) rfl rfl
theorem qw_540 : Cond.instanceMethod ⟨"Dataroom$Party", "countQuestion", "(I)V"⟩ ∈ WS := tb3 (i := 60) rfl rfl
theorem qw_541 : Cond.selects "Dataroom$Party" ⟨"Dataroom$Party", "countQuestion", "(I)V"⟩ ⟨"Dataroom$Party", "countQuestion", "(I)V"⟩ ∈ WS := tb3 (i := 61) rfl rfl
theorem qw_542 : Cond.code ⟨"Dataroom$Party", "countQuestion", "(I)V"⟩ prog_6_method_5_code 3 (Option.none : Option Jvm.ClassFile.FieldType) ∈ WS := tb3 (i := 62) rfl rfl
theorem qw_543 : Cond.methodLink "Dataroom" 125 ⟨"Dataroom", "sumOf", "(II)I"⟩ ∈ WS := tb3 (i := 63) rfl rfl
theorem qw_545 : Cond.instanceMethod ⟨"Dataroom", "sumOf", "(II)I"⟩ ∈ WS := tb3 (i := 65) rfl rfl
theorem qw_546 : Cond.code ⟨"Dataroom", "sumOf", "(II)I"⟩ prog_1_method_30_code 5 (Option.some Jvm.ClassFile.FieldType.int) ∈ WS := tb3 (i := 66) rfl rfl
theorem qw_547 : Cond.instantiable "Dataroom$Answer" 6 ∈ WS := tb3 (i := 67) rfl rfl
theorem qw_548 : Cond.methodLink "Dataroom" 134 ⟨"Dataroom$Answer", "<init>", "(IIIII)V"⟩ ∈ WS := tb3 (i := 68) rfl rfl
theorem qw_549 : Cond.instanceMethod ⟨"Dataroom$Answer", "<init>", "(IIIII)V"⟩ ∈ WS := tb3 (i := 69) rfl rfl
theorem qw_550 : Cond.code ⟨"Dataroom$Answer", "<init>", "(IIIII)V"⟩ prog_2_method_1_code 6 (Option.none : Option Jvm.ClassFile.FieldType) ∈ WS := tb3 (i := 70) rfl rfl
theorem qw_551 : Cond.methodLink "Dataroom$Answer" 1 ⟨"java/lang/Object", "<init>", "()V"⟩ ∈ WS := tb3 (i := 71) rfl rfl
theorem qw_552 : Cond.fieldLink "Dataroom$Answer" 7 "Dataroom$Answer" "party" "I" ∈ WS := tb3 (i := 72) rfl rfl
theorem qw_553 : Cond.fieldLink "Dataroom$Answer" 13 "Dataroom$Answer" "files" "I" ∈ WS := tb3 (i := 73) rfl rfl
theorem qw_555 : Cond.fieldLink "Dataroom$Answer" 16 "Dataroom$Answer" "bit" "I" ∈ WS := tb3 (i := 75) rfl rfl
theorem qw_557 : Cond.fieldLink "Dataroom$Answer" 19 "Dataroom$Answer" "given" "I" ∈ WS := tb3 (i := 77) rfl rfl
theorem qw_558 : Cond.fieldLink "Dataroom$Answer" 22 "Dataroom$Answer" "hour" "I" ∈ WS := tb3 (i := 78) rfl rfl
theorem qw_559 : Cond.fieldLink "Dataroom$Answer" 25 "Dataroom$Answer" "recalled" "Z" ∈ WS := tb3 (i := 79) rfl rfl
theorem qw_561 : Cond.laysFinal "Dataroom$Answer" "Dataroom$Answer" "party" "I" ∈ WS := tb3 (i := 81) rfl rfl
theorem qw_563 : Cond.laysFinal "Dataroom$Answer" "Dataroom$Answer" "files" "I" ∈ WS := tb3 (i := 83) rfl rfl
theorem qw_565 : Cond.laysFinal "Dataroom$Answer" "Dataroom$Answer" "bit" "I" ∈ WS := tb3 (i := 85) rfl rfl
theorem qw_567 : Cond.laysFinal "Dataroom$Answer" "Dataroom$Answer" "given" "I" ∈ WS := tb3 (i := 87) rfl rfl
theorem qw_569 : Cond.laysFinal "Dataroom$Answer" "Dataroom$Answer" "hour" "I" ∈ WS := tb3 (i := 89) rfl rfl
theorem qw_571 : Cond.lays "Dataroom$Answer" "Dataroom$Answer" "recalled" "Z" ∈ WS := tb3 (i := 91) rfl rfl
theorem qw_573 : Cond.superclass "Dataroom$Answer" "java/lang/Object" ∈ WS := tb3 (i := 93) rfl rfl
theorem qw_574 : Cond.methodLink "DataroomLaw" 104 ⟨"DataroomLaw", "cost", "(LDataroom;III)I"⟩ ∈ WS := tb3 (i := 94) rfl rfl
theorem qw_575 : Cond.static ⟨"DataroomLaw", "cost", "(LDataroom;III)I"⟩ ∈ WS := tb3 (i := 95) rfl rfl
theorem qw_576 : Cond.codeWith ⟨"DataroomLaw", "cost", "(LDataroom;III)I"⟩ method_13_code 5 (Option.some Jvm.ClassFile.FieldType.int) [(0, 7, 8, 23), (0, 7, 13, 14)] ∈ WS := tb3 (i := 96) rfl rfl
theorem qw_577 : Cond.methodLink "DataroomLaw" 49 ⟨"Dataroom", "cost", "(III)I"⟩ ∈ WS := tb3 (i := 97) rfl rfl
theorem qw_578 : Cond.instanceMethod ⟨"Dataroom", "cost", "(III)I"⟩ ∈ WS := tb3 (i := 98) rfl rfl
theorem qw_579 : Cond.selects "Dataroom" ⟨"Dataroom", "cost", "(III)I"⟩ ⟨"Dataroom", "cost", "(III)I"⟩ ∈ WS := tb3 (i := 99) rfl rfl
theorem qw_580 : Cond.code ⟨"Dataroom", "cost", "(III)I"⟩ prog_1_method_11_code 5 (Option.some Jvm.ClassFile.FieldType.int) ∈ WS := tb3 (i := 100) rfl rfl
theorem qw_581 : Cond.methodLink "DataroomLaw" 106 ⟨"DataroomLaw", "answer", "(LDataroom;II)I"⟩ ∈ WS := tb3 (i := 101) rfl rfl
theorem qw_582 : Cond.static ⟨"DataroomLaw", "answer", "(LDataroom;II)I"⟩ ∈ WS := tb3 (i := 102) rfl rfl
theorem qw_583 : Cond.codeWith ⟨"DataroomLaw", "answer", "(LDataroom;II)I"⟩ method_14_code 4 (Option.some Jvm.ClassFile.FieldType.int) [(0, 6, 7, 23), (0, 6, 11, 14)] ∈ WS := tb3 (i := 103) rfl rfl
theorem qw_584 : Cond.methodLink "DataroomLaw" 52 ⟨"Dataroom", "answer", "(II)I"⟩ ∈ WS := tb3 (i := 104) rfl rfl
theorem qw_585 : Cond.instanceMethod ⟨"Dataroom", "answer", "(II)I"⟩ ∈ WS := tb3 (i := 105) rfl rfl
theorem qw_586 : Cond.selects "Dataroom" ⟨"Dataroom", "answer", "(II)I"⟩ ⟨"Dataroom", "answer", "(II)I"⟩ ∈ WS := tb3 (i := 106) rfl rfl
theorem qw_587 : Cond.code ⟨"Dataroom", "answer", "(II)I"⟩ prog_1_method_12_code 3 (Option.some Jvm.ClassFile.FieldType.int) ∈ WS := tb3 (i := 107) rfl rfl
theorem qw_589 : Cond.methodLink "Dataroom" 148 ⟨"Dataroom$Answer", "tell", "(I)I"⟩ ∈ WS := tb3 (i := 109) rfl rfl
theorem qw_590 : Cond.instanceMethod ⟨"Dataroom$Answer", "tell", "(I)I"⟩ ∈ WS := tb3 (i := 110) rfl rfl
theorem qw_591 : Cond.selects "Dataroom$Answer" ⟨"Dataroom$Answer", "tell", "(I)I"⟩ ⟨"Dataroom$Answer", "tell", "(I)I"⟩ ∈ WS := tb3 (i := 111) rfl rfl
theorem qw_592 : Cond.code ⟨"Dataroom$Answer", "tell", "(I)I"⟩ prog_2_method_3_code 2 (Option.some Jvm.ClassFile.FieldType.int) ∈ WS := tb3 (i := 112) rfl rfl
theorem qw_593 : Cond.methodLink "DataroomLaw" 108 ⟨"DataroomLaw", "spent", "(LDataroom;I)I"⟩ ∈ WS := tb3 (i := 113) rfl rfl
theorem qw_594 : Cond.static ⟨"DataroomLaw", "spent", "(LDataroom;I)I"⟩ ∈ WS := tb3 (i := 114) rfl rfl
theorem qw_595 : Cond.codeWith ⟨"DataroomLaw", "spent", "(LDataroom;I)I"⟩ method_15_code 3 (Option.some Jvm.ClassFile.FieldType.int) [(0, 5, 6, 23)] ∈ WS := tb3 (i := 115) rfl rfl
theorem qw_596 : Cond.methodLink "DataroomLaw" 55 ⟨"Dataroom", "spent", "(I)I"⟩ ∈ WS := tb3 (i := 116) rfl rfl
theorem qw_597 : Cond.instanceMethod ⟨"Dataroom", "spent", "(I)I"⟩ ∈ WS := tb3 (i := 117) rfl rfl
theorem qw_598 : Cond.selects "Dataroom" ⟨"Dataroom", "spent", "(I)I"⟩ ⟨"Dataroom", "spent", "(I)I"⟩ ∈ WS := tb3 (i := 118) rfl rfl
theorem qw_599 : Cond.code ⟨"Dataroom", "spent", "(I)I"⟩ prog_1_method_13_code 2 (Option.some Jvm.ClassFile.FieldType.int) ∈ WS := tb3 (i := 119) rfl rfl
theorem qw_600 : Cond.methodLink "DataroomLaw" 110 ⟨"DataroomLaw", "finds", "(LDataroom;II)I"⟩ ∈ WS := tb3 (i := 120) rfl rfl
theorem qw_601 : Cond.static ⟨"DataroomLaw", "finds", "(LDataroom;II)I"⟩ ∈ WS := tb3 (i := 121) rfl rfl
theorem qw_602 : Cond.codeWith ⟨"DataroomLaw", "finds", "(LDataroom;II)I"⟩ method_17_code 4 (Option.some Jvm.ClassFile.FieldType.int) [(0, 6, 7, 23)] ∈ WS := tb3 (i := 122) rfl rfl
theorem qw_603 : Cond.methodLink "DataroomLaw" 61 ⟨"Dataroom", "finds", "(II)I"⟩ ∈ WS := tb3 (i := 123) rfl rfl
theorem qw_604 : Cond.instanceMethod ⟨"Dataroom", "finds", "(II)I"⟩ ∈ WS := tb3 (i := 124) rfl rfl
theorem qw_605 : Cond.selects "Dataroom" ⟨"Dataroom", "finds", "(II)I"⟩ ⟨"Dataroom", "finds", "(II)I"⟩ ∈ WS := tb3 (i := 125) rfl rfl
theorem qw_606 : Cond.code ⟨"Dataroom", "finds", "(II)I"⟩ prog_1_method_15_code 6 (Option.some Jvm.ClassFile.FieldType.int) ∈ WS := tb3 (i := 126) rfl rfl
theorem qw_607 : Cond.methodLink "Dataroom" 165 ⟨"Dataroom$Knowledge", "knows", "(I)Z"⟩ ∈ WS := tb3 (i := 127) rfl rfl
theorem qw_608 : Cond.methodLink "DataroomLaw" 112 ⟨"DataroomLaw", "together", "(LDataroom;II)I"⟩ ∈ WS := tb3 (i := 128) rfl rfl
theorem qw_609 : Cond.static ⟨"DataroomLaw", "together", "(LDataroom;II)I"⟩ ∈ WS := tb3 (i := 129) rfl rfl
theorem qw_610 : Cond.codeWith ⟨"DataroomLaw", "together", "(LDataroom;II)I"⟩ method_18_code 4 (Option.some Jvm.ClassFile.FieldType.int) [(0, 6, 7, 23), (0, 6, 11, 14)] ∈ WS := tb3 (i := 130) rfl rfl
theorem qw_611 : Cond.methodLink "DataroomLaw" 64 ⟨"Dataroom", "together", "(II)I"⟩ ∈ WS := tb3 (i := 131) rfl rfl
theorem qw_612 : Cond.instanceMethod ⟨"Dataroom", "together", "(II)I"⟩ ∈ WS := tb3 (i := 132) rfl rfl
theorem qw_613 : Cond.selects "Dataroom" ⟨"Dataroom", "together", "(II)I"⟩ ⟨"Dataroom", "together", "(II)I"⟩ ∈ WS := tb3 (i := 133) rfl rfl
theorem qw_614 : Cond.code ⟨"Dataroom", "together", "(II)I"⟩ prog_1_method_16_code 5 (Option.some Jvm.ClassFile.FieldType.int) ∈ WS := tb3 (i := 134) rfl rfl
theorem qw_615 : Cond.methodLink "Dataroom" 169 ⟨"Dataroom", "shareKnowledge", "(II)V"⟩ ∈ WS := tb3 (i := 135) rfl rfl
theorem qw_617 : Cond.instanceMethod ⟨"Dataroom", "shareKnowledge", "(II)V"⟩ ∈ WS := tb3 (i := 137) rfl rfl
theorem qw_618 : Cond.code ⟨"Dataroom", "shareKnowledge", "(II)V"⟩ prog_1_method_36_code 5 (Option.none : Option Jvm.ClassFile.FieldType) ∈ WS := tb3 (i := 138) rfl rfl
theorem qw_619 : Cond.methodLink "Dataroom" 241 ⟨"Dataroom$Knowledge", "forget", "()V"⟩ ∈ WS := tb3 (i := 139) rfl rfl
theorem qw_620 : Cond.methodLink "Dataroom" 242 ⟨"Dataroom$Knowledge", "learnFrom", "(LDataroom$Knowledge;)V"⟩ ∈ WS := tb3 (i := 140) rfl rfl
theorem qw_621 : Cond.instanceMethod ⟨"Dataroom$Knowledge", "learnFrom", "(LDataroom$Knowledge;)V"⟩ ∈ WS := tb3 (i := 141) rfl rfl
theorem qw_622 : Cond.selects "Dataroom$Knowledge" ⟨"Dataroom$Knowledge", "learnFrom", "(LDataroom$Knowledge;)V"⟩ ⟨"Dataroom$Knowledge", "learnFrom", "(LDataroom$Knowledge;)V"⟩ ∈ WS := tb3 (i := 142) rfl rfl
theorem qw_623 : Cond.code ⟨"Dataroom$Knowledge", "learnFrom", "(LDataroom$Knowledge;)V"⟩ prog_4_method_4_code 3 (Option.none : Option Jvm.ClassFile.FieldType) ∈ WS := tb3 (i := 143) rfl rfl
theorem qw_624 : Cond.methodLink "Dataroom$Knowledge" 23 ⟨"Dataroom$Knowledge", "learn", "(I)V"⟩ ∈ WS := tb3 (i := 144) rfl rfl
theorem qw_625 : Cond.methodLink "DataroomLaw" 114 ⟨"DataroomLaw", "rightTo", "(LDataroom;II)I"⟩ ∈ WS := tb3 (i := 145) rfl rfl
theorem qw_626 : Cond.static ⟨"DataroomLaw", "rightTo", "(LDataroom;II)I"⟩ ∈ WS := tb3 (i := 146) rfl rfl
theorem qw_627 : Cond.codeWith ⟨"DataroomLaw", "rightTo", "(LDataroom;II)I"⟩ method_19_code 4 (Option.some Jvm.ClassFile.FieldType.int) [(0, 6, 7, 23)] ∈ WS := tb3 (i := 147) rfl rfl
theorem qw_628 : Cond.methodLink "DataroomLaw" 67 ⟨"Dataroom", "rightTo", "(II)I"⟩ ∈ WS := tb3 (i := 148) rfl rfl
theorem qw_629 : Cond.instanceMethod ⟨"Dataroom", "rightTo", "(II)I"⟩ ∈ WS := tb3 (i := 149) rfl rfl
theorem qw_630 : Cond.selects "Dataroom" ⟨"Dataroom", "rightTo", "(II)I"⟩ ⟨"Dataroom", "rightTo", "(II)I"⟩ ∈ WS := tb3 (i := 150) rfl rfl
theorem qw_631 : Cond.code ⟨"Dataroom", "rightTo", "(II)I"⟩ prog_1_method_17_code 4 (Option.some Jvm.ClassFile.FieldType.int) ∈ WS := tb3 (i := 151) rfl rfl
theorem qw_632 : Cond.methodLink "DataroomLaw" 116 ⟨"DataroomLaw", "isSealed", "(LDataroom;I)I"⟩ ∈ WS := tb3 (i := 152) rfl rfl
theorem qw_633 : Cond.static ⟨"DataroomLaw", "isSealed", "(LDataroom;I)I"⟩ ∈ WS := tb3 (i := 153) rfl rfl
theorem qw_634 : Cond.codeWith ⟨"DataroomLaw", "isSealed", "(LDataroom;I)I"⟩ method_20_code 3 (Option.some Jvm.ClassFile.FieldType.int) [(0, 13, 14, 23)] ∈ WS := tb3 (i := 154) rfl rfl
theorem qw_635 : Cond.methodLink "DataroomLaw" 70 ⟨"Dataroom", "isSealed", "(I)Z"⟩ ∈ WS := tb3 (i := 155) rfl rfl
theorem qw_636 : Cond.instanceMethod ⟨"Dataroom", "isSealed", "(I)Z"⟩ ∈ WS := tb3 (i := 156) rfl rfl
theorem qw_637 : Cond.selects "Dataroom" ⟨"Dataroom", "isSealed", "(I)Z"⟩ ⟨"Dataroom", "isSealed", "(I)Z"⟩ ∈ WS := tb3 (i := 157) rfl rfl
theorem qw_638 : Cond.code ⟨"Dataroom", "isSealed", "(I)Z"⟩ prog_1_method_18_code 2 (Option.some Jvm.ClassFile.FieldType.boolean) ∈ WS := tb3 (i := 158) rfl rfl
theorem qw_639 : Cond.methodLink "DataroomLaw" 118 ⟨"DataroomLaw", "count", "(LDataroom;II)I"⟩ ∈ WS := tb3 (i := 159) rfl rfl
theorem qw_640 : Cond.static ⟨"DataroomLaw", "count", "(LDataroom;II)I"⟩ ∈ WS := tb3 (i := 160) rfl rfl
theorem qw_641 : Cond.codeWith ⟨"DataroomLaw", "count", "(LDataroom;II)I"⟩ method_21_code 4 (Option.some Jvm.ClassFile.FieldType.int) [(0, 6, 7, 23), (0, 6, 11, 14)] ∈ WS := tb3 (i := 161) rfl rfl
theorem qw_642 : Cond.methodLink "DataroomLaw" 74 ⟨"Dataroom", "count", "(II)I"⟩ ∈ WS := tb3 (i := 162) rfl rfl
theorem qw_643 : Cond.instanceMethod ⟨"Dataroom", "count", "(II)I"⟩ ∈ WS := tb3 (i := 163) rfl rfl
theorem qw_644 : Cond.selects "Dataroom" ⟨"Dataroom", "count", "(II)I"⟩ ⟨"Dataroom", "count", "(II)I"⟩ ∈ WS := tb3 (i := 164) rfl rfl
theorem qw_645 : Cond.code ⟨"Dataroom", "count", "(II)I"⟩ prog_1_method_19_code 4 (Option.some Jvm.ClassFile.FieldType.int) ∈ WS := tb3 (i := 165) rfl rfl
theorem qw_646 : Cond.methodLink "Dataroom" 178 ⟨"Dataroom", "countStanding", "(LDataroom$Party;)I"⟩ ∈ WS := tb3 (i := 166) rfl rfl
theorem qw_648 : Cond.instanceMethod ⟨"Dataroom", "countStanding", "(LDataroom$Party;)I"⟩ ∈ WS := tb3 (i := 168) rfl rfl
theorem qw_649 : Cond.code ⟨"Dataroom", "countStanding", "(LDataroom$Party;)I"⟩ prog_1_method_33_code 4 (Option.some Jvm.ClassFile.FieldType.int) ∈ WS := tb3 (i := 169) rfl rfl
theorem qw_650 : Cond.methodLink "Dataroom" 182 ⟨"Dataroom$Party", "questions", "(I)I"⟩ ∈ WS := tb3 (i := 170) rfl rfl
theorem qw_651 : Cond.instanceMethod ⟨"Dataroom$Party", "questions", "(I)I"⟩ ∈ WS := tb3 (i := 171) rfl rfl
theorem qw_652 : Cond.selects "Dataroom$Party" ⟨"Dataroom$Party", "questions", "(I)I"⟩ ⟨"Dataroom$Party", "questions", "(I)I"⟩ ∈ WS := tb3 (i := 172) rfl rfl
theorem qw_653 : Cond.code ⟨"Dataroom$Party", "questions", "(I)I"⟩ prog_6_method_6_code 2 (Option.some Jvm.ClassFile.FieldType.int) ∈ WS := tb3 (i := 173) rfl rfl
theorem qw_654 : Cond.methodLink "DataroomLaw" 128 ⟨"DataroomLaw", "areAlike", "(LDataroom;LDataroom;I)Z"⟩ ∈ WS := tb3 (i := 174) rfl rfl
theorem qw_655 : Cond.static ⟨"DataroomLaw", "areAlike", "(LDataroom;LDataroom;I)Z"⟩ ∈ WS := tb3 (i := 175) rfl rfl
theorem qw_656 : Cond.code ⟨"DataroomLaw", "areAlike", "(LDataroom;LDataroom;I)Z"⟩ method_23_code 5 (Option.some Jvm.ClassFile.FieldType.boolean) ∈ WS := tb3 (i := 176) rfl rfl
theorem qw_657 : Cond.methodLink "DataroomLaw" 132 ⟨"DataroomLaw", "isSo", "(LDataroom;)Z"⟩ ∈ WS := tb3 (i := 177) rfl rfl
theorem qw_658 : Cond.static ⟨"DataroomLaw", "isSo", "(LDataroom;)Z"⟩ ∈ WS := tb3 (i := 178) rfl rfl
theorem qw_659 : Cond.code ⟨"DataroomLaw", "isSo", "(LDataroom;)Z"⟩ method_24_code 8 (Option.some Jvm.ClassFile.FieldType.boolean) ∈ WS := tb3 (i := 179) rfl rfl
theorem qw_660 : Cond.methodLink "DataroomLaw" 58 ⟨"Dataroom", "spentAnew", "(I)I"⟩ ∈ WS := tb3 (i := 180) rfl rfl
theorem qw_661 : Cond.instanceMethod ⟨"Dataroom", "spentAnew", "(I)I"⟩ ∈ WS := tb3 (i := 181) rfl rfl
theorem qw_662 : Cond.selects "Dataroom" ⟨"Dataroom", "spentAnew", "(I)I"⟩ ⟨"Dataroom", "spentAnew", "(I)I"⟩ ∈ WS := tb3 (i := 182) rfl rfl
theorem qw_663 : Cond.code ⟨"Dataroom", "spentAnew", "(I)I"⟩ prog_1_method_14_code 5 (Option.some Jvm.ClassFile.FieldType.int) ∈ WS := tb3 (i := 183) rfl rfl
theorem qw_664 : Cond.methodLink "Dataroom" 155 ⟨"Dataroom", "countKnownSets", "(LDataroom$Party;I)I"⟩ ∈ WS := tb3 (i := 184) rfl rfl
theorem qw_666 : Cond.instanceMethod ⟨"Dataroom", "countKnownSets", "(LDataroom$Party;I)I"⟩ ∈ WS := tb3 (i := 186) rfl rfl
theorem qw_667 : Cond.code ⟨"Dataroom", "countKnownSets", "(LDataroom$Party;I)I"⟩ prog_1_method_34_code 5 (Option.some Jvm.ClassFile.FieldType.int) ∈ WS := tb3 (i := 187) rfl rfl
theorem qw_668 : Cond.methodLink "Dataroom" 230 ⟨"Dataroom$Marks", "begin", "(I)V"⟩ ∈ WS := tb3 (i := 188) rfl rfl
theorem qw_669 : Cond.instanceMethod ⟨"Dataroom$Marks", "begin", "(I)V"⟩ ∈ WS := tb3 (i := 189) rfl rfl
theorem qw_670 : Cond.selects "Dataroom$Marks" ⟨"Dataroom$Marks", "begin", "(I)V"⟩ ⟨"Dataroom$Marks", "begin", "(I)V"⟩ ∈ WS := tb3 (i := 190) rfl rfl
theorem qw_671 : Cond.code ⟨"Dataroom$Marks", "begin", "(I)V"⟩ prog_5_method_2_code 3 (Option.none : Option Jvm.ClassFile.FieldType) ∈ WS := tb3 (i := 191) rfl rfl
theorem qw_672 : Cond.methodLink "Dataroom$Marks" 15 ⟨"java/lang/Math", "max", "(II)I"⟩ ∈ WS := tb3 (i := 192) rfl rfl
theorem qw_673 : Cond.methodLink "Dataroom$Marks" 21 ⟨"java/lang/Math", "min", "(II)I"⟩ ∈ WS := tb3 (i := 193) rfl rfl
theorem qw_674 : Cond.methodLink "Dataroom" 233 ⟨"Dataroom", "covers", "(II)Z"⟩ ∈ WS := tb3 (i := 194) rfl rfl
theorem qw_675 : Cond.methodLink "Dataroom" 236 ⟨"Dataroom$Marks", "add", "(I)V"⟩ ∈ WS := tb3 (i := 195) rfl rfl
theorem qw_676 : Cond.instanceMethod ⟨"Dataroom$Marks", "add", "(I)V"⟩ ∈ WS := tb3 (i := 196) rfl rfl
theorem qw_677 : Cond.selects "Dataroom$Marks" ⟨"Dataroom$Marks", "add", "(I)V"⟩ ⟨"Dataroom$Marks", "add", "(I)V"⟩ ∈ WS := tb3 (i := 197) rfl rfl
theorem qw_678 : Cond.code ⟨"Dataroom$Marks", "add", "(I)V"⟩ prog_5_method_3_code 4 (Option.none : Option Jvm.ClassFile.FieldType) ∈ WS := tb3 (i := 198) rfl rfl
theorem qw_679 : Cond.methodLink "Dataroom$Marks" 28 ⟨"Dataroom$Marks", "isMarked", "(I)Z"⟩ ∈ WS := tb3 (i := 199) rfl rfl
theorem qw_681 : Cond.instanceMethod ⟨"Dataroom$Marks", "isMarked", "(I)Z"⟩ ∈ WS := tb3 (i := 201) rfl rfl
theorem qw_682 : Cond.code ⟨"Dataroom$Marks", "isMarked", "(I)Z"⟩ prog_5_method_5_code 3 (Option.some Jvm.ClassFile.FieldType.boolean) ∈ WS := tb3 (i := 202) rfl rfl
theorem qw_683 : Cond.methodLink "Dataroom$Marks" 32 ⟨"Dataroom$Marks", "crossed", "(JI)J"⟩ ∈ WS := tb3 (i := 203) rfl rfl
theorem qw_684 : Cond.static ⟨"Dataroom$Marks", "crossed", "(JI)J"⟩ ∈ WS := tb3 (i := 204) rfl rfl
theorem qw_685 : Cond.code ⟨"Dataroom$Marks", "crossed", "(JI)J"⟩ prog_5_method_6_code 7 (Option.some Jvm.ClassFile.FieldType.long) ∈ WS := tb3 (i := 205) rfl rfl
theorem qw_686 : Cond.fieldLink "Dataroom$Marks" 42 "Dataroom$Marks" "LACKING" "[J" ∈ WS := tb3 (i := 206) rfl rfl
theorem qw_689 : Cond.methodLink "Dataroom" 238 ⟨"Dataroom$Marks", "sets", "()I"⟩ ∈ WS := tb3 (i := 209) rfl rfl
theorem qw_690 : Cond.instanceMethod ⟨"Dataroom$Marks", "sets", "()I"⟩ ∈ WS := tb3 (i := 210) rfl rfl
theorem qw_691 : Cond.selects "Dataroom$Marks" ⟨"Dataroom$Marks", "sets", "()I"⟩ ⟨"Dataroom$Marks", "sets", "()I"⟩ ∈ WS := tb3 (i := 211) rfl rfl
theorem qw_692 : Cond.code ⟨"Dataroom$Marks", "sets", "()I"⟩ prog_5_method_4_code 3 (Option.some Jvm.ClassFile.FieldType.int) ∈ WS := tb3 (i := 212) rfl rfl
theorem qw_693 : Cond.methodLink "Dataroom$Marks" 36 ⟨"java/lang/Long", "bitCount", "(J)I"⟩ ∈ WS := tb3 (i := 213) rfl rfl
theorem qw_694 : Cond.static ⟨"java/lang/Long", "bitCount", "(J)I"⟩ ∈ WS := tb3 (i := 214) rfl rfl
theorem qw_695 : Cond.code ⟨"java/lang/Long", "bitCount", "(J)I"⟩ prog_17_method_50_code 2 (Option.some Jvm.ClassFile.FieldType.int) ∈ WS := tb3 (i := 215) rfl rfl
theorem qw_696 : Cond.constantLong "java/lang/Long" 314 (6148914691236517205 : Int64) ∈ WS := tb3 (i := 216) rfl rfl
theorem qw_697 : Cond.constantLong "java/lang/Long" 316 (3689348814741910323 : Int64) ∈ WS := tb3 (i := 217) rfl rfl
theorem qw_698 : Cond.constantLong "java/lang/Long" 318 (1085102592571150095 : Int64) ∈ WS := tb3 (i := 218) rfl rfl
theorem qw_699 : Cond.methodLink "Dataroom" 158 ⟨"Dataroom", "generatorsOf", "(I)I"⟩ ∈ WS := tb3 (i := 219) rfl rfl
theorem qw_700 : Cond.static ⟨"Dataroom", "generatorsOf", "(I)I"⟩ ∈ WS := tb3 (i := 220) rfl rfl
theorem qw_701 : Cond.code ⟨"Dataroom", "generatorsOf", "(I)I"⟩ prog_1_method_35_code 3 (Option.some Jvm.ClassFile.FieldType.int) ∈ WS := tb3 (i := 221) rfl rfl
theorem qw_702 : Cond.sameMethod "java/lang/Throwable" "java/lang/Throwable" "fillInStackTrace" "(I)Ljava/lang/Throwable;" ∈ WS := tb3 (i := 222) rfl rfl
theorem qw_716 : Cond.sameMethod "[Ljava/lang/Object;" "java/lang/Object" "getClass" "()Ljava/lang/Class;" ∈ WS := tb3 (i := 236) rfl rfl
theorem qw_717 : Cond.selects "[Ljava/lang/Object;" ⟨"java/lang/Object", "getClass", "()Ljava/lang/Class;"⟩ ⟨"java/lang/Object", "getClass", "()Ljava/lang/Class;"⟩ ∈ WS := tb3 (i := 237) rfl rfl
