theorem nw_61 : Cond.methodLinkNest "Dataroom" 24 ⟨"Dataroom$Knowledge", "<init>", "()V"⟩ "Dataroom" ∈ NB := nb1 (i := 61) rfl rfl
theorem nw_67 : Cond.fieldLinkNest "Dataroom$Party" 54 "Dataroom$Knowledge" "learned" "I" "Dataroom" ∈ NB := nb1 (i := 67) rfl rfl
theorem nw_76 : Cond.methodLinkNest "Dataroom" 31 ⟨"Dataroom$Marks", "<init>", "()V"⟩ "Dataroom" ∈ NB := nb1 (i := 76) rfl rfl
theorem nw_121 : Cond.castable "java/lang/IllegalArgumentException" "java/lang/IllegalArgumentException" ∈ NB := nb1 (i := 121) rfl rfl
theorem nw_122 : Cond.declares ⟨"java/lang/RuntimeException", "<init>", "()V"⟩ ∈ NB := nb1 (i := 122) rfl rfl
theorem nw_123 : Cond.declares ⟨"java/lang/RuntimeException", "<init>", "(Ljava/lang/String;)V"⟩ ∈ NB := nb1 (i := 123) rfl rfl
theorem nw_124 : Cond.declares ⟨"java/lang/Exception", "<init>", "()V"⟩ ∈ NB := nb1 (i := 124) rfl rfl
theorem nw_125 : Cond.declares ⟨"java/lang/Exception", "<init>", "(Ljava/lang/String;)V"⟩ ∈ NB := nb1 (i := 125) rfl rfl
theorem nw_126 : Cond.declares ⟨"java/lang/Throwable", "<init>", "()V"⟩ ∈ NB := nb1 (i := 126) rfl rfl
theorem nw_127 : Cond.declares ⟨"java/lang/Throwable", "<init>", "(Ljava/lang/String;)V"⟩ ∈ NB := nb1 (i := 127) rfl rfl
theorem nw_159 : Cond.native ⟨"java/lang/Throwable", "fillInStackTrace", "(I)Ljava/lang/Throwable;"⟩ ∈ NB := nb1 (i := 159) rfl rfl
theorem nw_193 : Cond.castable "java/lang/IllegalStateException" "java/lang/IllegalStateException" ∈ NB := nb1 (i := 193) rfl rfl
theorem nw_214 : Cond.fieldLinkNest "Dataroom" 64 "Dataroom$Card" "number" "I" "Dataroom" ∈ NB := nb1 (i := 214) rfl rfl
theorem nw_216 : Cond.fieldLinkNest "Dataroom" 105 "Dataroom$Card" "sealedTill" "I" "Dataroom" ∈ NB := nb1 (i := 216) rfl rfl
theorem nw_266 : Cond.native ⟨"java/lang/Object", "getClass", "()Ljava/lang/Class;"⟩ ∈ NB := nb2 (i := 26) rfl rfl
theorem nw_278 : Cond.native ⟨"java/lang/System", "arraycopy", "(Ljava/lang/Object;ILjava/lang/Object;II)V"⟩ ∈ NB := nb2 (i := 38) rfl rfl
theorem nw_299 : Cond.castable "java/lang/IndexOutOfBoundsException" "java/lang/IndexOutOfBoundsException" ∈ NB := nb2 (i := 59) rfl rfl
theorem nw_356 : Cond.methodLinkNest "Dataroom$Party" 43 ⟨"Dataroom", "covers", "(II)Z"⟩ "Dataroom" ∈ NB := nb2 (i := 116) rfl rfl
theorem nw_363 : Cond.methodLinkNest "Dataroom$Knowledge" 19 ⟨"Dataroom", "holds", "(II)Z"⟩ "Dataroom" ∈ NB := nb2 (i := 123) rfl rfl
theorem nw_381 : Cond.methodLinkNest "Dataroom$Party" 34 ⟨"Dataroom$Knowledge", "<init>", "()V"⟩ "Dataroom" ∈ NB := nb2 (i := 141) rfl rfl
theorem nw_383 : Cond.fieldLinkNest "Dataroom$Answer" 29 "Dataroom$Party" "place" "I" "Dataroom" ∈ NB := nb2 (i := 143) rfl rfl
theorem nw_384 : Cond.fieldLinkNest "Dataroom" 131 "Dataroom$Party" "place" "I" "Dataroom" ∈ NB := nb2 (i := 144) rfl rfl
theorem nw_386 : Cond.fieldLinkNest "Dataroom" 87 "Dataroom$Party" "budget" "I" "Dataroom" ∈ NB := nb2 (i := 146) rfl rfl
theorem nw_389 : Cond.fieldLinkNest "Dataroom" 161 "Dataroom$Party" "known" "[LDataroom$Knowledge;" "Dataroom" ∈ NB := nb2 (i := 149) rfl rfl
theorem nw_545 : Cond.fieldLinkNest "Dataroom" 213 "Dataroom$Answer" "files" "I" "Dataroom" ∈ NB := nb3 (i := 65) rfl rfl
theorem nw_547 : Cond.fieldLinkNest "Dataroom" 227 "Dataroom$Answer" "bit" "I" "Dataroom" ∈ NB := nb3 (i := 67) rfl rfl
theorem nw_551 : Cond.fieldLinkNest "Dataroom" 216 "Dataroom$Answer" "recalled" "Z" "Dataroom" ∈ NB := nb3 (i := 71) rfl rfl
theorem nw_622 : Cond.methodLinkNest "Dataroom$Marks" 45 ⟨"Dataroom", "holds", "(II)Z"⟩ "Dataroom" ∈ NB := nb3 (i := 142) rfl rfl
theorem nw_901 : Cond.castable "Dataroom$Right" "java/lang/Object" ∈ NB := nb4 (i := 181) rfl rfl
theorem nw_902 : Cond.castable "Dataroom$Knowledge" "java/lang/Object" ∈ NB := nb4 (i := 182) rfl rfl
theorem nw_903 : Cond.castable "Dataroom" "java/lang/Object" ∈ NB := nb4 (i := 183) rfl rfl
theorem nw_904 : Cond.castable "java/util/ArrayList" "java/lang/Object" ∈ NB := nb4 (i := 184) rfl rfl
theorem nw_905 : Cond.castable "Dataroom$Marks" "java/lang/Object" ∈ NB := nb4 (i := 185) rfl rfl
theorem nw_906 : Cond.castable "DataroomModel" "java/lang/Object" ∈ NB := nb4 (i := 186) rfl rfl
theorem nw_907 : Cond.castable "java/lang/IllegalArgumentException" "java/lang/Object" ∈ NB := nb4 (i := 187) rfl rfl
theorem nw_908 : Cond.castable "java/lang/IllegalStateException" "java/lang/Object" ∈ NB := nb4 (i := 188) rfl rfl
theorem nw_909 : Cond.castable "Dataroom$Card" "java/lang/Object" ∈ NB := nb4 (i := 189) rfl rfl
theorem nw_910 : Cond.castable "java/lang/IndexOutOfBoundsException" "java/lang/Object" ∈ NB := nb4 (i := 190) rfl rfl
theorem nw_911 : Cond.castable "Dataroom$Party" "java/lang/Object" ∈ NB := nb4 (i := 191) rfl rfl
theorem nw_912 : Cond.castable "Dataroom$Answer" "java/lang/Object" ∈ NB := nb4 (i := 192) rfl rfl
theorem nw_913 : Cond.castable "java/lang/Throwable" "java/lang/Object" ∈ NB := nb4 (i := 193) rfl rfl
theorem nw_914 : Cond.castable "java/lang/String" "java/lang/Object" ∈ NB := nb4 (i := 194) rfl rfl
theorem nw_917 : Cond.declares ⟨"java/lang/Object", "getClass", "()Ljava/lang/Class;"⟩ ∈ NB := nb4 (i := 197) rfl rfl
theorem nw_918 : Cond.castable "[I" "java/lang/Object" ∈ NB := nb4 (i := 198) rfl rfl
theorem nw_919 : Cond.castable "[J" "java/lang/Object" ∈ NB := nb4 (i := 199) rfl rfl
theorem nw_920 : Cond.castable "[B" "java/lang/Object" ∈ NB := nb4 (i := 200) rfl rfl
theorem nw_921 : Cond.castable "[Ljava/lang/Object;" "java/lang/Object" ∈ NB := nb4 (i := 201) rfl rfl
theorem nw_922 : Cond.castable "[LDataroom$Right;" "java/lang/Object" ∈ NB := nb4 (i := 202) rfl rfl
theorem nw_923 : Cond.castable "[LDataroom$Knowledge;" "java/lang/Object" ∈ NB := nb4 (i := 203) rfl rfl
theorem nw_924 : Cond.castable "[Z" "java/lang/Object" ∈ NB := nb4 (i := 204) rfl rfl
