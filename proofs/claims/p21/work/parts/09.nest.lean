theorem nw_60 : Cond.methodLinkNest "Dataroom" 24 ⟨"Dataroom$Knowledge", "<init>", "()V"⟩ "Dataroom" ∈ NB := nb1 (i := 60) rfl rfl
theorem nw_66 : Cond.fieldLinkNest "Dataroom$Party" 54 "Dataroom$Knowledge" "learned" "I" "Dataroom" ∈ NB := nb1 (i := 66) rfl rfl
theorem nw_75 : Cond.methodLinkNest "Dataroom" 31 ⟨"Dataroom$Marks", "<init>", "()V"⟩ "Dataroom" ∈ NB := nb1 (i := 75) rfl rfl
theorem nw_130 : Cond.castable "java/lang/IllegalArgumentException" "java/lang/IllegalArgumentException" ∈ NB := nb1 (i := 130) rfl rfl
theorem nw_131 : Cond.declares ⟨"java/lang/RuntimeException", "<init>", "()V"⟩ ∈ NB := nb1 (i := 131) rfl rfl
theorem nw_132 : Cond.declares ⟨"java/lang/RuntimeException", "<init>", "(Ljava/lang/String;)V"⟩ ∈ NB := nb1 (i := 132) rfl rfl
theorem nw_133 : Cond.declares ⟨"java/lang/Exception", "<init>", "()V"⟩ ∈ NB := nb1 (i := 133) rfl rfl
theorem nw_134 : Cond.declares ⟨"java/lang/Exception", "<init>", "(Ljava/lang/String;)V"⟩ ∈ NB := nb1 (i := 134) rfl rfl
theorem nw_135 : Cond.declares ⟨"java/lang/Throwable", "<init>", "()V"⟩ ∈ NB := nb1 (i := 135) rfl rfl
theorem nw_136 : Cond.declares ⟨"java/lang/Throwable", "<init>", "(Ljava/lang/String;)V"⟩ ∈ NB := nb1 (i := 136) rfl rfl
theorem nw_168 : Cond.native ⟨"java/lang/Throwable", "fillInStackTrace", "(I)Ljava/lang/Throwable;"⟩ ∈ NB := nb1 (i := 168) rfl rfl
theorem nw_202 : Cond.castable "java/lang/IllegalStateException" "java/lang/IllegalStateException" ∈ NB := nb1 (i := 202) rfl rfl
theorem nw_223 : Cond.fieldLinkNest "Dataroom" 64 "Dataroom$Card" "number" "I" "Dataroom" ∈ NB := nb1 (i := 223) rfl rfl
theorem nw_225 : Cond.fieldLinkNest "Dataroom" 105 "Dataroom$Card" "sealedTill" "I" "Dataroom" ∈ NB := nb1 (i := 225) rfl rfl
theorem nw_274 : Cond.native ⟨"java/lang/Object", "getClass", "()Ljava/lang/Class;"⟩ ∈ NB := nb2 (i := 34) rfl rfl
theorem nw_286 : Cond.native ⟨"java/lang/System", "arraycopy", "(Ljava/lang/Object;ILjava/lang/Object;II)V"⟩ ∈ NB := nb2 (i := 46) rfl rfl
theorem nw_308 : Cond.castable "java/lang/IndexOutOfBoundsException" "java/lang/IndexOutOfBoundsException" ∈ NB := nb2 (i := 68) rfl rfl
theorem nw_365 : Cond.methodLinkNest "Dataroom$Party" 43 ⟨"Dataroom", "covers", "(II)Z"⟩ "Dataroom" ∈ NB := nb2 (i := 125) rfl rfl
theorem nw_372 : Cond.methodLinkNest "Dataroom$Knowledge" 19 ⟨"Dataroom", "holds", "(II)Z"⟩ "Dataroom" ∈ NB := nb2 (i := 132) rfl rfl
theorem nw_390 : Cond.methodLinkNest "Dataroom$Party" 34 ⟨"Dataroom$Knowledge", "<init>", "()V"⟩ "Dataroom" ∈ NB := nb2 (i := 150) rfl rfl
theorem nw_392 : Cond.fieldLinkNest "Dataroom$Answer" 29 "Dataroom$Party" "place" "I" "Dataroom" ∈ NB := nb2 (i := 152) rfl rfl
theorem nw_393 : Cond.fieldLinkNest "Dataroom" 131 "Dataroom$Party" "place" "I" "Dataroom" ∈ NB := nb2 (i := 153) rfl rfl
theorem nw_395 : Cond.fieldLinkNest "Dataroom" 87 "Dataroom$Party" "budget" "I" "Dataroom" ∈ NB := nb2 (i := 155) rfl rfl
theorem nw_398 : Cond.fieldLinkNest "Dataroom" 161 "Dataroom$Party" "known" "[LDataroom$Knowledge;" "Dataroom" ∈ NB := nb2 (i := 158) rfl rfl
theorem nw_554 : Cond.fieldLinkNest "Dataroom" 213 "Dataroom$Answer" "files" "I" "Dataroom" ∈ NB := nb3 (i := 74) rfl rfl
theorem nw_556 : Cond.fieldLinkNest "Dataroom" 227 "Dataroom$Answer" "bit" "I" "Dataroom" ∈ NB := nb3 (i := 76) rfl rfl
theorem nw_560 : Cond.fieldLinkNest "Dataroom" 216 "Dataroom$Answer" "recalled" "Z" "Dataroom" ∈ NB := nb3 (i := 80) rfl rfl
theorem nw_688 : Cond.methodLinkNest "Dataroom$Marks" 45 ⟨"Dataroom", "holds", "(II)Z"⟩ "Dataroom" ∈ NB := nb3 (i := 208) rfl rfl
theorem nw_703 : Cond.castable "Dataroom$Right" "java/lang/Object" ∈ NB := nb3 (i := 223) rfl rfl
theorem nw_704 : Cond.castable "Dataroom$Knowledge" "java/lang/Object" ∈ NB := nb3 (i := 224) rfl rfl
theorem nw_705 : Cond.castable "Dataroom" "java/lang/Object" ∈ NB := nb3 (i := 225) rfl rfl
theorem nw_706 : Cond.castable "java/util/ArrayList" "java/lang/Object" ∈ NB := nb3 (i := 226) rfl rfl
theorem nw_707 : Cond.castable "Dataroom$Marks" "java/lang/Object" ∈ NB := nb3 (i := 227) rfl rfl
theorem nw_708 : Cond.castable "java/lang/IllegalArgumentException" "java/lang/Object" ∈ NB := nb3 (i := 228) rfl rfl
theorem nw_709 : Cond.castable "java/lang/IllegalStateException" "java/lang/Object" ∈ NB := nb3 (i := 229) rfl rfl
theorem nw_710 : Cond.castable "Dataroom$Card" "java/lang/Object" ∈ NB := nb3 (i := 230) rfl rfl
theorem nw_711 : Cond.castable "java/lang/IndexOutOfBoundsException" "java/lang/Object" ∈ NB := nb3 (i := 231) rfl rfl
theorem nw_712 : Cond.castable "Dataroom$Party" "java/lang/Object" ∈ NB := nb3 (i := 232) rfl rfl
theorem nw_713 : Cond.castable "Dataroom$Answer" "java/lang/Object" ∈ NB := nb3 (i := 233) rfl rfl
theorem nw_714 : Cond.castable "java/lang/Throwable" "java/lang/Object" ∈ NB := nb3 (i := 234) rfl rfl
theorem nw_715 : Cond.castable "java/lang/String" "java/lang/Object" ∈ NB := nb3 (i := 235) rfl rfl
theorem nw_718 : Cond.declares ⟨"java/lang/Object", "getClass", "()Ljava/lang/Class;"⟩ ∈ NB := nb3 (i := 238) rfl rfl
theorem nw_719 : Cond.castable "[I" "java/lang/Object" ∈ NB := nb3 (i := 239) rfl rfl
theorem nw_720 : Cond.castable "[J" "java/lang/Object" ∈ NB := nb4 (i := 0) rfl rfl
theorem nw_721 : Cond.castable "[B" "java/lang/Object" ∈ NB := nb4 (i := 1) rfl rfl
theorem nw_722 : Cond.castable "[Ljava/lang/Object;" "java/lang/Object" ∈ NB := nb4 (i := 2) rfl rfl
theorem nw_723 : Cond.castable "[LDataroom$Right;" "java/lang/Object" ∈ NB := nb4 (i := 3) rfl rfl
theorem nw_724 : Cond.castable "[LDataroom$Knowledge;" "java/lang/Object" ∈ NB := nb4 (i := 4) rfl rfl
