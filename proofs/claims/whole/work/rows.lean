section
-- ===== PART A: goes FIRST, ahead of the names: the tables' words, and 'selects' of the private methods out of them =====
/-- a private method of a class that the tables say can be made, by its rows of tables_1 -/
def lw_okq (q : MethodName × Nat) : Prop := (q.1.cls ≠ "java/lang/invoke/MethodHandle" ∧ q.1.cls ≠ "java/lang/invoke/VarHandle") ∧ Cond.instantiable q.1.cls q.2 ∈ tables_1 ∧ Cond.privateMethod q.1 ∈ tables_1 ∧ Cond.instanceMethod q.1 ∈ tables_1
theorem lw_p0 : lw_okq (⟨"java/lang/Throwable", "fillInStackTrace", "(I)Ljava/lang/Throwable;"⟩, 6) := ⟨⟨by decide +kernel, by decide +kernel⟩, List.mem_of_getElem? (i := 158) (by decide +kernel), List.mem_of_getElem? (i := 156) (by decide +kernel), List.mem_of_getElem? (i := 157) (by decide +kernel)⟩
theorem lw_p1 : lw_okq (⟨"java/util/ArrayList", "add", "(Ljava/lang/Object;[Ljava/lang/Object;I)V"⟩, 3) := ⟨⟨by decide +kernel, by decide +kernel⟩, List.mem_of_getElem? (i := 34) (by decide +kernel), List.mem_of_getElem? (i := 227) (by decide +kernel), List.mem_of_getElem? (i := 228) (by decide +kernel)⟩
theorem lw_p2 : lw_okq (⟨"java/util/ArrayList", "grow", "()[Ljava/lang/Object;"⟩, 3) := ⟨⟨by decide +kernel, by decide +kernel⟩, List.mem_of_getElem? (i := 34) (by decide +kernel), List.mem_of_getElem? (i := 231) (by decide +kernel), List.mem_of_getElem? (i := 232) (by decide +kernel)⟩
theorem lw_p3 : lw_okq (⟨"java/util/ArrayList", "grow", "(I)[Ljava/lang/Object;"⟩, 3) := ⟨⟨by decide +kernel, by decide +kernel⟩, List.mem_of_getElem? (i := 34) (by decide +kernel), List.mem_of_getElem? (i := 235) (by decide +kernel), List.mem_of_getElem? (i := 236) (by decide +kernel)⟩
theorem lw_p4 : lw_okq (⟨"Dataroom", "fileAt", "(I)LDataroom$Card;"⟩, 6) := ⟨⟨by decide +kernel, by decide +kernel⟩, List.mem_of_getElem? (i := 26) (by decide +kernel), List.mem_of_getElem? (i := 290) (by decide +kernel), List.mem_of_getElem? (i := 291) (by decide +kernel)⟩
theorem lw_p5 : lw_okq (⟨"Dataroom", "requireFile", "(I)V"⟩, 6) := ⟨⟨by decide +kernel, by decide +kernel⟩, List.mem_of_getElem? (i := 26) (by decide +kernel), List.mem_of_getElem? (i := 294) (by decide +kernel), List.mem_of_getElem? (i := 295) (by decide +kernel)⟩
theorem lw_p6 : lw_okq (⟨"Dataroom", "recall", "(LDataroom$Party;I)I"⟩, 6) := ⟨⟨by decide +kernel, by decide +kernel⟩, List.mem_of_getElem? (i := 26) (by decide +kernel), List.mem_of_getElem? (i := 329) (by decide +kernel), List.mem_of_getElem? (i := 330) (by decide +kernel)⟩
theorem lw_p7 : lw_okq (⟨"Dataroom", "learnAnew", "(LDataroom$Party;)V"⟩, 6) := ⟨⟨by decide +kernel, by decide +kernel⟩, List.mem_of_getElem? (i := 26) (by decide +kernel), List.mem_of_getElem? (i := 341) (by decide +kernel), List.mem_of_getElem? (i := 342) (by decide +kernel)⟩
theorem lw_p8 : lw_okq (⟨"Dataroom", "partyAt", "(I)LDataroom$Party;"⟩, 6) := ⟨⟨by decide +kernel, by decide +kernel⟩, List.mem_of_getElem? (i := 26) (by decide +kernel), List.mem_of_getElem? (i := 410) (by decide +kernel), List.mem_of_getElem? (i := 411) (by decide +kernel)⟩
theorem lw_p9 : lw_okq (⟨"Dataroom", "requireQuestion", "(II)V"⟩, 6) := ⟨⟨by decide +kernel, by decide +kernel⟩, List.mem_of_getElem? (i := 26) (by decide +kernel), List.mem_of_getElem? (i := 475) (by decide +kernel), List.mem_of_getElem? (i := 476) (by decide +kernel)⟩
theorem lw_p10 : lw_okq (⟨"Dataroom", "refusalOf", "(LDataroom$Party;II)I"⟩, 6) := ⟨⟨by decide +kernel, by decide +kernel⟩, List.mem_of_getElem? (i := 26) (by decide +kernel), List.mem_of_getElem? (i := 480) (by decide +kernel), List.mem_of_getElem? (i := 481) (by decide +kernel)⟩
theorem lw_p11 : lw_okq (⟨"Dataroom", "lacksRight", "(LDataroom$Party;I)Z"⟩, 6) := ⟨⟨by decide +kernel, by decide +kernel⟩, List.mem_of_getElem? (i := 26) (by decide +kernel), List.mem_of_getElem? (i := 484) (by decide +kernel), List.mem_of_getElem? (i := 485) (by decide +kernel)⟩
theorem lw_p12 : lw_okq (⟨"Dataroom", "hasSealed", "(I)Z"⟩, 6) := ⟨⟨by decide +kernel, by decide +kernel⟩, List.mem_of_getElem? (i := 26) (by decide +kernel), List.mem_of_getElem? (i := 497) (by decide +kernel), List.mem_of_getElem? (i := 498) (by decide +kernel)⟩
theorem lw_p13 : lw_okq (⟨"Dataroom$Party", "wouldFind", "(III)Z"⟩, 5) := ⟨⟨by decide +kernel, by decide +kernel⟩, List.mem_of_getElem? (i := 372) (by decide +kernel), List.mem_of_getElem? (i := 510) (by decide +kernel), List.mem_of_getElem? (i := 511) (by decide +kernel)⟩
theorem lw_p14 : lw_okq (⟨"Dataroom", "sumOf", "(II)I"⟩, 6) := ⟨⟨by decide +kernel, by decide +kernel⟩, List.mem_of_getElem? (i := 26) (by decide +kernel), List.mem_of_getElem? (i := 535) (by decide +kernel), List.mem_of_getElem? (i := 536) (by decide +kernel)⟩
theorem lw_p15 : lw_okq (⟨"Dataroom", "countKnownSets", "(LDataroom$Party;I)I"⟩, 6) := ⟨⟨by decide +kernel, by decide +kernel⟩, List.mem_of_getElem? (i := 26) (by decide +kernel), List.mem_of_getElem? (i := 599) (by decide +kernel), List.mem_of_getElem? (i := 600) (by decide +kernel)⟩
def lw_privs_1 : List (MethodName × Nat) := [(⟨"java/lang/Throwable", "fillInStackTrace", "(I)Ljava/lang/Throwable;"⟩, 6), (⟨"java/util/ArrayList", "add", "(Ljava/lang/Object;[Ljava/lang/Object;I)V"⟩, 3), (⟨"java/util/ArrayList", "grow", "()[Ljava/lang/Object;"⟩, 3), (⟨"java/util/ArrayList", "grow", "(I)[Ljava/lang/Object;"⟩, 3), (⟨"Dataroom", "fileAt", "(I)LDataroom$Card;"⟩, 6), (⟨"Dataroom", "requireFile", "(I)V"⟩, 6), (⟨"Dataroom", "recall", "(LDataroom$Party;I)I"⟩, 6), (⟨"Dataroom", "learnAnew", "(LDataroom$Party;)V"⟩, 6), (⟨"Dataroom", "partyAt", "(I)LDataroom$Party;"⟩, 6), (⟨"Dataroom", "requireQuestion", "(II)V"⟩, 6), (⟨"Dataroom", "refusalOf", "(LDataroom$Party;II)I"⟩, 6), (⟨"Dataroom", "lacksRight", "(LDataroom$Party;I)Z"⟩, 6), (⟨"Dataroom", "hasSealed", "(I)Z"⟩, 6), (⟨"Dataroom$Party", "wouldFind", "(III)Z"⟩, 5), (⟨"Dataroom", "sumOf", "(II)I"⟩, 6), (⟨"Dataroom", "countKnownSets", "(LDataroom$Party;I)I"⟩, 6)]
theorem lw_r1 : ∀ q ∈ lw_privs_1, lw_okq q := List.forall_mem_cons.mpr ⟨lw_p0, List.forall_mem_cons.mpr ⟨lw_p1, List.forall_mem_cons.mpr ⟨lw_p2, List.forall_mem_cons.mpr ⟨lw_p3, List.forall_mem_cons.mpr ⟨lw_p4, List.forall_mem_cons.mpr ⟨lw_p5, List.forall_mem_cons.mpr ⟨lw_p6, List.forall_mem_cons.mpr ⟨lw_p7, List.forall_mem_cons.mpr ⟨lw_p8, List.forall_mem_cons.mpr ⟨lw_p9, List.forall_mem_cons.mpr ⟨lw_p10, List.forall_mem_cons.mpr ⟨lw_p11, List.forall_mem_cons.mpr ⟨lw_p12, List.forall_mem_cons.mpr ⟨lw_p13, List.forall_mem_cons.mpr ⟨lw_p14, List.forall_mem_cons.mpr ⟨lw_p15, fun _ h => absurd h List.not_mem_nil⟩⟩⟩⟩⟩⟩⟩⟩⟩⟩⟩⟩⟩⟩⟩⟩
theorem lw_p16 : lw_okq (⟨"Dataroom$Marks", "isMarked", "(I)Z"⟩, 2) := ⟨⟨by decide +kernel, by decide +kernel⟩, List.mem_of_getElem? (i := 75) (by decide +kernel), List.mem_of_getElem? (i := 614) (by decide +kernel), List.mem_of_getElem? (i := 615) (by decide +kernel)⟩
theorem lw_p17 : lw_okq (⟨"Dataroom", "shareKnowledge", "(II)V"⟩, 6) := ⟨⟨by decide +kernel, by decide +kernel⟩, List.mem_of_getElem? (i := 26) (by decide +kernel), List.mem_of_getElem? (i := 652) (by decide +kernel), List.mem_of_getElem? (i := 653) (by decide +kernel)⟩
theorem lw_p18 : lw_okq (⟨"Dataroom", "countStanding", "(LDataroom$Party;)I"⟩, 6) := ⟨⟨by decide +kernel, by decide +kernel⟩, List.mem_of_getElem? (i := 26) (by decide +kernel), List.mem_of_getElem? (i := 683) (by decide +kernel), List.mem_of_getElem? (i := 684) (by decide +kernel)⟩
theorem lw_p19 : lw_okq (⟨"DataroomModel", "goesWell", "(I)Z"⟩, 19) := ⟨⟨by decide +kernel, by decide +kernel⟩, List.mem_of_getElem? (i := 691) (by decide +kernel), List.mem_of_getElem? (i := 767) (by decide +kernel), List.mem_of_getElem? (i := 768) (by decide +kernel)⟩
theorem lw_p20 : lw_okq (⟨"DataroomModel", "isFile", "(I)Z"⟩, 19) := ⟨⟨by decide +kernel, by decide +kernel⟩, List.mem_of_getElem? (i := 691) (by decide +kernel), List.mem_of_getElem? (i := 775) (by decide +kernel), List.mem_of_getElem? (i := 776) (by decide +kernel)⟩
theorem lw_p21 : lw_okq (⟨"DataroomModel", "recall", "(II)I"⟩, 19) := ⟨⟨by decide +kernel, by decide +kernel⟩, List.mem_of_getElem? (i := 691) (by decide +kernel), List.mem_of_getElem? (i := 779) (by decide +kernel), List.mem_of_getElem? (i := 780) (by decide +kernel)⟩
theorem lw_p22 : lw_okq (⟨"DataroomModel", "isParty", "(I)Z"⟩, 19) := ⟨⟨by decide +kernel, by decide +kernel⟩, List.mem_of_getElem? (i := 691) (by decide +kernel), List.mem_of_getElem? (i := 791) (by decide +kernel), List.mem_of_getElem? (i := 792) (by decide +kernel)⟩
theorem lw_p23 : lw_okq (⟨"DataroomModel", "isQuestion", "(II)Z"⟩, 19) := ⟨⟨by decide +kernel, by decide +kernel⟩, List.mem_of_getElem? (i := 691) (by decide +kernel), List.mem_of_getElem? (i := 815) (by decide +kernel), List.mem_of_getElem? (i := 816) (by decide +kernel)⟩
theorem lw_p24 : lw_okq (⟨"DataroomModel", "refusal", "(III)I"⟩, 19) := ⟨⟨by decide +kernel, by decide +kernel⟩, List.mem_of_getElem? (i := 691) (by decide +kernel), List.mem_of_getElem? (i := 819) (by decide +kernel), List.mem_of_getElem? (i := 820) (by decide +kernel)⟩
theorem lw_p25 : lw_okq (⟨"DataroomModel", "rightOf", "(II)I"⟩, 19) := ⟨⟨by decide +kernel, by decide +kernel⟩, List.mem_of_getElem? (i := 691) (by decide +kernel), List.mem_of_getElem? (i := 823) (by decide +kernel), List.mem_of_getElem? (i := 824) (by decide +kernel)⟩
theorem lw_p26 : lw_okq (⟨"DataroomModel", "wouldTell", "(III)Z"⟩, 19) := ⟨⟨by decide +kernel, by decide +kernel⟩, List.mem_of_getElem? (i := 691) (by decide +kernel), List.mem_of_getElem? (i := 827) (by decide +kernel), List.mem_of_getElem? (i := 828) (by decide +kernel)⟩
theorem lw_p27 : lw_okq (⟨"DataroomModel", "know", "(II)I"⟩, 19) := ⟨⟨by decide +kernel, by decide +kernel⟩, List.mem_of_getElem? (i := 691) (by decide +kernel), List.mem_of_getElem? (i := 834) (by decide +kernel), List.mem_of_getElem? (i := 835) (by decide +kernel)⟩
theorem lw_p28 : lw_okq (⟨"DataroomModel", "learn", "(I)Z"⟩, 19) := ⟨⟨by decide +kernel, by decide +kernel⟩, List.mem_of_getElem? (i := 691) (by decide +kernel), List.mem_of_getElem? (i := 838) (by decide +kernel), List.mem_of_getElem? (i := 839) (by decide +kernel)⟩
theorem lw_p29 : lw_okq (⟨"DataroomModel", "reduce", "(I)I"⟩, 19) := ⟨⟨by decide +kernel, by decide +kernel⟩, List.mem_of_getElem? (i := 691) (by decide +kernel), List.mem_of_getElem? (i := 842) (by decide +kernel), List.mem_of_getElem? (i := 843) (by decide +kernel)⟩
theorem lw_p30 : lw_okq (⟨"DataroomModel", "found", "()I"⟩, 19) := ⟨⟨by decide +kernel, by decide +kernel⟩, List.mem_of_getElem? (i := 691) (by decide +kernel), List.mem_of_getElem? (i := 849) (by decide +kernel), List.mem_of_getElem? (i := 850) (by decide +kernel)⟩
theorem lw_p31 : lw_okq (⟨"DataroomModel", "spentBy", "(I)I"⟩, 19) := ⟨⟨by decide +kernel, by decide +kernel⟩, List.mem_of_getElem? (i := 691) (by decide +kernel), List.mem_of_getElem? (i := 853) (by decide +kernel), List.mem_of_getElem? (i := 854) (by decide +kernel)⟩
def lw_privs_2 : List (MethodName × Nat) := [(⟨"Dataroom$Marks", "isMarked", "(I)Z"⟩, 2), (⟨"Dataroom", "shareKnowledge", "(II)V"⟩, 6), (⟨"Dataroom", "countStanding", "(LDataroom$Party;)I"⟩, 6), (⟨"DataroomModel", "goesWell", "(I)Z"⟩, 19), (⟨"DataroomModel", "isFile", "(I)Z"⟩, 19), (⟨"DataroomModel", "recall", "(II)I"⟩, 19), (⟨"DataroomModel", "isParty", "(I)Z"⟩, 19), (⟨"DataroomModel", "isQuestion", "(II)Z"⟩, 19), (⟨"DataroomModel", "refusal", "(III)I"⟩, 19), (⟨"DataroomModel", "rightOf", "(II)I"⟩, 19), (⟨"DataroomModel", "wouldTell", "(III)Z"⟩, 19), (⟨"DataroomModel", "know", "(II)I"⟩, 19), (⟨"DataroomModel", "learn", "(I)Z"⟩, 19), (⟨"DataroomModel", "reduce", "(I)I"⟩, 19), (⟨"DataroomModel", "found", "()I"⟩, 19), (⟨"DataroomModel", "spentBy", "(I)I"⟩, 19)]
theorem lw_r2 : ∀ q ∈ lw_privs_2, lw_okq q := List.forall_mem_cons.mpr ⟨lw_p16, List.forall_mem_cons.mpr ⟨lw_p17, List.forall_mem_cons.mpr ⟨lw_p18, List.forall_mem_cons.mpr ⟨lw_p19, List.forall_mem_cons.mpr ⟨lw_p20, List.forall_mem_cons.mpr ⟨lw_p21, List.forall_mem_cons.mpr ⟨lw_p22, List.forall_mem_cons.mpr ⟨lw_p23, List.forall_mem_cons.mpr ⟨lw_p24, List.forall_mem_cons.mpr ⟨lw_p25, List.forall_mem_cons.mpr ⟨lw_p26, List.forall_mem_cons.mpr ⟨lw_p27, List.forall_mem_cons.mpr ⟨lw_p28, List.forall_mem_cons.mpr ⟨lw_p29, List.forall_mem_cons.mpr ⟨lw_p30, List.forall_mem_cons.mpr ⟨lw_p31, fun _ h => absurd h List.not_mem_nil⟩⟩⟩⟩⟩⟩⟩⟩⟩⟩⟩⟩⟩⟩⟩⟩
theorem lw_p32 : lw_okq (⟨"DataroomModel", "costOf", "(III)I"⟩, 19) := ⟨⟨by decide +kernel, by decide +kernel⟩, List.mem_of_getElem? (i := 691) (by decide +kernel), List.mem_of_getElem? (i := 857) (by decide +kernel), List.mem_of_getElem? (i := 858) (by decide +kernel)⟩
theorem lw_p33 : lw_okq (⟨"DataroomModel", "findsBy", "(II)I"⟩, 19) := ⟨⟨by decide +kernel, by decide +kernel⟩, List.mem_of_getElem? (i := 691) (by decide +kernel), List.mem_of_getElem? (i := 881) (by decide +kernel), List.mem_of_getElem? (i := 882) (by decide +kernel)⟩
def lw_privs_3 : List (MethodName × Nat) := [(⟨"DataroomModel", "costOf", "(III)I"⟩, 19), (⟨"DataroomModel", "findsBy", "(II)I"⟩, 19)]
theorem lw_r3 : ∀ q ∈ lw_privs_3, lw_okq q := List.forall_mem_cons.mpr ⟨lw_p32, List.forall_mem_cons.mpr ⟨lw_p33, fun _ h => absurd h List.not_mem_nil⟩⟩
def lw_privs : List (MethodName × Nat) := lw_privs_1 ++ (lw_privs_2 ++ (lw_privs_3))
def lw_tbl : List Cond := k2_sels lw_privs ++ tables_1
theorem lw_privs_ok : ∀ q ∈ lw_privs, lw_okq q := by
  show ∀ q ∈ lw_privs_1 ++ (lw_privs_2 ++ (lw_privs_3)), lw_okq q
  exact List.forall_mem_append.mpr ⟨lw_r1, List.forall_mem_append.mpr ⟨lw_r2, lw_r3⟩⟩
end
section
/-! ===== BEGIN words of one list among another's, by their places ===== -/
theorem goodIn_r {big : List Cond} (ws : List Cond) (ps : List Nat) (hp : ws = ps.filterMap (fun i => big[i]?)) (h : ws.all goodWord = true) : GoodIn big ws := by
  intro w hw
  have h1 := List.all_eq_true.mp h w hw
  rw [hp] at hw
  obtain ⟨i, -, hi⟩ := List.mem_filterMap.mp hw
  have hm : w ∈ big := by first | exact List.mem_of_getElem? hi | exact List.getElem?_mem hi
  exact ⟨hm, good_of_word h1⟩
theorem goodIn_app {big a b : List Cond} (ha : GoodIn big a) (hb : GoodIn big b) : GoodIn big (a ++ b) := fun w h => (List.mem_append.mp h).elim (ha w) (hb w)
theorem goodIn_ca {big a b : List Cond} {c : Cond} (ha : GoodIn big (c :: a)) (hb : GoodIn big b) : GoodIn big (c :: (a ++ b)) := fun w h => (List.mem_cons.mp h).elim (fun e => ha w (List.mem_cons.mpr (Or.inl e))) (fun h => (List.mem_append.mp h).elim (fun h => ha w (List.mem_cons.mpr (Or.inr h))) (hb w))
theorem goodIn_sub {big ws : List Cond} (hm : ∀ w ∈ ws, w ∈ big) (h : ws.all goodWord = true) : GoodIn big ws := fun w hw => ⟨hm w hw, good_of_word (List.all_eq_true.mp h w hw)⟩
/-! ===== END ===== -/

/-! ===== BEGIN exceptions that leave a method, and their catching by the caller (launches without stack traces) ===== -/
section VXA
/-! The laws vx_back, vx_callV, vx_callS, vx_callSW, vx_throw0, vx_throwS follow proofs of the library, with one case more: JvmDerived/Free/Laws.lean (Back.of_free), Shelf42/LK1.lean (callV, callS), Shelf/KitTraced.lean (throwNew0V, throwNewS). -/
/-- where a method has thrown q: the class by its name, the cell, what was written, the world -/
def vx_T (XC : String → State → State → Prop) (st : State) (q : Addr) (t : State) (mc ms : Nat) (free : Addr → Prop) : Prop :=
  ∃ (E : String) (ce : Cell) (L : List Loc), XC E st t ∧ t.heap[q]? = some ce ∧ ce.vm = .none ∧ st.vm.findClass E = some ce.cls ∧ st.WarmedH t.vm ∧ st.sameButNew ({ t with vm := st.vm } : State) L mc ms ∧ ∀ z ∈ L, free z.base
def vx_Q (Qc : Array Value → State → Outcome → State → Prop) (XC : String → State → State → Prop) (mc ms : Nat) (free : Addr → Prop) : Array Value → State → Outcome → State → Prop := fun a st o t =>
  (Qc a st o t ∧ ∃ L, FrameEnd st o t L mc ms ∧ ∀ q ∈ L, free q.base) ∨ ∃ q, o = .threw q ∧ vx_T XC st q t mc ms free
/-- a callee that returns or throws -/
def vx_Met (l : Launch) (y : MethodName) (ws : List Cond) (rm : Room) (Pc : Array Value → State → Prop) (Qc : Array Value → State → Outcome → State → Prop) (XC : String → State → State → Prop) (mc ms : Nat) (free : Addr → Prop) : Prop :=
  MetFree l y (headSpec ws rm) Pc (fun _ _ _ _ _ => True) (vx_Q Qc XC mc ms free)
def vx_Post (XC : String → State → State → Prop) (mc ms : Nat) (free : Addr → Prop) : Pt → Array Value → Addr → Pt → Prop := fun A a q B =>
  ∃ (g : JFrame) (mk : MethodId) (t : State) (L : List Loc) (E : String) (ce : Cell), B.U.heap = t.heap ∧ B.U.vm = t.vm ∧ XC E (A.U.calling g mk a) t ∧ t.heap[q]? = some ce ∧ ce.vm = .none ∧ A.U.vm.findClass E = some ce.cls ∧ B.locs = A.locs ++ L ∧ (∀ z ∈ L, free z.base) ∧ B.cells = A.cells + mc ∧ B.slots = A.slots + ms
def vx_Back (l : Launch) (R : Room) (p : Program) (e : Env) (below : List Frame) (s : State) (sargs : Array Value) (y : MethodName) (len W9 : Nat)
    (Pre : Pt → Array Value → Prop) (Post : Pt → Array Value → Option Value → Pt → Prop) (PostX : Pt → Array Value → Addr → Pt → Prop) : Prop :=
  ∀ (m : MethodId) (meth : Method) (c : Code) (A : Pt) (g : JFrame) (ig : Instr) (mk : MethodId) (a : Array Value),
    Stand p l e R s m sargs below meth c A.U A.locs A.cells A.slots → g.method = m → g.locals.size = c.maxLocals → decode c.code g.pc = .ok (ig, len) →
    2 * g.monitorRoom + (g.stack.map fun v => v.category).sum ≤ W9 → A.U.methodNamed? y = some mk → Pre A a →
    (∃ (v : Option Value) (B : Pt), Stand p l e R s m sargs below meth c B.U B.locs B.cells B.slots ∧ Post A a v B ∧
      Steps p.tables e below (doInvoke e (A.U.setTop g) [] mk a).1 (B.U.setTop { g with pc := g.pc + len, stack := v.toList ++ g.stack })) ∨
    (∃ (q : Addr) (B : Pt), Stand p l e R s m sargs below meth c B.U B.locs B.cells B.slots ∧ PostX A a q B ∧
      Steps p.tables e below (doInvoke e (A.U.setTop g) [] mk a).1 ((B.U.setTop g).pushFrame (.throwing q)))
section Payer
variable {l : Launch} {R : Room} {p : Program} {e : Env} {below : List Frame} {s : State} {sargs : Array Value} {y : MethodName} {len W9 : Nat}
theorem vx_back {ws : List Cond} {rm : Room} {Pc : Array Value → State → Prop} {Qc : Array Value → State → Outcome → State → Prop} {XC : String → State → State → Prop} {mc ms : Nat} {free : Addr → Prop} {bytes : ByteArray} {maxL : Nat} {ret : Option FieldType}
    (hM : vx_Met l y ws rm Pc Qc XC mc ms free) (hblind : FrameBlind Pc) (hrc : rm.cells = mc) (hrs : rm.slots = ms)
    (hframes : rm.frames + 1 ≤ R.frames) (hlocals : W9 + (maxL + 11) + rm.locals ≤ R.locals)
    (hws : ∀ w ∈ ws, ∀ a' U, s.WarmedH U.vm → w.before a' U = true) (hcode : Cond.code y bytes maxL ret ∈ ws) (hinit : ∀ a' U, s.WarmedH U.vm → (Cond.initialized y.cls).before a' U = true) :
    vx_Back l R p e below s sargs y len W9 (PreOf R mc ms Pc) (PostOf Qc mc ms free) (vx_Post XC mc ms free) := by
  intro m meth c A g ig mk a X hg hsize hdg hW hn hp
  have h1 : (headSpec ws rm).pre.before a A.U = true := atoms_intro fun w hw => hws w hw _ _ X.warmed
  have h2 : (Cond.code y bytes maxL ret).before a A.U = true := hws _ hcode _ _ X.warmed
  have h3 : (Cond.initialized y.cls).before a A.U = true := hinit _ _ X.warmed
  have h4 : A.cells + (headSpec ws rm).room.cells ≤ R.cells := by rw [show (headSpec ws rm).room.cells = mc from hrc]; exact hp.1
  have h5 : A.slots + (headSpec ws rm).room.slots ≤ R.slots := by rw [show (headSpec ws rm).room.slots = ms from hrs]; exact hp.2.1
  have hPc : Pc a (A.U.calling g mk a) := hblind _ _ _ _ hp.2.2
  obtain ⟨U, Ls, c0, s0⟩ := A
  dsimp only [Pt.U, Pt.locs, Pt.cells, Pt.slots] at h1 h2 h3 h4 h5 X hn hPc ⊢
  obtain ⟨methY, cY, hmY, hcY, -, hlY, -, -, -, -⟩ := Cond.code_spec hn h2
  obtain ⟨kY, hkY, -⟩ := className_of_methodNamed hn
  have hinitY : kY.init = .initialized := Cond.initialized_spec (findClass_of_methodNamed hn) hkY h3
  have h : At U g.method c below := by rw [hg]; exact X.here
  have hlocals9 : W9 + (maxL + 11) + (headSpec ws rm).room.locals ≤ R.locals := hlocals
  have happ : (headSpec ws rm).appliesLoose y e.platform (U.calling g mk a) = true :=
    Spec.appliesLoose_calling (g := g) h hdg hn hkY hinitY
      (X.room_calling (g := g) (R' := (headSpec ws rm).room) hsize hmY hcY hframes (by rw [hlY]; omega) h4 h5) h1
  obtain ⟨mid, hmid⟩ := h.above
  have hfr : (U.setTop g).frames = (.java g :: mid) ++ below := by rw [State.frames_setTop' g h.top, hmid]; rfl
  obtain ⟨o, s₂, hsteps, -, hend, hq⟩ := Steps.callFree hM p X.admits X.cas X.clock (acts := []) hfr happ hPc trivial
  have hq' : vx_Q Qc XC mc ms free a (U.calling g mk a) o s₂ := hq
  rw [State.frames_setTop' g h.top] at hend
  obtain ⟨g₀, hg0⟩ := Option.isSome_iff_exists.mp h.top
  obtain ⟨r, hr⟩ := State.topJava?_eq_some.mp hg0
  have hr' : (({ U with heap := s₂.heap, slotsUsed := s₂.slotsUsed } : State).setVm s₂.vm).frames = .java g₀ :: r := hr
  rcases hq' with ⟨hqc, L, hfe, hL⟩ | ⟨q, rfl, E, ce, L, hx, hce, hcv, hcl, hW₂, hsm, hL⟩
  · obtain ⟨⟨v, rfl⟩, hW₂, e2, q2, q3, q4, q5, q6⟩ := id hfe
    have e3 : s₂ = ({ (U.calling g mk a).setFrames s₂.frames with heap := s₂.heap, slotsUsed := s₂.slotsUsed } : State).setVm s₂.vm := by
      have : s₂ = ({ s₂ with vm := (U.calling g mk a).vm } : State).setVm s₂.vm := rfl
      rw [e2] at this
      exact this
    obtain ⟨c₂, i₂, len₂, hc₂, hd₂, hf₂⟩ := hend
    have hW' : U.WarmedH s₂.vm := hW₂
    have hcc : c₂ = c := by
      have h1 : s₂.code? g.method = U.code? g.method := by
        rw [State.code?_eq, State.code?_eq, hW'.alike.method?]
      exact Option.some.inj (hc₂.symm.trans (h1.trans h.code))
    subst hcc
    have hlen : len₂ = len := by rw [hdg] at hd₂; cases hd₂; rfl
    subst hlen
    have hs₂ : s₂ = (({ U with heap := s₂.heap, slotsUsed := s₂.slotsUsed } : State).setVm s₂.vm).setTop { g with pc := g.pc + len₂, stack := v.toList ++ g.stack } := by
      refine e3.trans ?_
      rw [hf₂, State.calling_eq h.top, State.setFrames_setFrames, State.setTop_of_frames _ hr', hr]
      rfl
    have hsame : U.sameButNew ({ U with heap := s₂.heap, slotsUsed := s₂.slotsUsed } : State) L mc ms := by
      refine ⟨?_, q2, q3, q4, q5, q6⟩
      obtain ⟨t, ht, -⟩ := State.frames_cons hr
      show ({ U with heap := s₂.heap, slotsUsed := s₂.slotsUsed } : State) = { U.setFrames U.frames with heap := s₂.heap, slotsUsed := s₂.slotsUsed }
      rw [State.setFrames_self ht]
    subst hg
    refine Or.inl ⟨v, ⟨(({ U with heap := s₂.heap, slotsUsed := s₂.slotsUsed } : State).setVm s₂.vm), Ls ++ L, c0 + mc, s0 + ms⟩,
      ⟨X.admits, X.cas, X.clock, X.frames, X.room, X.hears, X.method, X.code, (X.here.setHeapUsed s₂.heap s₂.slotsUsed).setVm hW'.alike, X.tail, State.WarmedH.trans X.warmed hW', X.limits, X.bytes, X.same.trans (hsame.setVm s.vm)⟩,
      ⟨g, mk, s₂, L, rfl, rfl, hqc, rfl, hL, rfl, rfl⟩, ?_⟩
    show Steps p.tables e below _ ((({ U with heap := s₂.heap, slotsUsed := s₂.slotsUsed } : State).setVm s₂.vm).setTop { g with pc := g.pc + len₂, stack := v.toList ++ g.stack })
    rw [← hs₂]
    exact hsteps
  · obtain ⟨e2, q2, q3, q4, q5, q6⟩ := id hsm
    have e3 : s₂ = ({ (U.calling g mk a).setFrames s₂.frames with heap := s₂.heap, slotsUsed := s₂.slotsUsed } : State).setVm s₂.vm := by
      have : s₂ = ({ s₂ with vm := (U.calling g mk a).vm } : State).setVm s₂.vm := rfl
      rw [e2] at this
      exact this
    have hf₂ : s₂.frames = .throwing q :: .java g :: U.frames.tail := hend
    have hW' : U.WarmedH s₂.vm := hW₂
    have hs₂ : s₂ = ((({ U with heap := s₂.heap, slotsUsed := s₂.slotsUsed } : State).setVm s₂.vm).setTop g).pushFrame (.throwing q) := by
      refine e3.trans ?_
      rw [hf₂, State.calling_eq h.top, State.setFrames_setFrames, State.pushFrame, State.frames_setTop _ hr', State.setTop_of_frames _ hr', State.setFrames_setFrames, hr]
      rfl
    have hsame : U.sameButNew ({ U with heap := s₂.heap, slotsUsed := s₂.slotsUsed } : State) L mc ms := by
      refine ⟨?_, q2, q3, q4, q5, q6⟩
      obtain ⟨t, ht, -⟩ := State.frames_cons hr
      show ({ U with heap := s₂.heap, slotsUsed := s₂.slotsUsed } : State) = { U.setFrames U.frames with heap := s₂.heap, slotsUsed := s₂.slotsUsed }
      rw [State.setFrames_self ht]
    subst hg
    refine Or.inr ⟨q, ⟨(({ U with heap := s₂.heap, slotsUsed := s₂.slotsUsed } : State).setVm s₂.vm), Ls ++ L, c0 + mc, s0 + ms⟩,
      ⟨X.admits, X.cas, X.clock, X.frames, X.room, X.hears, X.method, X.code, (X.here.setHeapUsed s₂.heap s₂.slotsUsed).setVm hW'.alike, X.tail, State.WarmedH.trans X.warmed hW', X.limits, X.bytes, X.same.trans (hsame.setVm s.vm)⟩,
      ⟨g, mk, s₂, L, E, ce, rfl, rfl, hx, hce, hcv, hcl, rfl, hL, rfl, rfl⟩, ?_⟩
    show Steps p.tables e below _ (((({ U with heap := s₂.heap, slotsUsed := s₂.slotsUsed } : State).setVm s₂.vm).setTop g).pushFrame (.throwing q))
    rw [← hs₂]
    exact hsteps
end Payer
section Calls
variable {p : Program} {l : Launch} {e : Env} {R : Room} {s : State} {m : MethodId} {args : Array Value} {below : List Frame} {meth : Method} {c : Code} {T : State} {locs : List Loc} {cells slots : Nat}
theorem vx_callV (X : Stand p l e R s m args below meth c T locs cells slots) (hexec : p.tables.exec = Jvm.exec) {own C : String} {index : Nat} {y : MethodName} {bytes : ByteArray} {maxL : Nat} {ret : Option FieldType}
    (hown : s.vm.findClass own = some m.cls) (hlink : (Cond.methodLink own index y).before args s = true) (hinst : (Cond.instanceMethod y).before args s = true) (hsel : (Cond.selects C y y).before args s = true)
    (hcode : (Cond.code y bytes maxL ret).before args s = true) (hy : y.cls ≠ "java/lang/invoke/MethodHandle" ∧ y.cls ≠ "java/lang/invoke/VarHandle")
    {W9 : Nat} {Pre : Pt → Array Value → Prop} {Post : Pt → Array Value → Option Value → Pt → Prop} {PostX : Pt → Array Value → Addr → Pt → Prop} (hK : vx_Back l R p e below s args y 3 W9 Pre Post PostX)
    {b : Addr} {cellB : Cell} (hcell : T.heap[b]? = some cellB) (hobj : cellB.vm.isStatics = false) (hcls : s.vm.findClass C = some cellB.cls)
    {g : JFrame} (hg : g.method = m) (hsize : g.locals.size = c.maxLocals) {argsL rest : List Value} (hlen : ∀ sig, parseMethodDescriptor y.desc = some sig → argsL.length = sig.parameters.length)
    (hstack : g.stack = argsL.reverse ++ .ref b :: rest) (hW : 2 * g.monitorRoom + (rest.map fun v => v.category).sum ≤ W9) (hdg : decode c.code g.pc = .ok (.invokevirtual index, 3))
    (hpre : ∀ vm₁, s.WarmedH vm₁ → Pre ⟨T.setVm vm₁, locs, cells, slots⟩ (Value.ref b :: argsL).toArray) :
    (∃ (v : Option Value) (vm₁ : Vm) (B : Pt), s.WarmedH vm₁ ∧ Stand p l e R s m args below meth c B.U B.locs B.cells B.slots ∧ Post ⟨T.setVm vm₁, locs, cells, slots⟩ (Value.ref b :: argsL).toArray v B ∧
      ∀ target, Steps p.tables e below (B.U.setTop { g with pc := g.pc + 3, stack := v.toList ++ rest }) target → Steps p.tables e below (T.setTop g) target) ∨
    (∃ (q : Addr) (vm₁ : Vm) (B : Pt), s.WarmedH vm₁ ∧ Stand p l e R s m args below meth c B.U B.locs B.cells B.slots ∧ PostX ⟨T.setVm vm₁, locs, cells, slots⟩ (Value.ref b :: argsL).toArray q B ∧
      Steps p.tables e below (T.setTop g) ((B.U.setTop { g with stack := rest }).pushFrame (.throwing q))) := by
  obtain ⟨mk, methM, hnamed, hmethM, hstM, habM⟩ := Cond.instanceMethod_spec hinst
  obtain ⟨methM', cM, hmethM', -, -, -, -, -, -, hsigM⟩ := Cond.code_spec hnamed hcode
  cases hmethM.symm.trans hmethM'
  obtain ⟨c2, r2, m2, q1, q2, q3, q4, kP, hkP, hkPi⟩ := Cond.selects_spec hsel
  cases hcls.symm.trans q1
  cases (State.methodFound?_of_named hnamed hy).symm.trans q2
  cases hnamed.symm.trans q3
  have hselP : selectMethod e.platform s.vm cellB.cls mk = .method mk := by rw [Launch.admits_selectMethod X.admits]; exact q4
  obtain ⟨vm₁, X₁, hstep₁⟩ := X.invokevirtual hexec hown hlink hnamed hmethM hstM hkP hkPi hy (a := b) (cell := cellB) hcell
    (fun z h => by rw [h] at hobj; cases hobj) hselP hmethM habM hkP hkPi (g := g) hg (argsL := argsL) (rest := rest) (hlen _ hsigM) hstack hdg
  rcases hK m meth c ⟨T.setVm vm₁, locs, cells, slots⟩ { g with stack := rest } (.invokevirtual index) mk (Value.ref b :: argsL).toArray X₁ hg hsize hdg hW (X₁.named hnamed) (hpre vm₁ X₁.warmed) with ⟨v, B, X', hpost, hsteps⟩ | ⟨q, B, X', hpost, hsteps⟩
  · exact Or.inl ⟨v, vm₁, B, X₁.warmed, X', hpost, fun target h => hstep₁ _ fun acts => by rw [doInvoke_state]; exact hsteps.trans h⟩
  · exact Or.inr ⟨q, vm₁, B, X₁.warmed, X', hpost, hstep₁ _ fun acts => by rw [doInvoke_state]; exact hsteps⟩
theorem vx_callS (X : Stand p l e R s m args below meth c T locs cells slots) (hexec : p.tables.exec = Jvm.exec) {own : String} {index : Nat} {y : MethodName} {bytes : ByteArray} {maxL : Nat} {ret : Option FieldType}
    (hown : s.vm.findClass own = some m.cls) (hlink : (Cond.methodLink own index y).before args s = true) (hstat : (Cond.static y).before args s = true) (hinit : (Cond.initialized y.cls).before args s = true)
    (hcode : (Cond.code y bytes maxL ret).before args s = true) (hy : y.cls ≠ "java/lang/invoke/MethodHandle" ∧ y.cls ≠ "java/lang/invoke/VarHandle")
    {W9 : Nat} {Pre : Pt → Array Value → Prop} {Post : Pt → Array Value → Option Value → Pt → Prop} {PostX : Pt → Array Value → Addr → Pt → Prop} (hK : vx_Back l R p e below s args y 3 W9 Pre Post PostX)
    {g : JFrame} (hg : g.method = m) (hsize : g.locals.size = c.maxLocals) {argsL rest : List Value} (hlen : ∀ sig, parseMethodDescriptor y.desc = some sig → argsL.length = sig.parameters.length)
    (hstack : g.stack = argsL.reverse ++ rest) (hW : 2 * g.monitorRoom + (rest.map fun v => v.category).sum ≤ W9) (hdg : decode c.code g.pc = .ok (.invokestatic index, 3))
    (hpre : ∀ vm₁, s.WarmedH vm₁ → Pre ⟨T.setVm vm₁, locs, cells, slots⟩ argsL.toArray) :
    (∃ (v : Option Value) (vm₁ : Vm) (B : Pt), s.WarmedH vm₁ ∧ Stand p l e R s m args below meth c B.U B.locs B.cells B.slots ∧ Post ⟨T.setVm vm₁, locs, cells, slots⟩ argsL.toArray v B ∧
      ∀ target, Steps p.tables e below (B.U.setTop { g with pc := g.pc + 3, stack := v.toList ++ rest }) target → Steps p.tables e below (T.setTop g) target) ∨
    (∃ (q : Addr) (vm₁ : Vm) (B : Pt), s.WarmedH vm₁ ∧ Stand p l e R s m args below meth c B.U B.locs B.cells B.slots ∧ PostX ⟨T.setVm vm₁, locs, cells, slots⟩ argsL.toArray q B ∧
      Steps p.tables e below (T.setTop g) ((B.U.setTop { g with stack := rest }).pushFrame (.throwing q))) := by
  obtain ⟨mk, hnamed⟩ := Cond.code_named hcode
  obtain ⟨methM, cM, hmethM, -, -, -, -, -, -, hsigM⟩ := Cond.code_spec hnamed hcode
  have hstatic : methM.isStatic = true := Cond.static_spec hnamed hmethM hstat
  obtain ⟨kP, hkP, -⟩ := className_of_methodNamed hnamed
  have hinitP : kP.init = .initialized := Cond.initialized_spec (findClass_of_methodNamed hnamed) hkP hinit
  obtain ⟨vm₁, X₁, hstep₁⟩ := X.invokestatic hexec hown hlink hnamed hmethM hstatic hkP hinitP hy (g := g) hg (argsL := argsL) (rest := rest) (hlen _ hsigM) hstack hdg
  rcases hK m meth c ⟨T.setVm vm₁, locs, cells, slots⟩ { g with stack := rest } (.invokestatic index) mk argsL.toArray X₁ hg hsize hdg hW (X₁.named hnamed) (hpre vm₁ X₁.warmed) with ⟨v, B, X', hpost, hsteps⟩ | ⟨q, B, X', hpost, hsteps⟩
  · exact Or.inl ⟨v, vm₁, B, X₁.warmed, X', hpost, fun target h => hstep₁ _ fun acts => by rw [doInvoke_state]; exact hsteps.trans h⟩
  · exact Or.inr ⟨q, vm₁, B, X₁.warmed, X', hpost, hstep₁ _ fun acts => by rw [doInvoke_state]; exact hsteps⟩
end Calls
theorem vx_cls {s : State} {T : State} {vm₁ : Vm} {E : String} {k : ClassId} (hW : s.WarmedH vm₁) (h : (T.setVm vm₁).vm.findClass E = some k) : s.vm.findClass E = some k := by
  have h1 : vm₁.findClass E = some k := h
  rw [hW.alike.findClass] at h1
  exact h1
/-- the method's frame g, with q thrown over it -/
def vx_W (p : Program) (l : Launch) (e : Env) (R : Room) (s : State) (m : MethodId) (args : Array Value) (below : List Frame) (meth : Method) (c : Code) (H : Heap) (locs : List Loc) (cells slots : Nat) (Q : State → Prop) (g : JFrame) (q : Addr) : Prop :=
  ∀ T : State, T.heap = H → Stand p l e R s m args below meth c T locs cells slots → ∃ t, Steps p.tables e below ((T.setTop g).pushFrame (.throwing q)) t ∧ Q t
def vx_Run (p : Program) (l : Launch) (e : Env) (R : Room) (s : State) (m : MethodId) (args : Array Value) (below : List Frame) (meth : Method) (c : Code) (H : Heap) (locs : List Loc) (cells slots mc ms : Nat) (g : JFrame) (rest : List Value) (Qa : State → Outcome → State → Prop) (XC : String → State → State → Prop) (free : Addr → Prop) : Prop :=
  ∀ T : State, T.heap = H → Stand p l e R s m args below meth c T locs cells slots →
    (∃ (v : Option Value) (st₀ t T' : State) (L : List Loc), st₀.heap = H ∧ Stand p l e R s m args below meth c T' (locs ++ L) (cells + mc) (slots + ms) ∧ (∀ q ∈ L, free q.base) ∧ T'.heap = t.heap ∧ T'.vm = t.vm ∧ Qa st₀ (.returned v) t ∧
      Goes p e below T g T' { g with pc := g.pc + 3, stack := v.toList ++ rest }) ∨
    (∃ (q : Addr) (st₀ t T' : State) (L : List Loc) (E : String) (ce : Cell), st₀.heap = H ∧ Stand p l e R s m args below meth c T' (locs ++ L) (cells + mc) (slots + ms) ∧ (∀ z ∈ L, free z.base) ∧ T'.heap = t.heap ∧ T'.vm = t.vm ∧ XC E st₀ t ∧ t.heap[q]? = some ce ∧ ce.vm = .none ∧ s.vm.findClass E = some ce.cls ∧
      Steps p.tables e below (T.setTop g) ((T'.setTop { g with stack := rest }).pushFrame (.throwing q)))
def vx_X {S : Type} (px : S → Prop) (B : String → S → State → Prop) (A : Nat → Prop) : String → State → State → Prop := fun E st t => ∃ u : S, px u ∧ B E u t ∧ va_F A st t
section Runs
variable {p : Program} {l : Launch} {e : Env} {R : Room} {s : State} {m : MethodId} {args : Array Value} {below : List Frame} {meth : Method} {c : Code} {H : Heap} {locs : List Loc} {cells slots : Nat}
variable {y : MethodName} {bytes cc : ByteArray} {maxL nL mc ms n index : Nat} {ret : Option FieldType} {ws : List Cond} {rm : Room} {Pc : Array Value → State → Prop} {Qc : Array Value → State → Outcome → State → Prop} {XC : String → State → State → Prop} {free : Addr → Prop} {Ts : List Cond} {own C : String} {b : Addr} {As rest : List Value} {g : JFrame}
theorem vx_callBack (cb : CallB R s args own index y bytes maxL ret ws rm mc ms n) (hM : vx_Met l y ws rm Pc Qc XC mc ms free) (hbl : FrameBlind Pc) : vx_Back l R p e below s args y 3 8 (PreOf R mc ms Pc) (PostOf Qc mc ms free) (vx_Post XC mc ms free) := by
  obtain ⟨hrc, hrs, hfr, hlo, hws, hcw, -, hini, -⟩ := cb
  exact vx_back (bytes := bytes) (maxL := maxL) (ret := ret) hM hbl hrc hrs hfr hlo hws hcw (fun a' U hW => word_at hW (Or.inl (by first | rfl | simp [Cond.onTables, Cond.keeps, Cond.steady])) hini)
theorem vx_runV (S : CallFix p m c cc nL s args Ts own) (hM : vx_Met l y ws rm Pc Qc XC mc ms free) (cw : CallW R s args own C index y bytes maxL ret ws rm mc ms n) (hp : PreV s H C b Pc As)
    (hg : g.method = m) (hn : As.length = n) (hsize : g.locals.size = nL) (hstack : g.stack = As.reverse ++ .ref b :: rest) (hW : 2 * g.monitorRoom + (rest.map fun v => v.category).sum ≤ 8) (hdg : decode cc g.pc = .ok (.invokevirtual index, 3)) (hf : cells + mc ≤ R.cells ∧ slots + ms ≤ R.slots) :
    vx_Run p l e R s m args below meth c H locs cells slots mc ms g rest (Qc (Value.ref b :: As).toArray) XC free := by
  have hK : vx_Back l R p e below s args y 3 8 (PreOf R mc ms Pc) (PostOf Qc mc ms free) (vx_Post XC mc ms free) := vx_callBack cw.1 hM hp.1
  obtain ⟨⟨-, -, -, -, -, -, hcode, -, hy, hlen, hl⟩, hin, hse⟩ := cw
  obtain ⟨hx, hb, hml, ho, -⟩ := S
  obtain ⟨-, ⟨cellB, hcB, hoB, hclB⟩, hPc⟩ := hp
  intro T hT X
  rcases vx_callV X hx (C := C) (bytes := bytes) (maxL := maxL) (ret := ret) ho hl hin hse hcode hy hK (by rw [hT]; exact hcB) hoB hclB hg (hsize.trans hml.symm) (argsL := As) (rest := rest) (fun sig h => hn.trans (hlen sig h)) hstack hW (by rw [hb]; exact hdg)
    (fun vm₁ hW₁ => ⟨hf.1, hf.2, hPc (T.setVm vm₁) hT hW₁⟩) with ⟨v, vm₁, ⟨U', l2, c2, s2⟩, hW₁, X', ⟨g', mk, t, L, e1, e2, hq, h1, hL, h2, h3⟩, st⟩ | ⟨q, vm₁, ⟨U', l2, c2, s2⟩, hW₁, X', ⟨g', mk, t, L, E, ce, e1, e2, hq, hce, hcv, hcl, h1, hL, h2, h3⟩, st⟩
  · dsimp only [Pt.U, Pt.locs, Pt.cells, Pt.slots] at X' e1 e2 h1 h2 h3 st
    subst h1; subst h2; subst h3
    exact Or.inl ⟨v, (T.setVm vm₁).calling g' mk (Value.ref b :: As).toArray, t, U', L, hT, X', hL, e1, e2, hq, st⟩
  · dsimp only [Pt.U, Pt.locs, Pt.cells, Pt.slots] at X' e1 e2 h1 h2 h3 st hcl
    subst h1; subst h2; subst h3
    exact Or.inr ⟨q, (T.setVm vm₁).calling g' mk (Value.ref b :: As).toArray, t, U', L, E, ce, hT, X', hL, e1, e2, hq, hce, hcv, vx_cls hW₁ hcl, st⟩
theorem vx_runS (S : CallFix p m c cc nL s args Ts own) (hM : vx_Met l y ws rm Pc Qc XC mc ms free) (cw : CallB R s args own index y bytes maxL ret ws rm mc ms n ∧ (Cond.static y).before args s = true) (hp : PreS s H Pc As)
    (hg : g.method = m) (hn : As.length = n) (hsize : g.locals.size = nL) (hstack : g.stack = As.reverse ++ rest) (hW : 2 * g.monitorRoom + (rest.map fun v => v.category).sum ≤ 8) (hdg : decode cc g.pc = .ok (.invokestatic index, 3)) (hf : cells + mc ≤ R.cells ∧ slots + ms ≤ R.slots) :
    vx_Run p l e R s m args below meth c H locs cells slots mc ms g rest (Qc As.toArray) XC free := by
  have hK : vx_Back l R p e below s args y 3 8 (PreOf R mc ms Pc) (PostOf Qc mc ms free) (vx_Post XC mc ms free) := vx_callBack cw.1 hM hp.1
  obtain ⟨⟨-, -, -, -, -, -, hcode, hini, hy, hlen, hl⟩, hstt⟩ := cw
  obtain ⟨hx, hb, hml, ho, -⟩ := S
  intro T hT X
  rcases vx_callS X hx (bytes := bytes) (maxL := maxL) (ret := ret) ho hl hstt hini hcode hy hK hg (hsize.trans hml.symm) (argsL := As) (rest := rest) (fun sig h => hn.trans (hlen sig h)) hstack hW (by rw [hb]; exact hdg)
    (fun vm₁ hW₁ => ⟨hf.1, hf.2, hp.2 (T.setVm vm₁) hT hW₁⟩) with ⟨v, vm₁, ⟨U', l2, c2, s2⟩, hW₁, X', ⟨g', mk, t, L, e1, e2, hq, h1, hL, h2, h3⟩, st⟩ | ⟨q, vm₁, ⟨U', l2, c2, s2⟩, hW₁, X', ⟨g', mk, t, L, E, ce, e1, e2, hq, hce, hcv, hcl, h1, hL, h2, h3⟩, st⟩
  · dsimp only [Pt.U, Pt.locs, Pt.cells, Pt.slots] at X' e1 e2 h1 h2 h3 st
    subst h1; subst h2; subst h3
    exact Or.inl ⟨v, (T.setVm vm₁).calling g' mk As.toArray, t, U', L, hT, X', hL, e1, e2, hq, st⟩
  · dsimp only [Pt.U, Pt.locs, Pt.cells, Pt.slots] at X' e1 e2 h1 h2 h3 st hcl
    subst h1; subst h2; subst h3
    exact Or.inr ⟨q, (T.setVm vm₁).calling g' mk As.toArray, t, U', L, E, ce, hT, X', hL, e1, e2, hq, hce, hcv, vx_cls hW₁ hcl, st⟩
end Runs
section Rows
variable {p : Program} {l : Launch} {e : Env} {R : Room} {s : State} {m : MethodId} {args : Array Value} {below : List Frame} {meth : Method} {c : Code} {H : Heap} {locs : List Loc} {cells slots : Nat} {Q : State → Prop}
variable {mc ms : Nat} {free : Addr → Prop} {A0 A1 : Nat → Prop} {H0 : Heap} {a : Array Value} {pc : Nat} {ls : Array Slot} {st0 rest : List Value}
theorem vx_keep {st₀ t T' : State} {L : List Loc} (h0 : st₀.heap = H) (e1 : T'.heap = t.heap) (hS : va_S A0 H0 H locs) (hA : ∀ q, q < H.size → A1 q → A0 q) (hf : ∀ q, free q → A0 q) (hL : ∀ q ∈ L, free q.base) (hF : va_F A1 st₀ t) :
    H.size ≤ T'.heap.size ∧ (∀ q : Nat, q < H.size → ¬ A1 q → T'.heap[q]? = H[q]?) ∧ va_S A0 H0 T'.heap (locs ++ L) := by
  obtain ⟨hz, hk⟩ := hF
  rw [h0] at hz hk
  exact ⟨by rw [e1]; exact hz, fun q h1 h2 => by rw [e1]; exact hk q h1 h2,
    ⟨Nat.le_trans hS.1 (by rw [e1]; exact hz), fun q h1 h2 => by rw [e1, hk q (Nat.lt_of_lt_of_le h1 hS.1) (fun z => h2 (hA q (Nat.lt_of_lt_of_le h1 hS.1) z))]; exact hS.2.1 q h1 h2, fun q hq => by
      rcases List.mem_append.mp hq with h | h
      · exact hS.2.2 q h
      · exact hf _ (hL q h)⟩⟩
theorem vx_calli {S SX : Type} {post : Int32 → S → Prop} {px : SX → Prop} {B : S → State → Prop} {BX : String → SX → State → Prop} {AX : Nat → Prop} (hr : vx_Run p l e R s m args below meth c H locs cells slots mc ms (F0 m pc ls st0) rest (va_Qi post B A1 a) (vx_X px BX AX) free) (hS : va_S A0 H0 H locs) (hA : ∀ q, q < H.size → A1 q → A0 q) (hf : ∀ q, free q → A0 q) (hAX : ∀ q, q < H.size → AX q → A0 q)
    (kx : ∀ (E : String) (ce : Cell) (q9 : Addr) (u : SX) (t : State) (H1 : Heap) (locs1 : List Loc), t.heap = H1 → s.vm.Alike t.vm → px u → BX E u t → H.size ≤ H1.size → (∀ q : Nat, q < H.size → ¬ AX q → H1[q]? = H[q]?) → va_S A0 H0 H1 locs1 → H1[q9]? = some ce → ce.vm = .none → s.vm.findClass E = some ce.cls → vx_W p l e R s m args below meth c H1 locs1 (cells + mc) (slots + ms) Q (F0 m pc ls rest) q9)
    (kk : ∀ (r : Int32) (u : S) (t : State) (H1 : Heap) (locs1 : List Loc), t.heap = H1 → s.vm.Alike t.vm → post r u → B u t → H.size ≤ H1.size → (∀ q : Nat, q < H.size → ¬ A1 q → H1[q]? = H[q]?) → va_S A0 H0 H1 locs1 → W p l e R s m args below meth c H1 locs1 (cells + mc) (slots + ms) Q (F0 m (pc + 3) ls (.int r :: rest))) : W p l e R s m args below meth c H locs cells slots Q (F0 m pc ls st0) := by
  intro T hT X
  rcases hr T hT X with ⟨v, st₀, t, T', L, h0, X', hL, e1, e2, ⟨⟨r, u, hv, hp, hb⟩, hF⟩, st⟩ | ⟨q, st₀, t, T', L, E, ce, h0, X', hL, e1, e2, ⟨u, hp, hb, hF⟩, hce, hcv, hcl, st⟩
  · cases hv
    obtain ⟨k1, k2, k3⟩ := vx_keep h0 e1 hS hA hf hL hF
    obtain ⟨t2, a1, b1⟩ := kk r u t T'.heap (locs ++ L) e1.symm (by rw [← e2]; exact X'.warmed.alike) hp hb k1 k2 k3 T' rfl X'
    exact ⟨t2, st t2 a1, b1⟩
  · obtain ⟨k1, k2, k3⟩ := vx_keep h0 e1 hS hAX hf hL hF
    obtain ⟨t2, a1, b1⟩ := kx E ce q u t T'.heap (locs ++ L) e1.symm (by rw [← e2]; exact X'.warmed.alike) hp hb k1 k2 k3 (by rw [e1]; exact hce) hcv hcl T' rfl X'
    exact ⟨t2, st.trans a1, b1⟩
theorem vx_calll {S SX : Type} {post : Int64 → S → Prop} {px : SX → Prop} {B : S → State → Prop} {BX : String → SX → State → Prop} {AX : Nat → Prop} (hr : vx_Run p l e R s m args below meth c H locs cells slots mc ms (F0 m pc ls st0) rest (va_Ql post B A1 a) (vx_X px BX AX) free) (hS : va_S A0 H0 H locs) (hA : ∀ q, q < H.size → A1 q → A0 q) (hf : ∀ q, free q → A0 q) (hAX : ∀ q, q < H.size → AX q → A0 q)
    (kx : ∀ (E : String) (ce : Cell) (q9 : Addr) (u : SX) (t : State) (H1 : Heap) (locs1 : List Loc), t.heap = H1 → s.vm.Alike t.vm → px u → BX E u t → H.size ≤ H1.size → (∀ q : Nat, q < H.size → ¬ AX q → H1[q]? = H[q]?) → va_S A0 H0 H1 locs1 → H1[q9]? = some ce → ce.vm = .none → s.vm.findClass E = some ce.cls → vx_W p l e R s m args below meth c H1 locs1 (cells + mc) (slots + ms) Q (F0 m pc ls rest) q9)
    (kk : ∀ (r : Int64) (u : S) (t : State) (H1 : Heap) (locs1 : List Loc), t.heap = H1 → s.vm.Alike t.vm → post r u → B u t → H.size ≤ H1.size → (∀ q : Nat, q < H.size → ¬ A1 q → H1[q]? = H[q]?) → va_S A0 H0 H1 locs1 → W p l e R s m args below meth c H1 locs1 (cells + mc) (slots + ms) Q (F0 m (pc + 3) ls (.long r :: rest))) : W p l e R s m args below meth c H locs cells slots Q (F0 m pc ls st0) := by
  intro T hT X
  rcases hr T hT X with ⟨v, st₀, t, T', L, h0, X', hL, e1, e2, ⟨⟨r, u, hv, hp, hb⟩, hF⟩, st⟩ | ⟨q, st₀, t, T', L, E, ce, h0, X', hL, e1, e2, ⟨u, hp, hb, hF⟩, hce, hcv, hcl, st⟩
  · cases hv
    obtain ⟨k1, k2, k3⟩ := vx_keep h0 e1 hS hA hf hL hF
    obtain ⟨t2, a1, b1⟩ := kk r u t T'.heap (locs ++ L) e1.symm (by rw [← e2]; exact X'.warmed.alike) hp hb k1 k2 k3 T' rfl X'
    exact ⟨t2, st t2 a1, b1⟩
  · obtain ⟨k1, k2, k3⟩ := vx_keep h0 e1 hS hAX hf hL hF
    obtain ⟨t2, a1, b1⟩ := kx E ce q u t T'.heap (locs ++ L) e1.symm (by rw [← e2]; exact X'.warmed.alike) hp hb k1 k2 k3 (by rw [e1]; exact hce) hcv hcl T' rfl X'
    exact ⟨t2, st.trans a1, b1⟩
theorem vx_callf {S SX : Type} {post : UInt32 → S → Prop} {px : SX → Prop} {B : S → State → Prop} {BX : String → SX → State → Prop} {AX : Nat → Prop} (hr : vx_Run p l e R s m args below meth c H locs cells slots mc ms (F0 m pc ls st0) rest (va_Qf post B A1 a) (vx_X px BX AX) free) (hS : va_S A0 H0 H locs) (hA : ∀ q, q < H.size → A1 q → A0 q) (hf : ∀ q, free q → A0 q) (hAX : ∀ q, q < H.size → AX q → A0 q)
    (kx : ∀ (E : String) (ce : Cell) (q9 : Addr) (u : SX) (t : State) (H1 : Heap) (locs1 : List Loc), t.heap = H1 → s.vm.Alike t.vm → px u → BX E u t → H.size ≤ H1.size → (∀ q : Nat, q < H.size → ¬ AX q → H1[q]? = H[q]?) → va_S A0 H0 H1 locs1 → H1[q9]? = some ce → ce.vm = .none → s.vm.findClass E = some ce.cls → vx_W p l e R s m args below meth c H1 locs1 (cells + mc) (slots + ms) Q (F0 m pc ls rest) q9)
    (kk : ∀ (r : UInt32) (u : S) (t : State) (H1 : Heap) (locs1 : List Loc), t.heap = H1 → s.vm.Alike t.vm → post r u → B u t → H.size ≤ H1.size → (∀ q : Nat, q < H.size → ¬ A1 q → H1[q]? = H[q]?) → va_S A0 H0 H1 locs1 → W p l e R s m args below meth c H1 locs1 (cells + mc) (slots + ms) Q (F0 m (pc + 3) ls (.float r :: rest))) : W p l e R s m args below meth c H locs cells slots Q (F0 m pc ls st0) := by
  intro T hT X
  rcases hr T hT X with ⟨v, st₀, t, T', L, h0, X', hL, e1, e2, ⟨⟨r, u, hv, hp, hb⟩, hF⟩, st⟩ | ⟨q, st₀, t, T', L, E, ce, h0, X', hL, e1, e2, ⟨u, hp, hb, hF⟩, hce, hcv, hcl, st⟩
  · cases hv
    obtain ⟨k1, k2, k3⟩ := vx_keep h0 e1 hS hA hf hL hF
    obtain ⟨t2, a1, b1⟩ := kk r u t T'.heap (locs ++ L) e1.symm (by rw [← e2]; exact X'.warmed.alike) hp hb k1 k2 k3 T' rfl X'
    exact ⟨t2, st t2 a1, b1⟩
  · obtain ⟨k1, k2, k3⟩ := vx_keep h0 e1 hS hAX hf hL hF
    obtain ⟨t2, a1, b1⟩ := kx E ce q u t T'.heap (locs ++ L) e1.symm (by rw [← e2]; exact X'.warmed.alike) hp hb k1 k2 k3 (by rw [e1]; exact hce) hcv hcl T' rfl X'
    exact ⟨t2, st.trans a1, b1⟩
theorem vx_calld {S SX : Type} {post : UInt64 → S → Prop} {px : SX → Prop} {B : S → State → Prop} {BX : String → SX → State → Prop} {AX : Nat → Prop} (hr : vx_Run p l e R s m args below meth c H locs cells slots mc ms (F0 m pc ls st0) rest (va_Qd post B A1 a) (vx_X px BX AX) free) (hS : va_S A0 H0 H locs) (hA : ∀ q, q < H.size → A1 q → A0 q) (hf : ∀ q, free q → A0 q) (hAX : ∀ q, q < H.size → AX q → A0 q)
    (kx : ∀ (E : String) (ce : Cell) (q9 : Addr) (u : SX) (t : State) (H1 : Heap) (locs1 : List Loc), t.heap = H1 → s.vm.Alike t.vm → px u → BX E u t → H.size ≤ H1.size → (∀ q : Nat, q < H.size → ¬ AX q → H1[q]? = H[q]?) → va_S A0 H0 H1 locs1 → H1[q9]? = some ce → ce.vm = .none → s.vm.findClass E = some ce.cls → vx_W p l e R s m args below meth c H1 locs1 (cells + mc) (slots + ms) Q (F0 m pc ls rest) q9)
    (kk : ∀ (r : UInt64) (u : S) (t : State) (H1 : Heap) (locs1 : List Loc), t.heap = H1 → s.vm.Alike t.vm → post r u → B u t → H.size ≤ H1.size → (∀ q : Nat, q < H.size → ¬ A1 q → H1[q]? = H[q]?) → va_S A0 H0 H1 locs1 → W p l e R s m args below meth c H1 locs1 (cells + mc) (slots + ms) Q (F0 m (pc + 3) ls (.double r :: rest))) : W p l e R s m args below meth c H locs cells slots Q (F0 m pc ls st0) := by
  intro T hT X
  rcases hr T hT X with ⟨v, st₀, t, T', L, h0, X', hL, e1, e2, ⟨⟨r, u, hv, hp, hb⟩, hF⟩, st⟩ | ⟨q, st₀, t, T', L, E, ce, h0, X', hL, e1, e2, ⟨u, hp, hb, hF⟩, hce, hcv, hcl, st⟩
  · cases hv
    obtain ⟨k1, k2, k3⟩ := vx_keep h0 e1 hS hA hf hL hF
    obtain ⟨t2, a1, b1⟩ := kk r u t T'.heap (locs ++ L) e1.symm (by rw [← e2]; exact X'.warmed.alike) hp hb k1 k2 k3 T' rfl X'
    exact ⟨t2, st t2 a1, b1⟩
  · obtain ⟨k1, k2, k3⟩ := vx_keep h0 e1 hS hAX hf hL hF
    obtain ⟨t2, a1, b1⟩ := kx E ce q u t T'.heap (locs ++ L) e1.symm (by rw [← e2]; exact X'.warmed.alike) hp hb k1 k2 k3 (by rw [e1]; exact hce) hcv hcl T' rfl X'
    exact ⟨t2, st.trans a1, b1⟩
theorem vx_callv {S SX : Type} {post : S → Prop} {px : SX → Prop} {B : S → State → Prop} {BX : String → SX → State → Prop} {AX : Nat → Prop} (hr : vx_Run p l e R s m args below meth c H locs cells slots mc ms (F0 m pc ls st0) rest (va_Qv post B A1 a) (vx_X px BX AX) free) (hS : va_S A0 H0 H locs) (hA : ∀ q, q < H.size → A1 q → A0 q) (hf : ∀ q, free q → A0 q) (hAX : ∀ q, q < H.size → AX q → A0 q)
    (kx : ∀ (E : String) (ce : Cell) (q9 : Addr) (u : SX) (t : State) (H1 : Heap) (locs1 : List Loc), t.heap = H1 → s.vm.Alike t.vm → px u → BX E u t → H.size ≤ H1.size → (∀ q : Nat, q < H.size → ¬ AX q → H1[q]? = H[q]?) → va_S A0 H0 H1 locs1 → H1[q9]? = some ce → ce.vm = .none → s.vm.findClass E = some ce.cls → vx_W p l e R s m args below meth c H1 locs1 (cells + mc) (slots + ms) Q (F0 m pc ls rest) q9)
    (kk : ∀ (u : S) (t : State) (H1 : Heap) (locs1 : List Loc), t.heap = H1 → s.vm.Alike t.vm → post u → B u t → H.size ≤ H1.size → (∀ q : Nat, q < H.size → ¬ A1 q → H1[q]? = H[q]?) → va_S A0 H0 H1 locs1 → W p l e R s m args below meth c H1 locs1 (cells + mc) (slots + ms) Q (F0 m (pc + 3) ls (rest))) : W p l e R s m args below meth c H locs cells slots Q (F0 m pc ls st0) := by
  intro T hT X
  rcases hr T hT X with ⟨v, st₀, t, T', L, h0, X', hL, e1, e2, ⟨⟨u, hv, hp, hb⟩, hF⟩, st⟩ | ⟨q, st₀, t, T', L, E, ce, h0, X', hL, e1, e2, ⟨u, hp, hb, hF⟩, hce, hcv, hcl, st⟩
  · cases hv
    obtain ⟨k1, k2, k3⟩ := vx_keep h0 e1 hS hA hf hL hF
    obtain ⟨t2, a1, b1⟩ := kk u t T'.heap (locs ++ L) e1.symm (by rw [← e2]; exact X'.warmed.alike) hp hb k1 k2 k3 T' rfl X'
    exact ⟨t2, st t2 a1, b1⟩
  · obtain ⟨k1, k2, k3⟩ := vx_keep h0 e1 hS hAX hf hL hF
    obtain ⟨t2, a1, b1⟩ := kx E ce q u t T'.heap (locs ++ L) e1.symm (by rw [← e2]; exact X'.warmed.alike) hp hb k1 k2 k3 (by rw [e1]; exact hce) hcv hcl T' rfl X'
    exact ⟨t2, st.trans a1, b1⟩
/-- caught by the row x of this method's table; the rows ahead don't take it -/
theorem vx_catch {own name : String} {E : String} {ce : Cell} {q : Addr} (hown : s.vm.findClass own = some m.cls) (pre : List ExceptionTableEntry) (x : ExceptionTableEntry) (suf : List ExceptionTableEntry) (hsplit : c.exceptionTable.toList = pre ++ x :: suf)
    (hpass : ∀ z ∈ pre, covers z pc = false ∨ (z.catchType ≠ 0 ∧ ∃ nm : String, (Cond.classLink own z.catchType nm).before args s = true ∧ va_Nc E nm s)) (hx : covers x pc = true) (h0 : x.catchType ≠ 0)
    (hlink : (Cond.classLink own x.catchType name).before args s = true) (hcast : (Cond.castable E name).before args s = true) (hcell : H[q]? = some ce) (hv : ce.vm = .none) (hcl : s.vm.findClass E = some ce.cls)
    (kk : W p l e R s m args below meth c H locs cells slots Q (F0 m x.handlerPc ls [.ref q])) : vx_W p l e R s m args below meth c H locs cells slots Q (F0 m pc ls rest) q := by
  intro T hT X
  have hpl : e.platform.magicAccessors = ({} : Platform).magicAccessors := by rw [X.admits.platform]
  obtain ⟨c3, c4, hc3, hc4, hasg⟩ := Cond.castable_spec hcast
  cases Option.some.inj (hc3.symm.trans hcl)
  obtain ⟨c5, hc5, hcl5⟩ := Cond.classLink_spec hown hlink e.platform hpl
  cases Option.some.inj (hc4.symm.trans hc5)
  obtain ⟨vm', X', st⟩ := X.thenCaughtThrough q (g := F0 m pc ls rest) rfl (Steps.refl _) (by rw [hT]; exact hcell) (by rw [hv]; rfl) (by obtain ⟨k9, h9, -⟩ := Vm.findClass_spec hcl; exact ⟨k9, h9⟩) pre x suf hsplit
    (fun z hz => by
      rcases hpass z hz with h | ⟨hz0, nm, hl1, hn1⟩
      · exact Or.inl h
      · obtain ⟨c6, hc6, hcl6⟩ := Cond.classLink_spec hown hl1 e.platform hpl
        obtain ⟨a8, b8, h1, h2, h3⟩ := hn1
        cases Option.some.inj (h1.symm.trans hcl)
        cases Option.some.inj (h2.symm.trans hc6)
        exact Or.inr ⟨hz0, _, hcl6, h3⟩) hx (Or.inr ⟨h0, c4, hcl5, hasg⟩)
  obtain ⟨t, a1, b1⟩ := kk (T.setVm vm') hT X'
  exact ⟨t, st.trans a1, b1⟩
end Rows
section Ends
variable {p : Program} {l : Launch} {e : Env} {R : Room} {s : State} {m : MethodId} {args : Array Value} {below : List Frame} {meth : Method} {c : Code} {H : Heap} {locs : List Loc} {cells slots : Nat} {Q : State → Prop}
variable {mc ms : Nat} {free : Addr → Prop} {A0 A1 : Nat → Prop} {H0 : Heap} {a : Array Value} {ls : Array Slot} {st0 rest : List Value}
variable {Qc : Array Value → State → Outcome → State → Prop} {XC : String → State → State → Prop}
/-- what a body that may throw owes at its end -/
def vx_MQ (below : List Frame) (Qc : Array Value → State → Outcome → State → Prop) (XC : String → State → State → Prop) (a : Array Value) (s : State) (mc ms : Nat) (free : Addr → Prop) : State → Prop := fun t =>
  ∃ o, t.status = .running ∧ Ended t below o ∧ vx_Q Qc XC mc ms free a s o t
theorem vx_ret {g : JFrame} {mc ms : Nat} (k : W p l e R s m args below meth c H locs cells slots (MQ below Qc args s mc ms free) g) : W p l e R s m args below meth c H locs cells slots (vx_MQ below Qc XC args s mc ms free) g := by
  intro T hT X
  obtain ⟨t, a1, o, b1, b2, b3, b4⟩ := k T hT X
  exact ⟨t, a1, o, b1, b2, Or.inl ⟨b3, b4⟩⟩
/-- not caught here: it goes on to the caller -/
theorem vx_widen {g : JFrame} {q : Addr} {k n : Nat} (h1 : cells ≤ k) (h2 : slots ≤ n) (kk : vx_W p l e R s m args below meth c H locs k n Q g q) : vx_W p l e R s m args below meth c H locs cells slots Q g q := fun T hT X => kk T hT (stand_widen X h1 h2)
theorem vx_out {pc : Nat} {E : String} {ce : Cell} {q : Addr} {mc ms : Nat} (hout : ∀ x ∈ c.exceptionTable.toList, covers x pc = false) (hlocks : meth.locks = false) (hcell : H[q]? = some ce) (hv : ce.vm = .none) (hcl : s.vm.findClass E = some ce.cls)
    (hx : ∀ t : State, t.heap = H → s.vm.Alike t.vm → XC E s t) (hf : ∀ z ∈ locs, free z.base) (hc : cells ≤ mc) (hs : slots ≤ ms) :
    vx_W p l e R s m args below meth c H locs cells slots (vx_MQ below Qc XC args s mc ms free) (F0 m pc ls rest) q := by
  intro T hT X
  obtain ⟨st1, hrun, hend, hW, hsm⟩ := X.leaveThrown q (g := F0 m pc ls rest) rfl rfl rfl hout hlocks
  have hcell9 : (T.setFrames (.throwing q :: below)).heap[q]? = some ce := by
    show T.heap[q]? = some ce
    rw [hT]; exact hcell
  exact ⟨_, st1, .threw q, hrun, hend, Or.inr ⟨q, rfl, E, ce, locs, hx _ hT hW.alike, hcell9, hv, hcl, hW, hsm.mono hc hs, hf⟩⟩
theorem vx_frame {U : State} {k n : Nat} (h : s.sameButNew ({ U with vm := s.vm } : State) locs k n) : s.heap.size ≤ U.heap.size ∧ ∀ q : Nat, q < s.heap.size → (∀ z ∈ locs, z.base ≠ q) → U.heap[q]? = s.heap[q]? := by
  obtain ⟨-, h2, -, -, -, h6⟩ := h
  refine ⟨h2, fun q hq hz => ?_⟩
  obtain ⟨c9, e1, e2, e3, e4⟩ := h6 q _ (Array.getElem?_eq_getElem hq)
  have hs : c9.slots = (s.heap[q]).slots := Array.ext_getElem? fun i => e4 i fun hm => hz _ hm rfl
  have h9 : c9 = s.heap[q] := by
    rw [hs] at e2
    exact e2
  have e5 : U.heap[q]? = some c9 := e1
  rw [e5, h9, Array.getElem?_eq_getElem hq]
/-- the words of a throw but the four that speak of the heap -/
def vx_no (w : Cond) : Bool := decide (w ≠ .isRef (.static Bundle.tN "UNASSIGNED_STACK" Bundle.steD)) && decide (w ≠ .isRef (.static Bundle.tN "SUPPRESSED_SENTINEL" Bundle.listD)) && decide (w ≠ .laysStatic Bundle.tN "UNASSIGNED_STACK" Bundle.steD) && decide (w ≠ .laysStatic Bundle.tN "SUPPRESSED_SENTINEL" Bundle.listD)
def vx_at0 (own : String) (ic : Nat) (X : String) (names : List String) : List Cond := (Bundle.ownAtoms0 own ic X names).filter vx_no
def vx_atS (own : String) (ic : Nat) (X : String) (names : List String) : List Cond := (Bundle.ownAtoms own ic X names).filter vx_no
/-- a word that the tables alone decide, or a good one -/
def vx_ot (w : Cond) : Bool := w.onTables || goodWord w
theorem vx_ot_at {args a' : Array Value} {s U : State} {w : Cond} (hW : s.WarmedH U.vm) (hvm : s.vm = U.vm) (hg : vx_ot w = true) (h : w.before args s = true) : w.before a' U = true := by
  simp only [vx_ot, Bool.or_eq_true] at hg
  rcases hg with hg | hg
  · exact va_tabs hg hvm h
  · exact word_at hW (good_of_word hg) h
/-- a list's words: the good ones out of the method's own list, the others by premises of their own -/
theorem vx_hat {args : Array Value} {s : State} {L B : List Cond} (h1 : ∀ w ∈ L.filter goodWord, w.before args s = true) (h2 : ∀ w ∈ L.filter (fun w => !goodWord w), w ∈ B) (h3 : ∀ w ∈ B, w.before args s = true) : ∀ w ∈ L, w.before args s = true := by
  intro w hw
  by_cases g : goodWord w = true
  · exact h1 w (List.mem_filter.mpr ⟨hw, g⟩)
  · refine h3 w (h2 w (List.mem_filter.mpr ⟨hw, ?_⟩))
    show (!goodWord w) = true
    cases hgw : goodWord w
    · rfl
    · exact absurd hgw g
theorem vx_c {args : Array Value} {s : State} {w : Cond} {B : List Cond} (h : w.before args s = true) (t : ∀ w ∈ B, w.before args s = true) : ∀ w' ∈ w :: B, w'.before args s = true := fun w' h' => (List.mem_cons.mp h').elim (fun e => by rw [e]; exact h) (t w')
theorem vx_n {args : Array Value} {s : State} : ∀ w ∈ ([] : List Cond), w.before args s = true := fun _ h => nomatch h
theorem vx_own {args : Array Value} {s : State} {L : List Cond} (h1 : ∀ w ∈ L.filter vx_no, w.before args s = true)
    (hU : (Cond.isRef (.static Bundle.tN "UNASSIGNED_STACK" Bundle.steD)).before args s = true) (hN : (Cond.isRef (.static Bundle.tN "SUPPRESSED_SENTINEL" Bundle.listD)).before args s = true)
    (lU : (Cond.laysStatic Bundle.tN "UNASSIGNED_STACK" Bundle.steD).before args s = true) (lN : (Cond.laysStatic Bundle.tN "SUPPRESSED_SENTINEL" Bundle.listD).before args s = true) : ∀ w ∈ L, w.before args s = true := by
  intro w hw
  by_cases e1 : w = .isRef (.static Bundle.tN "UNASSIGNED_STACK" Bundle.steD)
  · rw [e1]; exact hU
  · by_cases e2 : w = .isRef (.static Bundle.tN "SUPPRESSED_SENTINEL" Bundle.listD)
    · rw [e2]; exact hN
    · by_cases e3 : w = .laysStatic Bundle.tN "UNASSIGNED_STACK" Bundle.steD
      · rw [e3]; exact lU
      · by_cases e4 : w = .laysStatic Bundle.tN "SUPPRESSED_SENTINEL" Bundle.listD
        · rw [e4]; exact lN
        · exact h1 w (List.mem_filter.mpr ⟨hw, by unfold vx_no; rw [decide_eq_true e1, decide_eq_true e2, decide_eq_true e3, decide_eq_true e4]; rfl⟩)
/-- where a static field lies, its class's statics cell in H -/
def vx_L (C n d : String) (A : Nat → Prop) (U : State) (H : Heap) : Prop := ∃ (c : ClassId) (k : Class) (i : Nat) (f : Field) (a : Nat) (cell : Cell), U.vm.findClass C = some c ∧ U.fieldFound? C n d = some (c, k, i, f) ∧ f.isStatic = true ∧ k.statics = some a ∧ H[a]? = some cell ∧ cell.vm.isStatics = true ∧ cell.cls = c ∧ f.slot < cell.slots.size ∧ k.staticTypes[f.slot]? = some f.type ∧ ¬ A a
theorem vx_L.moved {C n d : String} {A : Nat → Prop} {u U : State} {H : Heap} (hvm : u.vm.Alike U.vm) (h : vx_L C n d A u H) : vx_L C n d A U H := by
  obtain ⟨c, k, i, f, a, cell, h1, h2, h3, h4, h5, h6, h7, h8, h9, h10⟩ := h
  obtain ⟨k', hi', he⟩ := State.fieldFound?_setVm hvm h2
  exact ⟨c, k', i, f, a, cell, by rw [hvm.findClass]; exact h1, hi', h3, by rw [he]; exact h4, h5, h6, h7, h8, by rw [he]; exact h9, h10⟩
theorem vx_L.kept {C n d : String} {A : Nat → Prop} {U : State} {H H1 : Heap} (h : vx_L C n d A U H) (hq : ∀ a : Nat, a < H.size → ¬ A a → H1[a]? = H[a]?) : vx_L C n d A U H1 := by
  obtain ⟨c, k, i, f, a, cell, h1, h2, h3, h4, h5, h6, h7, h8, h9, h10⟩ := h
  exact ⟨c, k, i, f, a, cell, h1, h2, h3, h4, by rw [hq a (Array.getElem?_eq_some_iff.mp h5).1 h10]; exact h5, h6, h7, h8, h9, h10⟩
theorem vx_L.narrow {C n d : String} {A B : Nat → Prop} {U : State} {H : Heap} (h : vx_L C n d A U H) (hAB : ∀ q, B q → A q) : vx_L C n d B U H := by
  obtain ⟨c, k, i, f, a, cell, h1, h2, h3, h4, h5, h6, h7, h8, h9, h10⟩ := h
  exact ⟨c, k, i, f, a, cell, h1, h2, h3, h4, h5, h6, h7, h8, h9, fun z => h10 (hAB _ z)⟩
theorem vx_L.word {C n d : String} {A : Nat → Prop} {s : State} {args : Array Value} (h : vx_L C n d A s s.heap) : (Cond.laysStatic C n d).before args s = true := by
  obtain ⟨c, k, i, f, a, cell, h1, h2, h3, h4, h5, h6, h7, h8, h9, -⟩ := h
  show (Cond.laysStatic C n d).holds args s none s [] = true
  exact Cond.laysStatic_of h1 h2 h3 h4 h5 h6 h7 h8 h9
/-- .. and what it holds: null or some reference -/
def vx_Zq (C n d : String) (A : Nat → Prop) (U : State) (H : Heap) : Prop := va_Zq C n d A U H ∧ vx_L C n d A U H
theorem vx_Zq.moved {C n d : String} {A : Nat → Prop} {u U : State} {H : Heap} (hvm : u.vm.Alike U.vm) (h : vx_Zq C n d A u H) : vx_Zq C n d A U H := ⟨va_Zq.moved hvm h.1, vx_L.moved hvm h.2⟩
theorem vx_Zq.kept {C n d : String} {A : Nat → Prop} {U : State} {H H1 : Heap} (h : vx_Zq C n d A U H) (hq : ∀ a : Nat, a < H.size → ¬ A a → H1[a]? = H[a]?) : vx_Zq C n d A U H1 := ⟨va_Zq.kept h.1 hq, vx_L.kept h.2 hq⟩
theorem vx_Zq.narrow {C n d : String} {A B : Nat → Prop} {U : State} {H : Heap} (h : vx_Zq C n d A U H) (hAB : ∀ q, B q → A q) : vx_Zq C n d B U H := ⟨va_Zq.narrow h.1 hAB, vx_L.narrow h.2 hAB⟩
theorem vx_Zqof {args : Array Value} {s : State} {C n d : String} {A : Nat → Prop} (hl : (Cond.laysStatic C n d).before args s = true) (hini : (Cond.initialized C).before args s = true) (h : (Cond.isRef (.static C n d)).before args s = true) (hA : ∀ a : Nat, a < s.heap.size → ¬ A a) : vx_Zq C n d A s s.heap := by
  refine ⟨va_Zqof hl hini h hA, ?_⟩
  obtain ⟨c, k, i, f, a, cell, h1, h2, h3, h4, h5, h6, h7, h8, h9⟩ := Cond.laysStatic_spec hl
  exact ⟨c, k, i, f, a, cell, h1, h2, h3, h4, h5, h6, h7, h8, h9, hA a (Array.getElem?_eq_some_iff.mp h5).1⟩
theorem vx_isRef {C n d : String} {v : Value} {A : Nat → Prop} {s : State} {args : Array Value} (h : va_Z C n d v A s s.heap) (hv : v.isRef = true) : (Cond.isRef (.static C n d)).before args s = true := by
  obtain ⟨cf, kf, fi, f, a, cell, h1, h2, h3, h4, h5, h6, h7, -⟩ := h
  have he : (Term.static C n d).eval args s none [] s = some v := by
    simp [Term.eval, State.fieldNamed?, h1, h2, h4, h5, h6, h7]
  simp only [Cond.before, Cond.holds, Cond.value, he]
  cases v <;> simp_all [Value.isRef]
theorem vx_isRefq {C n d : String} {A : Nat → Prop} {s : State} {args : Array Value} (h : va_Zq C n d A s s.heap) : (Cond.isRef (.static C n d)).before args s = true := by
  rcases h with h | ⟨t, h⟩
  · exact vx_isRef h rfl
  · exact vx_isRef h rfl
/-- the same frame, seen from here: as if the method were called anew in this heap -/
theorem vx_rebase {T : State} (X : Stand p l e R s m args below meth c T locs cells slots) {R' : Room} (hf : R'.frames ≤ R.frames) (hl : R'.locals ≤ R.locals) (hc : cells + R'.cells ≤ R.cells) (hs : slots + R'.slots ≤ R.slots) :
    Stand p l e R' ((T.setVm s.vm).setFrames (.invoking m args :: below)) m args below meth c T [] 0 0 := by
  have htop : (T.setVm s.vm).topJava?.isSome := X.here.top
  have hF : ((T.setVm s.vm).setFrames (.invoking m args :: below)).frames = .invoking m args :: below := State.frames_setFrames _ (State.cur_lt_of_top htop)
  obtain ⟨g₀, hg0⟩ := Option.isSome_iff_exists.mp htop
  obtain ⟨r, hr⟩ := State.topJava?_eq_some.mp hg0
  have hl9 : e.platform.stackLimits (T.setVm s.vm).me = e.platform.stackLimits s.me := X.limits
  have hb9 : (T.setVm s.vm).me.stackBytes = s.me.stackBytes := X.bytes
  refine ⟨X.admits, X.cas, X.clock, hF, ?_, X.hears, X.method, X.code, X.here, X.tail, X.warmed, ?_, ?_, ?_⟩
  · have h := X.room
    have hU : ((T.setVm s.vm).setFrames (.invoking m args :: below)).localsInUse = s.localsInUse := by
      rw [State.localsInUse_invoking hF (meth := meth) (c := c) X.method X.code, State.localsInUse_invoking X.frames X.method X.code]
    simp only [State.hasRoom, Bool.and_eq_true, decide_eq_true_eq] at h ⊢
    obtain ⟨⟨⟨⟨h1, h2, h3, h4, h5, h6⟩, h7⟩, h8⟩, h9⟩ := h
    rw [X.frames, List.length_cons] at h2 h3
    have q1 := X.heapSize
    have q2 := X.used
    simp only [hF, hU, List.length_cons, State.stackLimits_setFrames, State.stackBytes_setFrames, hl9, hb9]
    refine ⟨⟨⟨⟨by omega, by omega, by omega, by omega, by omega, h6⟩, ?_⟩, ?_⟩, X.book⟩
    · show T.heap.size + R'.cells ≤ e.platform.maxCells
      omega
    · show T.slotsUsed + R'.slots ≤ e.platform.maxSlots
      omega
  · rw [State.stackLimits_setFrames]; rfl
  · rw [State.stackBytes_setFrames]; rfl
  · refine ⟨?_, Nat.le_refl _, Nat.le_refl _, ?_, ?_, fun a c9 h9 => ⟨c9, h9, rfl, rfl, fun _ _ => rfl⟩⟩
    · obtain ⟨t, ht, -⟩ := State.frames_cons hr
      show T.setVm s.vm = { ((T.setVm s.vm).setFrames (.invoking m args :: below)).setFrames (T.setVm s.vm).frames with heap := T.heap, slotsUsed := T.slotsUsed }
      rw [State.setFrames_setFrames, State.setFrames_self ht]
      rfl
    · show T.slotsUsed = T.slotsUsed + ((T.heap.toList.drop T.heap.size).map (·.slots.size)).sum
      rw [List.drop_eq_nil_of_le (Nat.le_of_eq Array.length_toList)]
      rfl
    · show ((T.heap.toList.drop T.heap.size).map (·.slots.size)).sum ≤ 0
      rw [List.drop_eq_nil_of_le (Nat.le_of_eq Array.length_toList)]
      exact Nat.le_refl _
/-- 'throw new E()': new; dup; invokespecial; athrow -/
theorem vx_throw0 {cc : ByteArray} {pc : Nat} (hexec : p.tables.exec = Jvm.exec) (hb : c.code = cc) (hl : l.stackTraces = false) {own cls : String} {names : List String} {ik ic mc ms : Nat} {A : Nat → Prop}
    (hown : s.vm.findClass own = some m.cls) (hcls : Bundle.fit cls = true) (hnames : ∀ n ∈ names, Bundle.fit n = true)
    (hk : (Cond.classLink own ik cls).before args s = true) (hini : (Cond.initialized cls).before args s = true) (hat : ∀ w ∈ vx_at0 own ic cls names, w.before args s = true)
    (hgood : ∀ w ∈ Cond.classLink own ik cls :: Cond.initialized cls :: vx_at0 own ic cls names, vx_ot w = true)
    (hU : vx_Zq Bundle.tN "UNASSIGNED_STACK" Bundle.steD A s s.heap) (hN : vx_Zq Bundle.tN "SUPPRESSED_SENTINEL" Bundle.listD A s s.heap) (hS : va_S A s.heap H locs) (hsize : ls.size = c.maxLocals)
    (d0 : decode cc pc = .ok (.new ik, 3)) (d3 : decode cc (pc + 3) = .ok (.dup, 1)) (d4 : decode cc (pc + 4) = .ok (.invokespecial ic, 3)) (d7 : decode cc (pc + 7) = .ok (.athrow, 1))
    (hout : ∀ x ∈ c.exceptionTable.toList, covers x (pc + 7) = false)
    (hRframes : names.length + 3 < R.frames) (hRlocals : (rest.map fun v => v.category).sum + (13 * (names.length + 1) + 42) ≤ R.locals) (hRcells : cells + 1 ≤ R.cells) (hRslots : slots + 6 ≤ R.slots) (hlocks : meth.locks = false)
    (hx : ∀ t : State, s.vm.Alike t.vm → H.size ≤ t.heap.size → (∀ q : Nat, q < H.size → t.heap[q]? = H[q]?) → XC cls s t)
    (hf : ∀ z ∈ locs, free z.base) (hc : cells + 1 ≤ mc) (hs : slots + 6 ≤ ms) :
    W p l e R s m args below meth c H locs cells slots (vx_MQ below Qc XC args s mc ms free) (F0 m pc ls rest) := by
  intro T hT X
  have htr : e.platform.stackTraces = false := (show e.platform.stackTraces = l.stackTraces by rw [X.admits.platform]).trans hl
  have Y := vx_rebase X (R' := { frames := R.frames, locals := R.locals, cells := 1, slots := 6 }) (Nat.le_refl _) (Nat.le_refl _) hRcells hRslots
  obtain ⟨s', hA⟩ : ∃ z, z = (T.setVm s.vm).setFrames (.invoking m args :: below) := ⟨_, rfl⟩
  rw [← hA] at Y
  have hvm : s'.vm = s.vm := by rw [hA]; rfl
  have hhp : s'.heap = H := by rw [hA]; exact hT
  have hW0 : s.WarmedH s'.vm := by rw [hvm]; exact State.WarmedH.refl s
  have hat' : ∀ w ∈ vx_at0 own ic cls names, w.before args s' = true := fun w hw => vx_ot_at hW0 hvm.symm (hgood w (List.mem_cons_of_mem _ (List.mem_cons_of_mem _ hw))) (hat w hw)
  have hk' : (Cond.classLink own ik cls).before args s' = true := vx_ot_at hW0 hvm.symm (hgood _ List.mem_cons_self) hk
  have hini' : (Cond.initialized cls).before args s' = true := vx_ot_at hW0 hvm.symm (hgood _ (List.mem_cons_of_mem _ List.mem_cons_self)) hini
  have hU' : vx_Zq Bundle.tN "UNASSIGNED_STACK" Bundle.steD A s' s'.heap := by rw [hhp]; exact vx_Zq.moved hW0.alike (hU.kept hS.2.1)
  have hN' : vx_Zq Bundle.tN "SUPPRESSED_SENTINEL" Bundle.listD A s' s'.heap := by rw [hhp]; exact vx_Zq.moved hW0.alike (hN.kept hS.2.1)
  have h : ∀ w ∈ Bundle.ownAtoms0 own ic cls names, w.before args s' = true := vx_own hat' (vx_isRefq hU'.1) (vx_isRefq hN'.1) hU'.2.word hN'.2.word
  have hown' : s'.vm.findClass own = some m.cls := by rw [hvm]; exact hown
  have hins : (Cond.instantiable cls 6).before args s' = true := h _ (by simp [Bundle.ownAtoms0])
  obtain ⟨vm₁, cX, kX, hfX, hkX, -, -, X₁, st1⟩ := Y.newCold hexec (own := own) (C := cls) (index := ik) (n := 6) hown' hk' hins hini'
    (g := F0 m pc ls rest) rfl (by rw [hb]; exact d0) (Nat.le_refl _) (Nat.le_refl _)
  generalize hT1 : (T.setVm vm₁).pushCell { cls := cX, slots := kX.instanceTypes.map defaultValue, vm := .none } = T1 at X₁ st1
  have hcat : (Value.ref T.heap.size).category = 1 := rfl
  have hcellA : T1.heap[T.heap.size]? = some (freshCell cX kX) := by rw [← hT1]; exact State.heap_pushCell_size _ _
  have d3' : decode c.code (pc + 3) = .ok (.dup, 1) := by rw [hb]; exact d3
  obtain ⟨U, hsteps, hrun, hend, hW, hsame, ce, hce, hO⟩ := X₁.ctorThrow0 hexec htr (own := own) (cls := cls) (names := names) (ic := ic) hown' hcls hnames h (fun x hx => nomatch hx) hfX hkX hcellA (by rw [hhp, hT]; exact Nat.le_refl _)
    (g := { method := m, pc := pc + 4, locals := ls, stack := .ref T.heap.size :: .ref T.heap.size :: rest, locked := none }) rfl hsize rfl rfl (rest := rest) rfl
    (by rw [hb]; exact d4) (by rw [hb]; exact d7) hout hRframes (by simp only [List.map_cons, List.sum_cons, hcat]; omega) hlocks
  obtain ⟨f1, f2⟩ := vx_frame hsame
  rw [hhp] at f1 f2
  have hWs : s.WarmedH U.vm := State.WarmedH.trans hW0 hW
  have hcl : s.vm.findClass cls = some ce.cls := by
    have h9 := hO.cls
    rw [hvm] at h9
    exact h9
  have hall : s.sameButNew ({ U with vm := s.vm } : State) locs mc ms := by
    subst hA
    obtain ⟨e1, e2⟩ := hsame
    rw [State.setFrames_setFrames] at e1
    have h2 : (T.setVm s.vm).sameButNew ({ U with vm := s.vm } : State) [] (0 + 1) (0 + 6) := ⟨e1, e2⟩
    have h3 := X.same.trans h2
    rw [List.append_nil] at h3
    exact h3.mono hc hs
  refine ⟨U, ?_, .threw T.heap.size, hrun, hend, Or.inr ⟨T.heap.size, rfl, cls, ce, locs, hx U hWs.alike f1 (fun q hq => f2 q hq (fun z hz => nomatch hz)), hce, hO.vm, hcl, hWs, hall, hf⟩⟩
  refine st1 _ ?_
  show Steps p.tables e below (T1.setTop { method := m, pc := pc + 3, locals := ls, stack := .ref T.heap.size :: rest, locked := none }) _
  jvm_step X₁.here [X₁.here.top, hexec, d3', Value.category]
  exact hsteps
/-- 'throw new E("text")': new; dup; ldc; invokespecial; athrow -/
theorem vx_throwS {cc : ByteArray} {pc : Nat} (hexec : p.tables.exec = Jvm.exec) (hb : c.code = cc) (hl : l.stackTraces = false) {own cls text : String} {names : List String} {ik is ic mc ms sa : Nat} {A : Nat → Prop}
    (hown : s.vm.findClass own = some m.cls) (hcls : Bundle.fit cls = true) (hnames : ∀ n ∈ names, Bundle.fit n = true)
    (hk : (Cond.classLink own ik cls).before args s = true) (hini : (Cond.initialized cls).before args s = true) (hstr : vk_R own is text sa s) (hat : ∀ w ∈ vx_atS own ic cls names, w.before args s = true)
    (hgood : ∀ w ∈ Cond.classLink own ik cls :: Cond.initialized cls :: vx_atS own ic cls names, vx_ot w = true)
    (hU : vx_Zq Bundle.tN "UNASSIGNED_STACK" Bundle.steD A s s.heap) (hN : vx_Zq Bundle.tN "SUPPRESSED_SENTINEL" Bundle.listD A s s.heap) (hS : va_S A s.heap H locs) (hsize : ls.size = c.maxLocals)
    (d0 : decode cc pc = .ok (.new ik, 3)) (d3 : decode cc (pc + 3) = .ok (.dup, 1)) (d4 : decode cc (pc + 4) = .ok (.ldc is, 2)) (d6 : decode cc (pc + 6) = .ok (.invokespecial ic, 3)) (d9 : decode cc (pc + 9) = .ok (.athrow, 1))
    (hout : ∀ x ∈ c.exceptionTable.toList, covers x (pc + 9) = false)
    (hRframes : names.length + 3 < R.frames) (hRlocals : (rest.map fun v => v.category).sum + (13 * (names.length + 1) + 43) ≤ R.locals) (hRcells : cells + 1 ≤ R.cells) (hRslots : slots + 6 ≤ R.slots) (hlocks : meth.locks = false)
    (hx : ∀ t : State, s.vm.Alike t.vm → H.size ≤ t.heap.size → (∀ q : Nat, q < H.size → t.heap[q]? = H[q]?) → XC cls s t)
    (hf : ∀ z ∈ locs, free z.base) (hc : cells + 1 ≤ mc) (hs : slots + 6 ≤ ms) :
    W p l e R s m args below meth c H locs cells slots (vx_MQ below Qc XC args s mc ms free) (F0 m pc ls rest) := by
  intro T hT X
  have htr : e.platform.stackTraces = false := (show e.platform.stackTraces = l.stackTraces by rw [X.admits.platform]).trans hl
  have Y := vx_rebase X (R' := { frames := R.frames, locals := R.locals, cells := 1, slots := 6 }) (Nat.le_refl _) (Nat.le_refl _) hRcells hRslots
  obtain ⟨s', hA⟩ : ∃ z, z = (T.setVm s.vm).setFrames (.invoking m args :: below) := ⟨_, rfl⟩
  rw [← hA] at Y
  have hvm : s'.vm = s.vm := by rw [hA]; rfl
  have hhp : s'.heap = H := by rw [hA]; exact hT
  have hW0 : s.WarmedH s'.vm := by rw [hvm]; exact State.WarmedH.refl s
  have hat' : ∀ w ∈ vx_atS own ic cls names, w.before args s' = true := fun w hw => vx_ot_at hW0 hvm.symm (hgood w (List.mem_cons_of_mem _ (List.mem_cons_of_mem _ hw))) (hat w hw)
  have hk' : (Cond.classLink own ik cls).before args s' = true := vx_ot_at hW0 hvm.symm (hgood _ List.mem_cons_self) hk
  have hini' : (Cond.initialized cls).before args s' = true := vx_ot_at hW0 hvm.symm (hgood _ (List.mem_cons_of_mem _ List.mem_cons_self)) hini
  have hU' : vx_Zq Bundle.tN "UNASSIGNED_STACK" Bundle.steD A s' s'.heap := by rw [hhp]; exact vx_Zq.moved hW0.alike (hU.kept hS.2.1)
  have hN' : vx_Zq Bundle.tN "SUPPRESSED_SENTINEL" Bundle.listD A s' s'.heap := by rw [hhp]; exact vx_Zq.moved hW0.alike (hN.kept hS.2.1)
  have h : ∀ w ∈ Bundle.ownAtoms own ic cls names, w.before args s' = true := vx_own hat' (vx_isRefq hU'.1) (vx_isRefq hN'.1) hU'.2.word hN'.2.word
  have hown' : s'.vm.findClass own = some m.cls := by rw [hvm]; exact hown
  have hins : (Cond.instantiable cls 6).before args s' = true := h _ (by simp [Bundle.ownAtoms])
  obtain ⟨vm₁, cX, kX, hfX, hkX, -, -, X₁, st1⟩ := Y.newCold hexec (own := own) (C := cls) (index := ik) (n := 6) hown' hk' hins hini'
    (g := F0 m pc ls rest) rfl (by rw [hb]; exact d0) (Nat.le_refl _) (Nat.le_refl _)
  generalize hT1 : (T.setVm vm₁).pushCell { cls := cX, slots := kX.instanceTypes.map defaultValue, vm := .none } = T1 at X₁ st1
  have hcat : (Value.ref T.heap.size).category = 1 := rfl
  have hcellA : T1.heap[T.heap.size]? = some (freshCell cX kX) := by rw [← hT1]; exact State.heap_pushCell_size _ _
  have d3' : decode c.code (pc + 3) = .ok (.dup, 1) := by rw [hb]; exact d3
  have d4' : decode c.code (pc + 4) = .ok (.ldc is, 2) := by rw [hb]; exact d4
  have hstr' : vk_R own is text sa s' := vk_R.warm hW0 hstr
  obtain ⟨U, hsteps, hrun, hend, hW, hsame, ce, hce, hO⟩ := X₁.ctorThrowS hexec htr (own := own) (cls := cls) (names := names) (ic := ic) hown' hcls hnames h (fun x hx => nomatch hx) hfX hkX hcellA (by rw [hhp, hT]; exact Nat.le_refl _) (msg := .ref sa) rfl
    (g := { method := m, pc := pc + 6, locals := ls, stack := .ref sa :: .ref T.heap.size :: .ref T.heap.size :: rest, locked := none }) rfl hsize rfl rfl (rest := rest) rfl
    (by rw [hb]; exact d6) (by rw [hb]; exact d9) hout hRframes (by simp only [List.map_cons, List.sum_cons, hcat]; omega) hlocks
  obtain ⟨f1, f2⟩ := vx_frame hsame
  rw [hhp] at f1 f2
  have hWs : s.WarmedH U.vm := State.WarmedH.trans hW0 hW
  have hcl : s.vm.findClass cls = some ce.cls := by
    have h9 := hO.cls
    rw [hvm] at h9
    exact h9
  have hall : s.sameButNew ({ U with vm := s.vm } : State) locs mc ms := by
    subst hA
    obtain ⟨e1, e2⟩ := hsame
    rw [State.setFrames_setFrames] at e1
    have h2 : (T.setVm s.vm).sameButNew ({ U with vm := s.vm } : State) [] (0 + 1) (0 + 6) := ⟨e1, e2⟩
    have h3 := X.same.trans h2
    rw [List.append_nil] at h3
    exact h3.mono hc hs
  refine ⟨U, ?_, .threw T.heap.size, hrun, hend, Or.inr ⟨T.heap.size, rfl, cls, ce, locs, hx U hWs.alike f1 (fun q hq => f2 q hq (fun z hz => nomatch hz)), hce, hO.vm, hcl, hWs, hall, hf⟩⟩
  refine st1 _ ?_
  show Steps p.tables e below (T1.setTop { method := m, pc := pc + 3, locals := ls, stack := .ref T.heap.size :: rest, locked := none }) _
  jvm_step X₁.here [X₁.here.top, hexec, d3', Value.category]
  exact X₁.ldcString hexec (own := own) (text := text) (index := is) (a := sa) hown' hstr'.1 hstr'.2
    (g := { method := m, pc := pc + 4, locals := ls, stack := .ref T.heap.size :: .ref T.heap.size :: rest, locked := none }) rfl d4' _ hsteps
/-- 'throw new E("text")', the text by a wide index -/
theorem vx_throwSW {cc : ByteArray} {pc : Nat} (hexec : p.tables.exec = Jvm.exec) (hb : c.code = cc) (hl : l.stackTraces = false) {own cls text : String} {names : List String} {ik is ic mc ms sa : Nat} {A : Nat → Prop}
    (hown : s.vm.findClass own = some m.cls) (hcls : Bundle.fit cls = true) (hnames : ∀ n ∈ names, Bundle.fit n = true)
    (hk : (Cond.classLink own ik cls).before args s = true) (hini : (Cond.initialized cls).before args s = true) (hstr : vk_R own is text sa s) (hat : ∀ w ∈ vx_atS own ic cls names, w.before args s = true)
    (hgood : ∀ w ∈ Cond.classLink own ik cls :: Cond.initialized cls :: vx_atS own ic cls names, vx_ot w = true)
    (hU : vx_Zq Bundle.tN "UNASSIGNED_STACK" Bundle.steD A s s.heap) (hN : vx_Zq Bundle.tN "SUPPRESSED_SENTINEL" Bundle.listD A s s.heap) (hS : va_S A s.heap H locs) (hsize : ls.size = c.maxLocals)
    (d0 : decode cc pc = .ok (.new ik, 3)) (d3 : decode cc (pc + 3) = .ok (.dup, 1)) (d4 : decode cc (pc + 4) = .ok (.ldc_w is, 3)) (d7 : decode cc (pc + 7) = .ok (.invokespecial ic, 3)) (d10 : decode cc (pc + 10) = .ok (.athrow, 1))
    (hout : ∀ x ∈ c.exceptionTable.toList, covers x (pc + 10) = false)
    (hRframes : names.length + 3 < R.frames) (hRlocals : (rest.map fun v => v.category).sum + (13 * (names.length + 1) + 43) ≤ R.locals) (hRcells : cells + 1 ≤ R.cells) (hRslots : slots + 6 ≤ R.slots) (hlocks : meth.locks = false)
    (hx : ∀ t : State, s.vm.Alike t.vm → H.size ≤ t.heap.size → (∀ q : Nat, q < H.size → t.heap[q]? = H[q]?) → XC cls s t)
    (hf : ∀ z ∈ locs, free z.base) (hc : cells + 1 ≤ mc) (hs : slots + 6 ≤ ms) :
    W p l e R s m args below meth c H locs cells slots (vx_MQ below Qc XC args s mc ms free) (F0 m pc ls rest) := by
  intro T hT X
  have htr : e.platform.stackTraces = false := (show e.platform.stackTraces = l.stackTraces by rw [X.admits.platform]).trans hl
  have Y := vx_rebase X (R' := { frames := R.frames, locals := R.locals, cells := 1, slots := 6 }) (Nat.le_refl _) (Nat.le_refl _) hRcells hRslots
  obtain ⟨s', hA⟩ : ∃ z, z = (T.setVm s.vm).setFrames (.invoking m args :: below) := ⟨_, rfl⟩
  rw [← hA] at Y
  have hvm : s'.vm = s.vm := by rw [hA]; rfl
  have hhp : s'.heap = H := by rw [hA]; exact hT
  have hW0 : s.WarmedH s'.vm := by rw [hvm]; exact State.WarmedH.refl s
  have hat' : ∀ w ∈ vx_atS own ic cls names, w.before args s' = true := fun w hw => vx_ot_at hW0 hvm.symm (hgood w (List.mem_cons_of_mem _ (List.mem_cons_of_mem _ hw))) (hat w hw)
  have hk' : (Cond.classLink own ik cls).before args s' = true := vx_ot_at hW0 hvm.symm (hgood _ List.mem_cons_self) hk
  have hini' : (Cond.initialized cls).before args s' = true := vx_ot_at hW0 hvm.symm (hgood _ (List.mem_cons_of_mem _ List.mem_cons_self)) hini
  have hU' : vx_Zq Bundle.tN "UNASSIGNED_STACK" Bundle.steD A s' s'.heap := by rw [hhp]; exact vx_Zq.moved hW0.alike (hU.kept hS.2.1)
  have hN' : vx_Zq Bundle.tN "SUPPRESSED_SENTINEL" Bundle.listD A s' s'.heap := by rw [hhp]; exact vx_Zq.moved hW0.alike (hN.kept hS.2.1)
  have h : ∀ w ∈ Bundle.ownAtoms own ic cls names, w.before args s' = true := vx_own hat' (vx_isRefq hU'.1) (vx_isRefq hN'.1) hU'.2.word hN'.2.word
  have hown' : s'.vm.findClass own = some m.cls := by rw [hvm]; exact hown
  have hins : (Cond.instantiable cls 6).before args s' = true := h _ (by simp [Bundle.ownAtoms])
  obtain ⟨vm₁, cX, kX, hfX, hkX, -, -, X₁, st1⟩ := Y.newCold hexec (own := own) (C := cls) (index := ik) (n := 6) hown' hk' hins hini'
    (g := F0 m pc ls rest) rfl (by rw [hb]; exact d0) (Nat.le_refl _) (Nat.le_refl _)
  generalize hT1 : (T.setVm vm₁).pushCell { cls := cX, slots := kX.instanceTypes.map defaultValue, vm := .none } = T1 at X₁ st1
  have hcat : (Value.ref T.heap.size).category = 1 := rfl
  have hcellA : T1.heap[T.heap.size]? = some (freshCell cX kX) := by rw [← hT1]; exact State.heap_pushCell_size _ _
  have d3' : decode c.code (pc + 3) = .ok (.dup, 1) := by rw [hb]; exact d3
  have d4' : decode c.code (pc + 4) = .ok (.ldc_w is, 3) := by rw [hb]; exact d4
  have hstr' : vk_R own is text sa s' := vk_R.warm hW0 hstr
  obtain ⟨U, hsteps, hrun, hend, hW, hsame, ce, hce, hO⟩ := X₁.ctorThrowS hexec htr (own := own) (cls := cls) (names := names) (ic := ic) hown' hcls hnames h (fun x hx => nomatch hx) hfX hkX hcellA (by rw [hhp, hT]; exact Nat.le_refl _) (msg := .ref sa) rfl
    (g := { method := m, pc := pc + 7, locals := ls, stack := .ref sa :: .ref T.heap.size :: .ref T.heap.size :: rest, locked := none }) rfl hsize rfl rfl (rest := rest) rfl
    (by rw [hb]; exact d7) (by rw [hb]; exact d10) hout hRframes (by simp only [List.map_cons, List.sum_cons, hcat]; omega) hlocks
  obtain ⟨f1, f2⟩ := vx_frame hsame
  rw [hhp] at f1 f2
  have hWs : s.WarmedH U.vm := State.WarmedH.trans hW0 hW
  have hcl : s.vm.findClass cls = some ce.cls := by
    have h9 := hO.cls
    rw [hvm] at h9
    exact h9
  have hall : s.sameButNew ({ U with vm := s.vm } : State) locs mc ms := by
    subst hA
    obtain ⟨e1, e2⟩ := hsame
    rw [State.setFrames_setFrames] at e1
    have h2 : (T.setVm s.vm).sameButNew ({ U with vm := s.vm } : State) [] (0 + 1) (0 + 6) := ⟨e1, e2⟩
    have h3 := X.same.trans h2
    rw [List.append_nil] at h3
    exact h3.mono hc hs
  refine ⟨U, ?_, .threw T.heap.size, hrun, hend, Or.inr ⟨T.heap.size, rfl, cls, ce, locs, hx U hWs.alike f1 (fun q hq => f2 q hq (fun z hz => nomatch hz)), hce, hO.vm, hcl, hWs, hall, hf⟩⟩
  refine st1 _ ?_
  show Steps p.tables e below (T1.setTop { method := m, pc := pc + 3, locals := ls, stack := .ref T.heap.size :: rest, locked := none }) _
  jvm_step X₁.here [X₁.here.top, hexec, d3', Value.category]
  exact X₁.ldcStringW hexec (own := own) (text := text) (index := is) (a := sa) hown' hstr'.1 hstr'.2
    (g := { method := m, pc := pc + 4, locals := ls, stack := .ref T.heap.size :: .ref T.heap.size :: rest, locked := none }) rfl d4' _ hsteps
end Ends
section Bodies
variable {l : Launch}
theorem vx_ofW {y : MethodName} {ws ws' : List Cond} {rm : Room} {Pc : Array Value → State → Prop} {Qc : Array Value → State → Outcome → State → Prop} {XC : String → State → State → Prop} {mc ms : Nat} {free : Addr → Prop} {cc : ByteArray} {maxL : Nat} {ret : Option FieldType}
    (hy : plainName y.cls = true) (hw : ws = Cond.code y cc maxL ret :: ws')
    (body : ∀ p e s m args below meth c s₁, BodyLoose p l y (headSpec ws rm) cc maxL ret e s m args below meth c s₁ → c.maxLocals = maxL → (∀ x ∈ c.exceptionTable.toList, False) → Pc args s →
      W p l e (headSpec ws rm).room s m args below meth c s.heap [] 0 0 (vx_MQ below Qc XC args s mc ms free) (entryFrame m args maxL)) : vx_Met l y ws rm Pc Qc XC mc ms free := by
  refine MetFree.of_bodyS (code := cc) (maxLocals := maxL) (ret := ret) hy ?_ ?_
  · intro args s m h hn
    obtain ⟨meth, c, h1, h2, h3, h4, h5, h6, -, -⟩ := Cond.code_spec hn (atoms_spec (ws := ws) h _ (by rw [hw]; exact List.mem_cons_self))
    exact ⟨meth, c, h1, h2, h3, h4, h5, h6⟩
  · intro p e s m args below meth c s₁ B hml hP _
    have hh0 : s₁.heap = s.heap := by rw [B.state]; rfl
    have ht : ∀ x ∈ c.exceptionTable.toList, False := by
      obtain ⟨meth9, c9, h1, h2, -, -, -, -, h7, -⟩ := Cond.code_spec B.named (atoms_spec (ws := ws) B.pre _ (by rw [hw]; exact List.mem_cons_self))
      cases Option.some.inj (h1.symm.trans B.method)
      cases Option.some.inj (h2.symm.trans (Stand.of_body B).code)
      intro x hx
      rw [Array.isEmpty_iff.mp h7] at hx
      cases hx
    obtain ⟨t, a1, o, b1, b2, b3⟩ := body p e s m args below meth c s₁ B hml ht hP s₁ hh0 (Stand.of_body B)
    exact ⟨t, o, a1, b1, b2, b3⟩
/-- the table of a body with handlers -/
theorem vx_table {p : Program} {x y : MethodName} {S : Spec} {cc bytes : ByteArray} {maxL maxL' : Nat} {ret ret' : Option FieldType} {e : Env} {s s₁ : State} {m : MethodId} {args : Array Value} {below : List Frame} {meth : Method} {c : Code} {hh : List (Nat × Nat × Nat × Nat)}
    (B : BodyLoose p l y S cc maxL ret e s m args below meth c s₁) (h : (Cond.codeWith y bytes maxL' ret' hh).before args s = true) : c.exceptionTable.toList = tableOf hh := by
  obtain ⟨m9, meth9, c9, hn9, h1, h2, -, -, h6, -⟩ := Cond.codeWith_spec h
  cases Option.some.inj (hn9.symm.trans B.named)
  cases Option.some.inj (h1.symm.trans B.method)
  cases Option.some.inj (h2.symm.trans (Stand.of_body B).code)
  rw [← h6, table_eq]
end Bodies
end VXA
/-! ===== END ===== -/
/-! ===== BEGIN a static call of a method with an exception table ===== -/
section VXS
variable {p : Program} {l : Launch} {e : Env} {R : Room} {s : State} {m : MethodId} {args : Array Value} {below : List Frame} {meth : Method} {c : Code} {T : State} {H : Heap} {locs : List Loc} {cells slots : Nat}
abbrev vx_CSW (R : Room) (s : State) (args : Array Value) (own : String) (index : Nat) (y : MethodName) (bytes : ByteArray) (maxL : Nat) (ret : Option FieldType) (hh : List (Nat × Nat × Nat × Nat)) (ws : List Cond) (rm : Room) (mc ms n : Nat) : Prop :=
  (rm.cells = mc ∧ rm.slots = ms ∧ rm.frames + 1 ≤ R.frames ∧ 8 + (maxL + 11) + rm.locals ≤ R.locals ∧ (∀ w ∈ ws, ∀ (a' : Array Value) (U : State), s.WarmedH U.vm → w.before a' U = true) ∧ Cond.codeWith y bytes maxL ret hh ∈ ws) ∧
  (Cond.codeWith y bytes maxL ret hh).before args s = true ∧ (Cond.initialized y.cls).before args s = true ∧ (y.cls ≠ "java/lang/invoke/MethodHandle" ∧ y.cls ≠ "java/lang/invoke/VarHandle") ∧
  (∀ sig, parseMethodDescriptor y.desc = some sig → n = sig.parameters.length) ∧ (Cond.methodLink own index y).before args s = true ∧ (Cond.static y).before args s = true
theorem vx_cwSW {own : String} {index maxL mc ms : Nat} {y : MethodName} {bytes : ByteArray} {ret : Option FieldType} {hh : List (Nat × Nat × Nat × Nat)} {Ts ws ws' : List Cond} {rm : Room} (n : Nat) (ht : ∀ w ∈ Ts, w.before args s = true) (hT : GoodIn Ts (va_wsS own index y ws)) (hw : ws = Cond.codeWith y bytes maxL ret hh :: ws') (hrc : rm.cells = mc) (hrs : rm.slots = ms)
    (hd : y.cls ≠ "java/lang/invoke/MethodHandle" ∧ y.cls ≠ "java/lang/invoke/VarHandle" ∧ (parseMethodDescriptor y.desc).map (fun d => d.parameters.length) = some n) (hR : rm.frames + 1 ≤ R.frames ∧ 8 + (maxL + 11) + rm.locals ≤ R.locals) :
    vx_CSW R s args own index y bytes maxL ret hh ws rm mc ms n := by
  have ok : ∀ w ∈ va_wsS own index y ws, w.before args s = true := fun w h => ht w (hT w h).1
  have hG : GoodIn Ts ws := fun w h => hT w (by unfold va_wsS; exact List.mem_append_right _ h)
  have hc : Cond.codeWith y bytes maxL ret hh ∈ ws := by rw [hw]; exact List.mem_cons_self
  refine ⟨⟨hrc, hrs, hR.1, hR.2, pay_in ht hG, hc⟩, ht _ (hG _ hc).1, ok _ (by simp [va_wsS]), ⟨hd.1, hd.2.1⟩, fun sig h => ?_, ok _ (by simp [va_wsS]), ok _ (by simp [va_wsS])⟩
  have h2 := hd.2.2
  rw [h] at h2
  exact (Option.some.inj h2).symm
theorem vx_callSW (X : Stand p l e R s m args below meth c T locs cells slots) (hexec : p.tables.exec = Jvm.exec) {own : String} {index : Nat} {y : MethodName} {bytes : ByteArray} {maxL : Nat} {ret : Option FieldType} {hh : List (Nat × Nat × Nat × Nat)}
    (hown : s.vm.findClass own = some m.cls) (hlink : (Cond.methodLink own index y).before args s = true) (hstat : (Cond.static y).before args s = true) (hinit : (Cond.initialized y.cls).before args s = true)
    (hcode : (Cond.codeWith y bytes maxL ret hh).before args s = true) (hy : y.cls ≠ "java/lang/invoke/MethodHandle" ∧ y.cls ≠ "java/lang/invoke/VarHandle")
    {W9 : Nat} {Pre : Pt → Array Value → Prop} {Post : Pt → Array Value → Option Value → Pt → Prop} (hK : Back l R p e below s args y 3 W9 Pre Post)
    {g : JFrame} (hg : g.method = m) (hsize : g.locals.size = c.maxLocals) {argsL rest : List Value} (hlen : ∀ sig, parseMethodDescriptor y.desc = some sig → argsL.length = sig.parameters.length)
    (hstack : g.stack = argsL.reverse ++ rest) (hW : 2 * g.monitorRoom + (rest.map fun v => v.category).sum ≤ W9) (hdg : decode c.code g.pc = .ok (.invokestatic index, 3))
    (hpre : ∀ vm₁, s.WarmedH vm₁ → Pre ⟨T.setVm vm₁, locs, cells, slots⟩ argsL.toArray) :
    ∃ (v : Option Value) (vm₁ : Vm) (B : Pt), s.WarmedH vm₁ ∧ Stand p l e R s m args below meth c B.U B.locs B.cells B.slots ∧ Post ⟨T.setVm vm₁, locs, cells, slots⟩ argsL.toArray v B ∧
      ∀ target, Steps p.tables e below (B.U.setTop { g with pc := g.pc + 3, stack := v.toList ++ rest }) target → Steps p.tables e below (T.setTop g) target := by
  obtain ⟨mk, methM, cM, hnamed, hmethM, -, -, -, -, -, -, hsigM⟩ := Cond.codeWith_spec hcode
  have hstatic : methM.isStatic = true := Cond.static_spec hnamed hmethM hstat
  obtain ⟨kP, hkP, -⟩ := className_of_methodNamed hnamed
  have hinitP : kP.init = .initialized := Cond.initialized_spec (findClass_of_methodNamed hnamed) hkP hinit
  obtain ⟨vm₁, X₁, hstep₁⟩ := X.invokestatic hexec hown hlink hnamed hmethM hstatic hkP hinitP hy (g := g) hg (argsL := argsL) (rest := rest) (hlen _ hsigM) hstack hdg
  obtain ⟨v, B, X', hpost, hsteps⟩ := hK m meth c ⟨T.setVm vm₁, locs, cells, slots⟩ { g with stack := rest } (.invokestatic index) mk argsL.toArray X₁ hg hsize hdg hW (X₁.named hnamed) (hpre vm₁ X₁.warmed)
  exact ⟨v, vm₁, B, X₁.warmed, X', hpost, fun target h => hstep₁ _ fun acts => by rw [doInvoke_state]; exact hsteps.trans h⟩
theorem vx_runSW {y : MethodName} {bytes cc : ByteArray} {maxL nL mc ms n index : Nat} {ret : Option FieldType} {hh : List (Nat × Nat × Nat × Nat)} {ws : List Cond} {rm : Room} {Pc : Array Value → State → Prop} {Qc : Array Value → State → Outcome → State → Prop} {free : Addr → Prop} {Ts : List Cond} {own : String} {As rest : List Value} {g : JFrame}
    (S : CallFix p m c cc nL s args Ts own) (hM : Met l y ws rm Pc Qc mc ms free) (cw : vx_CSW R s args own index y bytes maxL ret hh ws rm mc ms n) (hp : PreS s H Pc As)
    (hg : g.method = m) (hn : As.length = n) (hsize : g.locals.size = nL) (hstack : g.stack = As.reverse ++ rest) (hW : 2 * g.monitorRoom + (rest.map fun v => v.category).sum ≤ 8) (hdg : decode cc g.pc = .ok (.invokestatic index, 3)) (hf : cells + mc ≤ R.cells ∧ slots + ms ≤ R.slots) :
    va_Run p l e R s m args below meth c H locs cells slots mc ms g rest (Qc As.toArray) (free) := by
  obtain ⟨⟨hrc, hrs, hfr, hlo, hws, hcw⟩, hcode, hini, hy, hlen, hl, hstt⟩ := cw
  have hK : Back l R p e below s args y 3 8 (PreOf R mc ms Pc) (PostOf Qc mc ms free) := va_backW (hh := hh) (bytes := bytes) (maxL := maxL) (ret := ret) hM hp.1 hrc hrs hfr hlo hws hcw (fun a' U hW => word_at hW (Or.inl (by first | rfl | simp [Cond.onTables, Cond.keeps, Cond.steady])) hini)
  obtain ⟨hx, hb, hml, ho, -⟩ := S
  intro T hT X
  obtain ⟨v, vm₁, ⟨U', l2, c2, s2⟩, hW₁, X', ⟨g', mk, t, L, e1, e2, hq, h1, hL, h2, h3⟩, st⟩ := vx_callSW X hx (hh := hh) (bytes := bytes) (maxL := maxL) (ret := ret) ho hl hstt hini hcode hy hK hg (hsize.trans hml.symm) (argsL := As) (rest := rest) (fun sig h => hn.trans (hlen sig h)) hstack hW (by rw [hb]; exact hdg)
    (fun vm₁ hW₁ => ⟨hf.1, hf.2, hp.2 (T.setVm vm₁) hT hW₁⟩)
  dsimp only [Pt.U, Pt.locs, Pt.cells, Pt.slots] at X' e1 e2 h1 h2 h3 st
  subst h1; subst h2; subst h3
  exact ⟨v, (T.setVm vm₁).calling g' mk As.toArray, t, U', L, hT, X', hL, e1, e2, hq, st⟩
/-- not caught here, past rows that name other classes: it goes on to the caller -/
theorem vx_outP {p : Program} {l : Launch} {e : Env} {R : Room} {s : State} {m : MethodId} {args : Array Value} {below : List Frame} {meth : Method} {c : Code} {H : Heap} {locs : List Loc} {cells slots : Nat} {free : Addr → Prop} {ls : Array Slot} {rest : List Value} {Qc : Array Value → State → Outcome → State → Prop} {XC : String → State → State → Prop}
    {pc : Nat} {own E : String} {ce : Cell} {q : Addr} {mc ms : Nat} (hown : s.vm.findClass own = some m.cls) (hlocks : meth.locks = false)
    (hpass : ∀ z ∈ c.exceptionTable.toList, covers z pc = false ∨ (z.catchType ≠ 0 ∧ ∃ nm : String, (Cond.classLink own z.catchType nm).before args s = true ∧ va_Nc E nm s)) (hcell : H[q]? = some ce) (hv : ce.vm = .none) (hcl : s.vm.findClass E = some ce.cls)
    (hx : ∀ t : State, t.heap = H → s.vm.Alike t.vm → XC E s t) (hf : ∀ z ∈ locs, free z.base) (hc : cells ≤ mc) (hs : slots ≤ ms) :
    vx_W p l e R s m args below meth c H locs cells slots (vx_MQ below Qc XC args s mc ms free) (F0 m pc ls rest) q := by
  intro T hT X
  have hpl : e.platform.magicAccessors = ({} : Platform).magicAccessors := by rw [X.admits.platform]
  obtain ⟨vm', hW', X', st⟩ := X.outThrough hlocks q (g := F0 m pc ls rest) rfl rfl rfl (cell := ce) (by rw [hT]; exact hcell) (by rw [hv]; rfl)
    (by obtain ⟨k9, h9, -⟩ := Vm.findClass_spec hcl; exact ⟨k9, h9⟩) (fun z hz => by
      rcases hpass z hz with h | ⟨hz0, nm, hl1, hn1⟩
      · exact Or.inl h
      · obtain ⟨c6, hc6, hcl6⟩ := Cond.classLink_spec hown hl1 e.platform hpl
        obtain ⟨a8, b8, h1, h2, h3⟩ := hn1
        cases Option.some.inj (h1.symm.trans hcl)
        cases Option.some.inj (h2.symm.trans hc6)
        exact Or.inr ⟨hz0, _, hcl6, h3⟩)
  obtain ⟨g₀, hfr⟩ := X'.frames_eq
  have hcell9 : ((T.setVm vm').setFrames (.throwing q :: below)).heap[q]? = some ce := by
    show T.heap[q]? = some ce
    rw [hT]; exact hcell
  have hend : Ended ((T.setVm vm').setFrames (.throwing q :: below)) below (.threw q) := State.frames_setFrames _ (State.cur_lt_of_frames hfr)
  refine ⟨(T.setVm vm').setFrames (.throwing q :: below), ?_, .threw q, X'.here.running, hend, Or.inr ⟨q, rfl, E, ce, locs, hx _ hT (X'.ends _).1.alike, hcell9, hv, hcl, (X'.ends _).1, (X'.ends _).2.mono hc hs, hf⟩⟩
  rw [X.pushThrowing_eq]
  exact st
/-- a thing of a world lies in the heap -/
theorem vx_lt {D : va_G} {cl : List vw_C} {ws : va_W} {H1 : Heap} (h : va_P D cl ws H1) {k : Nat} {q : Nat × va_E} (hk : ws[k]? = some q) : q.1 < H1.size := (h k q hk).lt
end VXS
/-! ===== END ===== -/
/-! ===== BEGIN methods with a table of their own: called by a name, returning or throwing ===== -/
section VXH
/-! vx_backW, vx_callVX, vx_callSX, vx_callVW, vx_runVW, vx_runVX, vx_runSX, vx_ofWH follow the same proofs as their sisters above (Free/Laws.lean, Shelf42/LK1.lean); vx_outP calls Shelf42/NT130.lean (outThrough). -/
section
variable {l : Launch} {R : Room} {p : Program} {e : Env} {below : List Frame} {s : State} {sargs : Array Value} {y : MethodName} {len W9 : Nat}
theorem vx_backW {ws : List Cond} {rm : Room} {Pc : Array Value → State → Prop} {Qc : Array Value → State → Outcome → State → Prop} {XC : String → State → State → Prop} {mc ms : Nat} {free : Addr → Prop} {bytes : ByteArray} {maxL : Nat} {ret : Option FieldType} {hh : List (Nat × Nat × Nat × Nat)}
    (hM : vx_Met l y ws rm Pc Qc XC mc ms free) (hblind : FrameBlind Pc) (hrc : rm.cells = mc) (hrs : rm.slots = ms)
    (hframes : rm.frames + 1 ≤ R.frames) (hlocals : W9 + (maxL + 11) + rm.locals ≤ R.locals)
    (hws : ∀ w ∈ ws, ∀ a' U, s.WarmedH U.vm → w.before a' U = true) (hcode : Cond.codeWith y bytes maxL ret hh ∈ ws) (hinit : ∀ a' U, s.WarmedH U.vm → (Cond.initialized y.cls).before a' U = true) :
    vx_Back l R p e below s sargs y len W9 (PreOf R mc ms Pc) (PostOf Qc mc ms free) (vx_Post XC mc ms free) := by
  intro m meth c A g ig mk a X hg hsize hdg hW hn hp
  have h1 : (headSpec ws rm).pre.before a A.U = true := atoms_intro fun w hw => hws w hw _ _ X.warmed
  have h2 : (Cond.codeWith y bytes maxL ret hh).before a A.U = true := hws _ hcode _ _ X.warmed
  have h3 : (Cond.initialized y.cls).before a A.U = true := hinit _ _ X.warmed
  have h4 : A.cells + (headSpec ws rm).room.cells ≤ R.cells := by rw [show (headSpec ws rm).room.cells = mc from hrc]; exact hp.1
  have h5 : A.slots + (headSpec ws rm).room.slots ≤ R.slots := by rw [show (headSpec ws rm).room.slots = ms from hrs]; exact hp.2.1
  have hPc : Pc a (A.U.calling g mk a) := hblind _ _ _ _ hp.2.2
  obtain ⟨U, Ls, c0, s0⟩ := A
  dsimp only [Pt.U, Pt.locs, Pt.cells, Pt.slots] at h1 h2 h3 h4 h5 X hn hPc ⊢
  obtain ⟨m9, methY, cY, hn9, hmY, hcY, -, hlY, -⟩ := Cond.codeWith_spec h2
  cases Option.some.inj (hn9.symm.trans hn)
  obtain ⟨kY, hkY, -⟩ := className_of_methodNamed hn
  have hinitY : kY.init = .initialized := Cond.initialized_spec (findClass_of_methodNamed hn) hkY h3
  have h : At U g.method c below := by rw [hg]; exact X.here
  have hlocals9 : W9 + (maxL + 11) + (headSpec ws rm).room.locals ≤ R.locals := hlocals
  have happ : (headSpec ws rm).appliesLoose y e.platform (U.calling g mk a) = true :=
    Spec.appliesLoose_calling (g := g) h hdg hn hkY hinitY
      (X.room_calling (g := g) (R' := (headSpec ws rm).room) hsize hmY hcY hframes (by rw [hlY]; omega) h4 h5) h1
  obtain ⟨mid, hmid⟩ := h.above
  have hfr : (U.setTop g).frames = (.java g :: mid) ++ below := by rw [State.frames_setTop' g h.top, hmid]; rfl
  obtain ⟨o, s₂, hsteps, -, hend, hq⟩ := Steps.callFree hM p X.admits X.cas X.clock (acts := []) hfr happ hPc trivial
  have hq' : vx_Q Qc XC mc ms free a (U.calling g mk a) o s₂ := hq
  rw [State.frames_setTop' g h.top] at hend
  obtain ⟨g₀, hg0⟩ := Option.isSome_iff_exists.mp h.top
  obtain ⟨r, hr⟩ := State.topJava?_eq_some.mp hg0
  have hr' : (({ U with heap := s₂.heap, slotsUsed := s₂.slotsUsed } : State).setVm s₂.vm).frames = .java g₀ :: r := hr
  rcases hq' with ⟨hqc, L, hfe, hL⟩ | ⟨q, rfl, E, ce, L, hx, hce, hcv, hcl, hW₂, hsm, hL⟩
  · obtain ⟨⟨v, rfl⟩, hW₂, e2, q2, q3, q4, q5, q6⟩ := id hfe
    have e3 : s₂ = ({ (U.calling g mk a).setFrames s₂.frames with heap := s₂.heap, slotsUsed := s₂.slotsUsed } : State).setVm s₂.vm := by
      have : s₂ = ({ s₂ with vm := (U.calling g mk a).vm } : State).setVm s₂.vm := rfl
      rw [e2] at this
      exact this
    obtain ⟨c₂, i₂, len₂, hc₂, hd₂, hf₂⟩ := hend
    have hW' : U.WarmedH s₂.vm := hW₂
    have hcc : c₂ = c := by
      have h1 : s₂.code? g.method = U.code? g.method := by
        rw [State.code?_eq, State.code?_eq, hW'.alike.method?]
      exact Option.some.inj (hc₂.symm.trans (h1.trans h.code))
    subst hcc
    have hlen : len₂ = len := by rw [hdg] at hd₂; cases hd₂; rfl
    subst hlen
    have hs₂ : s₂ = (({ U with heap := s₂.heap, slotsUsed := s₂.slotsUsed } : State).setVm s₂.vm).setTop { g with pc := g.pc + len₂, stack := v.toList ++ g.stack } := by
      refine e3.trans ?_
      rw [hf₂, State.calling_eq h.top, State.setFrames_setFrames, State.setTop_of_frames _ hr', hr]
      rfl
    have hsame : U.sameButNew ({ U with heap := s₂.heap, slotsUsed := s₂.slotsUsed } : State) L mc ms := by
      refine ⟨?_, q2, q3, q4, q5, q6⟩
      obtain ⟨t, ht, -⟩ := State.frames_cons hr
      show ({ U with heap := s₂.heap, slotsUsed := s₂.slotsUsed } : State) = { U.setFrames U.frames with heap := s₂.heap, slotsUsed := s₂.slotsUsed }
      rw [State.setFrames_self ht]
    subst hg
    refine Or.inl ⟨v, ⟨(({ U with heap := s₂.heap, slotsUsed := s₂.slotsUsed } : State).setVm s₂.vm), Ls ++ L, c0 + mc, s0 + ms⟩,
      ⟨X.admits, X.cas, X.clock, X.frames, X.room, X.hears, X.method, X.code, (X.here.setHeapUsed s₂.heap s₂.slotsUsed).setVm hW'.alike, X.tail, State.WarmedH.trans X.warmed hW', X.limits, X.bytes, X.same.trans (hsame.setVm s.vm)⟩,
      ⟨g, mk, s₂, L, rfl, rfl, hqc, rfl, hL, rfl, rfl⟩, ?_⟩
    show Steps p.tables e below _ ((({ U with heap := s₂.heap, slotsUsed := s₂.slotsUsed } : State).setVm s₂.vm).setTop { g with pc := g.pc + len₂, stack := v.toList ++ g.stack })
    rw [← hs₂]
    exact hsteps
  · obtain ⟨e2, q2, q3, q4, q5, q6⟩ := id hsm
    have e3 : s₂ = ({ (U.calling g mk a).setFrames s₂.frames with heap := s₂.heap, slotsUsed := s₂.slotsUsed } : State).setVm s₂.vm := by
      have : s₂ = ({ s₂ with vm := (U.calling g mk a).vm } : State).setVm s₂.vm := rfl
      rw [e2] at this
      exact this
    have hf₂ : s₂.frames = .throwing q :: .java g :: U.frames.tail := hend
    have hW' : U.WarmedH s₂.vm := hW₂
    have hs₂ : s₂ = ((({ U with heap := s₂.heap, slotsUsed := s₂.slotsUsed } : State).setVm s₂.vm).setTop g).pushFrame (.throwing q) := by
      refine e3.trans ?_
      rw [hf₂, State.calling_eq h.top, State.setFrames_setFrames, State.pushFrame, State.frames_setTop _ hr', State.setTop_of_frames _ hr', State.setFrames_setFrames, hr]
      rfl
    have hsame : U.sameButNew ({ U with heap := s₂.heap, slotsUsed := s₂.slotsUsed } : State) L mc ms := by
      refine ⟨?_, q2, q3, q4, q5, q6⟩
      obtain ⟨t, ht, -⟩ := State.frames_cons hr
      show ({ U with heap := s₂.heap, slotsUsed := s₂.slotsUsed } : State) = { U.setFrames U.frames with heap := s₂.heap, slotsUsed := s₂.slotsUsed }
      rw [State.setFrames_self ht]
    subst hg
    refine Or.inr ⟨q, ⟨(({ U with heap := s₂.heap, slotsUsed := s₂.slotsUsed } : State).setVm s₂.vm), Ls ++ L, c0 + mc, s0 + ms⟩,
      ⟨X.admits, X.cas, X.clock, X.frames, X.room, X.hears, X.method, X.code, (X.here.setHeapUsed s₂.heap s₂.slotsUsed).setVm hW'.alike, X.tail, State.WarmedH.trans X.warmed hW', X.limits, X.bytes, X.same.trans (hsame.setVm s.vm)⟩,
      ⟨g, mk, s₂, L, E, ce, rfl, rfl, hx, hce, hcv, hcl, rfl, hL, rfl, rfl⟩, ?_⟩
    show Steps p.tables e below _ (((({ U with heap := s₂.heap, slotsUsed := s₂.slotsUsed } : State).setVm s₂.vm).setTop g).pushFrame (.throwing q))
    rw [← hs₂]
    exact hsteps
end
variable {p : Program} {l : Launch} {e : Env} {R : Room} {s : State} {m : MethodId} {args : Array Value} {below : List Frame} {meth : Method} {c : Code} {T : State} {H : Heap} {locs : List Loc} {cells slots : Nat}
theorem vx_callVX (X : Stand p l e R s m args below meth c T locs cells slots) (hexec : p.tables.exec = Jvm.exec) {own C : String} {index : Nat} {y : MethodName} {bytes : ByteArray} {maxL : Nat} {ret : Option FieldType} {hh : List (Nat × Nat × Nat × Nat)}
    (hown : s.vm.findClass own = some m.cls) (hlink : (Cond.methodLink own index y).before args s = true) (hinst : (Cond.instanceMethod y).before args s = true) (hsel : (Cond.selects C y y).before args s = true)
    (hcode : (Cond.codeWith y bytes maxL ret hh).before args s = true) (hy : y.cls ≠ "java/lang/invoke/MethodHandle" ∧ y.cls ≠ "java/lang/invoke/VarHandle")
    {W9 : Nat} {Pre : Pt → Array Value → Prop} {Post : Pt → Array Value → Option Value → Pt → Prop} {PostX : Pt → Array Value → Addr → Pt → Prop} (hK : vx_Back l R p e below s args y 3 W9 Pre Post PostX)
    {b : Addr} {cellB : Cell} (hcell : T.heap[b]? = some cellB) (hobj : cellB.vm.isStatics = false) (hcls : s.vm.findClass C = some cellB.cls)
    {g : JFrame} (hg : g.method = m) (hsize : g.locals.size = c.maxLocals) {argsL rest : List Value} (hlen : ∀ sig, parseMethodDescriptor y.desc = some sig → argsL.length = sig.parameters.length)
    (hstack : g.stack = argsL.reverse ++ .ref b :: rest) (hW : 2 * g.monitorRoom + (rest.map fun v => v.category).sum ≤ W9) (hdg : decode c.code g.pc = .ok (.invokevirtual index, 3))
    (hpre : ∀ vm₁, s.WarmedH vm₁ → Pre ⟨T.setVm vm₁, locs, cells, slots⟩ (Value.ref b :: argsL).toArray) :
    (∃ (v : Option Value) (vm₁ : Vm) (B : Pt), s.WarmedH vm₁ ∧ Stand p l e R s m args below meth c B.U B.locs B.cells B.slots ∧ Post ⟨T.setVm vm₁, locs, cells, slots⟩ (Value.ref b :: argsL).toArray v B ∧
      ∀ target, Steps p.tables e below (B.U.setTop { g with pc := g.pc + 3, stack := v.toList ++ rest }) target → Steps p.tables e below (T.setTop g) target) ∨
    (∃ (q : Addr) (vm₁ : Vm) (B : Pt), s.WarmedH vm₁ ∧ Stand p l e R s m args below meth c B.U B.locs B.cells B.slots ∧ PostX ⟨T.setVm vm₁, locs, cells, slots⟩ (Value.ref b :: argsL).toArray q B ∧
      Steps p.tables e below (T.setTop g) ((B.U.setTop { g with stack := rest }).pushFrame (.throwing q))) := by
  obtain ⟨mk, methM, hnamed, hmethM, hstM, habM⟩ := Cond.instanceMethod_spec hinst
  obtain ⟨m8, methM', cM, hn8, hmethM', -, -, -, -, -, -, hsigM⟩ := Cond.codeWith_spec hcode
  cases Option.some.inj (hn8.symm.trans hnamed)
  cases hmethM.symm.trans hmethM'
  obtain ⟨c2, r2, m2, q1, q2, q3, q4, kP, hkP, hkPi⟩ := Cond.selects_spec hsel
  cases hcls.symm.trans q1
  cases (State.methodFound?_of_named hnamed hy).symm.trans q2
  cases hnamed.symm.trans q3
  have hselP : selectMethod e.platform s.vm cellB.cls mk = .method mk := by rw [Launch.admits_selectMethod X.admits]; exact q4
  obtain ⟨vm₁, X₁, hstep₁⟩ := X.invokevirtual hexec hown hlink hnamed hmethM hstM hkP hkPi hy (a := b) (cell := cellB) hcell
    (fun z h => by rw [h] at hobj; cases hobj) hselP hmethM habM hkP hkPi (g := g) hg (argsL := argsL) (rest := rest) (hlen _ hsigM) hstack hdg
  rcases hK m meth c ⟨T.setVm vm₁, locs, cells, slots⟩ { g with stack := rest } (.invokevirtual index) mk (Value.ref b :: argsL).toArray X₁ hg hsize hdg hW (X₁.named hnamed) (hpre vm₁ X₁.warmed) with ⟨v, B, X', hpost, hsteps⟩ | ⟨q, B, X', hpost, hsteps⟩
  · exact Or.inl ⟨v, vm₁, B, X₁.warmed, X', hpost, fun target h => hstep₁ _ fun acts => by rw [doInvoke_state]; exact hsteps.trans h⟩
  · exact Or.inr ⟨q, vm₁, B, X₁.warmed, X', hpost, hstep₁ _ fun acts => by rw [doInvoke_state]; exact hsteps⟩
theorem vx_callSX (X : Stand p l e R s m args below meth c T locs cells slots) (hexec : p.tables.exec = Jvm.exec) {own : String} {index : Nat} {y : MethodName} {bytes : ByteArray} {maxL : Nat} {ret : Option FieldType} {hh : List (Nat × Nat × Nat × Nat)}
    (hown : s.vm.findClass own = some m.cls) (hlink : (Cond.methodLink own index y).before args s = true) (hstat : (Cond.static y).before args s = true) (hinit : (Cond.initialized y.cls).before args s = true)
    (hcode : (Cond.codeWith y bytes maxL ret hh).before args s = true) (hy : y.cls ≠ "java/lang/invoke/MethodHandle" ∧ y.cls ≠ "java/lang/invoke/VarHandle")
    {W9 : Nat} {Pre : Pt → Array Value → Prop} {Post : Pt → Array Value → Option Value → Pt → Prop} {PostX : Pt → Array Value → Addr → Pt → Prop} (hK : vx_Back l R p e below s args y 3 W9 Pre Post PostX)
    {g : JFrame} (hg : g.method = m) (hsize : g.locals.size = c.maxLocals) {argsL rest : List Value} (hlen : ∀ sig, parseMethodDescriptor y.desc = some sig → argsL.length = sig.parameters.length)
    (hstack : g.stack = argsL.reverse ++ rest) (hW : 2 * g.monitorRoom + (rest.map fun v => v.category).sum ≤ W9) (hdg : decode c.code g.pc = .ok (.invokestatic index, 3))
    (hpre : ∀ vm₁, s.WarmedH vm₁ → Pre ⟨T.setVm vm₁, locs, cells, slots⟩ argsL.toArray) :
    (∃ (v : Option Value) (vm₁ : Vm) (B : Pt), s.WarmedH vm₁ ∧ Stand p l e R s m args below meth c B.U B.locs B.cells B.slots ∧ Post ⟨T.setVm vm₁, locs, cells, slots⟩ argsL.toArray v B ∧
      ∀ target, Steps p.tables e below (B.U.setTop { g with pc := g.pc + 3, stack := v.toList ++ rest }) target → Steps p.tables e below (T.setTop g) target) ∨
    (∃ (q : Addr) (vm₁ : Vm) (B : Pt), s.WarmedH vm₁ ∧ Stand p l e R s m args below meth c B.U B.locs B.cells B.slots ∧ PostX ⟨T.setVm vm₁, locs, cells, slots⟩ argsL.toArray q B ∧
      Steps p.tables e below (T.setTop g) ((B.U.setTop { g with stack := rest }).pushFrame (.throwing q))) := by
  obtain ⟨mk, methM, cM, hnamed, hmethM, -, -, -, -, -, -, hsigM⟩ := Cond.codeWith_spec hcode
  have hstatic : methM.isStatic = true := Cond.static_spec hnamed hmethM hstat
  obtain ⟨kP, hkP, -⟩ := className_of_methodNamed hnamed
  have hinitP : kP.init = .initialized := Cond.initialized_spec (findClass_of_methodNamed hnamed) hkP hinit
  obtain ⟨vm₁, X₁, hstep₁⟩ := X.invokestatic hexec hown hlink hnamed hmethM hstatic hkP hinitP hy (g := g) hg (argsL := argsL) (rest := rest) (hlen _ hsigM) hstack hdg
  rcases hK m meth c ⟨T.setVm vm₁, locs, cells, slots⟩ { g with stack := rest } (.invokestatic index) mk argsL.toArray X₁ hg hsize hdg hW (X₁.named hnamed) (hpre vm₁ X₁.warmed) with ⟨v, B, X', hpost, hsteps⟩ | ⟨q, B, X', hpost, hsteps⟩
  · exact Or.inl ⟨v, vm₁, B, X₁.warmed, X', hpost, fun target h => hstep₁ _ fun acts => by rw [doInvoke_state]; exact hsteps.trans h⟩
  · exact Or.inr ⟨q, vm₁, B, X₁.warmed, X', hpost, hstep₁ _ fun acts => by rw [doInvoke_state]; exact hsteps⟩
theorem vx_callVW (X : Stand p l e R s m args below meth c T locs cells slots) (hexec : p.tables.exec = Jvm.exec) {own C : String} {index : Nat} {y : MethodName} {bytes : ByteArray} {maxL : Nat} {ret : Option FieldType} {hh : List (Nat × Nat × Nat × Nat)}
    (hown : s.vm.findClass own = some m.cls) (hlink : (Cond.methodLink own index y).before args s = true) (hinst : (Cond.instanceMethod y).before args s = true) (hsel : (Cond.selects C y y).before args s = true)
    (hcode : (Cond.codeWith y bytes maxL ret hh).before args s = true) (hy : y.cls ≠ "java/lang/invoke/MethodHandle" ∧ y.cls ≠ "java/lang/invoke/VarHandle")
    {W9 : Nat} {Pre : Pt → Array Value → Prop} {Post : Pt → Array Value → Option Value → Pt → Prop} (hK : Back l R p e below s args y 3 W9 Pre Post)
    {b : Addr} {cellB : Cell} (hcell : T.heap[b]? = some cellB) (hobj : cellB.vm.isStatics = false) (hcls : s.vm.findClass C = some cellB.cls)
    {g : JFrame} (hg : g.method = m) (hsize : g.locals.size = c.maxLocals) {argsL rest : List Value} (hlen : ∀ sig, parseMethodDescriptor y.desc = some sig → argsL.length = sig.parameters.length)
    (hstack : g.stack = argsL.reverse ++ .ref b :: rest) (hW : 2 * g.monitorRoom + (rest.map fun v => v.category).sum ≤ W9) (hdg : decode c.code g.pc = .ok (.invokevirtual index, 3))
    (hpre : ∀ vm₁, s.WarmedH vm₁ → Pre ⟨T.setVm vm₁, locs, cells, slots⟩ (Value.ref b :: argsL).toArray) :
    ∃ (v : Option Value) (vm₁ : Vm) (B : Pt), s.WarmedH vm₁ ∧ Stand p l e R s m args below meth c B.U B.locs B.cells B.slots ∧ Post ⟨T.setVm vm₁, locs, cells, slots⟩ (Value.ref b :: argsL).toArray v B ∧
      ∀ target, Steps p.tables e below (B.U.setTop { g with pc := g.pc + 3, stack := v.toList ++ rest }) target → Steps p.tables e below (T.setTop g) target := by
  obtain ⟨mk, methM, hnamed, hmethM, hstM, habM⟩ := Cond.instanceMethod_spec hinst
  obtain ⟨m8, methM', cM, hn8, hmethM', -, -, -, -, -, -, hsigM⟩ := Cond.codeWith_spec hcode
  cases Option.some.inj (hn8.symm.trans hnamed)
  cases hmethM.symm.trans hmethM'
  obtain ⟨c2, r2, m2, q1, q2, q3, q4, kP, hkP, hkPi⟩ := Cond.selects_spec hsel
  cases hcls.symm.trans q1
  cases (State.methodFound?_of_named hnamed hy).symm.trans q2
  cases hnamed.symm.trans q3
  have hselP : selectMethod e.platform s.vm cellB.cls mk = .method mk := by rw [Launch.admits_selectMethod X.admits]; exact q4
  obtain ⟨vm₁, X₁, hstep₁⟩ := X.invokevirtual hexec hown hlink hnamed hmethM hstM hkP hkPi hy (a := b) (cell := cellB) hcell
    (fun z h => by rw [h] at hobj; cases hobj) hselP hmethM habM hkP hkPi (g := g) hg (argsL := argsL) (rest := rest) (hlen _ hsigM) hstack hdg
  obtain ⟨v, B, X', hpost, hsteps⟩ := hK m meth c ⟨T.setVm vm₁, locs, cells, slots⟩ { g with stack := rest } (.invokevirtual index) mk (Value.ref b :: argsL).toArray X₁ hg hsize hdg hW (X₁.named hnamed) (hpre vm₁ X₁.warmed)
  exact ⟨v, vm₁, B, X₁.warmed, X', hpost, fun target h => hstep₁ _ fun acts => by rw [doInvoke_state]; exact hsteps.trans h⟩
abbrev vx_CVW (R : Room) (s : State) (args : Array Value) (own C : String) (index : Nat) (y : MethodName) (bytes : ByteArray) (maxL : Nat) (ret : Option FieldType) (hh : List (Nat × Nat × Nat × Nat)) (ws : List Cond) (rm : Room) (mc ms n : Nat) : Prop :=
  (rm.cells = mc ∧ rm.slots = ms ∧ rm.frames + 1 ≤ R.frames ∧ 8 + (maxL + 11) + rm.locals ≤ R.locals ∧ (∀ w ∈ ws, ∀ (a' : Array Value) (U : State), s.WarmedH U.vm → w.before a' U = true) ∧ Cond.codeWith y bytes maxL ret hh ∈ ws) ∧
  (Cond.codeWith y bytes maxL ret hh).before args s = true ∧ (Cond.initialized y.cls).before args s = true ∧ (y.cls ≠ "java/lang/invoke/MethodHandle" ∧ y.cls ≠ "java/lang/invoke/VarHandle") ∧
  (∀ sig, parseMethodDescriptor y.desc = some sig → n = sig.parameters.length) ∧ (Cond.methodLink own index y).before args s = true ∧ (Cond.instanceMethod y).before args s = true ∧ (Cond.selects C y y).before args s = true
theorem vx_cwVW {own C : String} {index maxL mc ms : Nat} {y : MethodName} {bytes : ByteArray} {ret : Option FieldType} {hh : List (Nat × Nat × Nat × Nat)} {Ts ws ws' : List Cond} {rm : Room} (n : Nat) (ht : ∀ w ∈ Ts, w.before args s = true) (hT : GoodIn Ts (wsV own index C y ws)) (hw : ws = Cond.codeWith y bytes maxL ret hh :: ws') (hrc : rm.cells = mc) (hrs : rm.slots = ms)
    (hd : y.cls = C ∧ y.cls ≠ "java/lang/invoke/MethodHandle" ∧ y.cls ≠ "java/lang/invoke/VarHandle" ∧ (parseMethodDescriptor y.desc).map (fun d => d.parameters.length) = some n) (hR : rm.frames + 1 ≤ R.frames ∧ 8 + (maxL + 11) + rm.locals ≤ R.locals) :
    vx_CVW R s args own C index y bytes maxL ret hh ws rm mc ms n := by
  obtain ⟨hC, hd⟩ := hd
  subst hC
  have ok : ∀ w ∈ wsV own index y.cls y ws, w.before args s = true := fun w h => ht w (hT w h).1
  have hG : GoodIn Ts ws := fun w h => hT w (by unfold wsV; exact List.mem_append_right _ h)
  have hc : Cond.codeWith y bytes maxL ret hh ∈ ws := by rw [hw]; exact List.mem_cons_self
  refine ⟨⟨hrc, hrs, hR.1, hR.2, pay_in ht hG, hc⟩, ht _ (hG _ hc).1, ok _ (by simp [wsV]), ⟨hd.1, hd.2.1⟩, fun sig h => ?_, ok _ (by simp [wsV]), ok _ (by simp [wsV]), ok _ (by simp [wsV])⟩
  have h2 := hd.2.2
  rw [h] at h2
  exact (Option.some.inj h2).symm
theorem vx_runVW {y : MethodName} {bytes cc : ByteArray} {maxL nL mc ms n index : Nat} {ret : Option FieldType} {hh : List (Nat × Nat × Nat × Nat)} {ws : List Cond} {rm : Room} {Pc : Array Value → State → Prop} {Qc : Array Value → State → Outcome → State → Prop} {free : Addr → Prop} {Ts : List Cond} {own C : String} {b : Addr} {As rest : List Value} {g : JFrame}
    (S : CallFix p m c cc nL s args Ts own) (hM : Met l y ws rm Pc Qc mc ms free) (cw : vx_CVW R s args own C index y bytes maxL ret hh ws rm mc ms n) (hp : PreV s H C b Pc As)
    (hg : g.method = m) (hn : As.length = n) (hsize : g.locals.size = nL) (hstack : g.stack = As.reverse ++ .ref b :: rest) (hW : 2 * g.monitorRoom + (rest.map fun v => v.category).sum ≤ 8) (hdg : decode cc g.pc = .ok (.invokevirtual index, 3)) (hf : cells + mc ≤ R.cells ∧ slots + ms ≤ R.slots) :
    va_Run p l e R s m args below meth c H locs cells slots mc ms g rest (Qc (Value.ref b :: As).toArray) free := by
  obtain ⟨⟨hrc, hrs, hfr, hlo, hws, hcw⟩, hcode, hini, hy, hlen, hl, hin, hse⟩ := cw
  have hK : Back l R p e below s args y 3 8 (PreOf R mc ms Pc) (PostOf Qc mc ms free) := va_backW (hh := hh) (bytes := bytes) (maxL := maxL) (ret := ret) hM hp.1 hrc hrs hfr hlo hws hcw (fun a' U hW => word_at hW (Or.inl (by first | rfl | simp [Cond.onTables, Cond.keeps, Cond.steady])) hini)
  obtain ⟨hx, hb, hml, ho, -⟩ := S
  obtain ⟨-, ⟨cellB, hcB, hoB, hclB⟩, hPc⟩ := hp
  intro T hT X
  obtain ⟨v, vm₁, ⟨U', l2, c2, s2⟩, hW₁, X', ⟨g', mk, t, L, e1, e2, hq, h1, hL, h2, h3⟩, st⟩ := vx_callVW X hx (C := C) (hh := hh) (bytes := bytes) (maxL := maxL) (ret := ret) ho hl hin hse hcode hy hK (by rw [hT]; exact hcB) hoB hclB hg (hsize.trans hml.symm) (argsL := As) (rest := rest) (fun sig h => hn.trans (hlen sig h)) hstack hW (by rw [hb]; exact hdg)
    (fun vm₁ hW₁ => ⟨hf.1, hf.2, hPc (T.setVm vm₁) hT hW₁⟩)
  dsimp only [Pt.U, Pt.locs, Pt.cells, Pt.slots] at X' e1 e2 h1 h2 h3 st
  subst h1; subst h2; subst h3
  exact ⟨v, (T.setVm vm₁).calling g' mk (Value.ref b :: As).toArray, t, U', L, hT, X', hL, e1, e2, hq, st⟩
section
variable {y : MethodName} {bytes cc : ByteArray} {maxL nL mc ms n index : Nat} {ret : Option FieldType} {ws : List Cond} {rm : Room} {Pc : Array Value → State → Prop} {Qc : Array Value → State → Outcome → State → Prop} {XC : String → State → State → Prop} {free : Addr → Prop} {Ts : List Cond} {own C : String} {b : Addr} {As rest : List Value} {g : JFrame}
theorem vx_runVX {hh : List (Nat × Nat × Nat × Nat)} (S : CallFix p m c cc nL s args Ts own) (hM : vx_Met l y ws rm Pc Qc XC mc ms free) (cw : vx_CVW R s args own C index y bytes maxL ret hh ws rm mc ms n) (hp : PreV s H C b Pc As)
    (hg : g.method = m) (hn : As.length = n) (hsize : g.locals.size = nL) (hstack : g.stack = As.reverse ++ .ref b :: rest) (hW : 2 * g.monitorRoom + (rest.map fun v => v.category).sum ≤ 8) (hdg : decode cc g.pc = .ok (.invokevirtual index, 3)) (hf : cells + mc ≤ R.cells ∧ slots + ms ≤ R.slots) :
    vx_Run p l e R s m args below meth c H locs cells slots mc ms g rest (Qc (Value.ref b :: As).toArray) XC free := by
  obtain ⟨⟨hrc, hrs, hfr, hlo, hws, hcw⟩, hcode, hini, hy, hlen, hl, hin, hse⟩ := cw
  have hK : vx_Back l R p e below s args y 3 8 (PreOf R mc ms Pc) (PostOf Qc mc ms free) (vx_Post XC mc ms free) := vx_backW (hh := hh) (bytes := bytes) (maxL := maxL) (ret := ret) hM hp.1 hrc hrs hfr hlo hws hcw (fun a' U hW => word_at hW (Or.inl (by first | rfl | simp [Cond.onTables, Cond.keeps, Cond.steady])) hini)
  obtain ⟨hx, hb, hml, ho, -⟩ := S
  obtain ⟨-, ⟨cellB, hcB, hoB, hclB⟩, hPc⟩ := hp
  intro T hT X
  rcases vx_callVX X hx (C := C) (hh := hh) (bytes := bytes) (maxL := maxL) (ret := ret) ho hl hin hse hcode hy hK (by rw [hT]; exact hcB) hoB hclB hg (hsize.trans hml.symm) (argsL := As) (rest := rest) (fun sig h => hn.trans (hlen sig h)) hstack hW (by rw [hb]; exact hdg)
    (fun vm₁ hW₁ => ⟨hf.1, hf.2, hPc (T.setVm vm₁) hT hW₁⟩) with ⟨v, vm₁, ⟨U', l2, c2, s2⟩, hW₁, X', ⟨g', mk, t, L, e1, e2, hq, h1, hL, h2, h3⟩, st⟩ | ⟨q, vm₁, ⟨U', l2, c2, s2⟩, hW₁, X', ⟨g', mk, t, L, E, ce, e1, e2, hq, hce, hcv, hcl, h1, hL, h2, h3⟩, st⟩
  · dsimp only [Pt.U, Pt.locs, Pt.cells, Pt.slots] at X' e1 e2 h1 h2 h3 st
    subst h1; subst h2; subst h3
    exact Or.inl ⟨v, (T.setVm vm₁).calling g' mk (Value.ref b :: As).toArray, t, U', L, hT, X', hL, e1, e2, hq, st⟩
  · dsimp only [Pt.U, Pt.locs, Pt.cells, Pt.slots] at X' e1 e2 h1 h2 h3 st hcl
    subst h1; subst h2; subst h3
    exact Or.inr ⟨q, (T.setVm vm₁).calling g' mk (Value.ref b :: As).toArray, t, U', L, E, ce, hT, X', hL, e1, e2, hq, hce, hcv, vx_cls hW₁ hcl, st⟩
theorem vx_runSX {hh : List (Nat × Nat × Nat × Nat)} (S : CallFix p m c cc nL s args Ts own) (hM : vx_Met l y ws rm Pc Qc XC mc ms free) (cw : vx_CSW R s args own index y bytes maxL ret hh ws rm mc ms n) (hp : PreS s H Pc As)
    (hg : g.method = m) (hn : As.length = n) (hsize : g.locals.size = nL) (hstack : g.stack = As.reverse ++ rest) (hW : 2 * g.monitorRoom + (rest.map fun v => v.category).sum ≤ 8) (hdg : decode cc g.pc = .ok (.invokestatic index, 3)) (hf : cells + mc ≤ R.cells ∧ slots + ms ≤ R.slots) :
    vx_Run p l e R s m args below meth c H locs cells slots mc ms g rest (Qc As.toArray) XC free := by
  obtain ⟨⟨hrc, hrs, hfr, hlo, hws, hcw⟩, hcode, hini, hy, hlen, hl, hstt⟩ := cw
  have hK : vx_Back l R p e below s args y 3 8 (PreOf R mc ms Pc) (PostOf Qc mc ms free) (vx_Post XC mc ms free) := vx_backW (hh := hh) (bytes := bytes) (maxL := maxL) (ret := ret) hM hp.1 hrc hrs hfr hlo hws hcw (fun a' U hW => word_at hW (Or.inl (by first | rfl | simp [Cond.onTables, Cond.keeps, Cond.steady])) hini)
  obtain ⟨hx, hb, hml, ho, -⟩ := S
  intro T hT X
  rcases vx_callSX X hx (hh := hh) (bytes := bytes) (maxL := maxL) (ret := ret) ho hl hstt hini hcode hy hK hg (hsize.trans hml.symm) (argsL := As) (rest := rest) (fun sig h => hn.trans (hlen sig h)) hstack hW (by rw [hb]; exact hdg)
    (fun vm₁ hW₁ => ⟨hf.1, hf.2, hp.2 (T.setVm vm₁) hT hW₁⟩) with ⟨v, vm₁, ⟨U', l2, c2, s2⟩, hW₁, X', ⟨g', mk, t, L, e1, e2, hq, h1, hL, h2, h3⟩, st⟩ | ⟨q, vm₁, ⟨U', l2, c2, s2⟩, hW₁, X', ⟨g', mk, t, L, E, ce, e1, e2, hq, hce, hcv, hcl, h1, hL, h2, h3⟩, st⟩
  · dsimp only [Pt.U, Pt.locs, Pt.cells, Pt.slots] at X' e1 e2 h1 h2 h3 st
    subst h1; subst h2; subst h3
    exact Or.inl ⟨v, (T.setVm vm₁).calling g' mk As.toArray, t, U', L, hT, X', hL, e1, e2, hq, st⟩
  · dsimp only [Pt.U, Pt.locs, Pt.cells, Pt.slots] at X' e1 e2 h1 h2 h3 st hcl
    subst h1; subst h2; subst h3
    exact Or.inr ⟨q, (T.setVm vm₁).calling g' mk As.toArray, t, U', L, E, ce, hT, X', hL, e1, e2, hq, hce, hcv, vx_cls hW₁ hcl, st⟩
end
end VXH
theorem vx_ofWH {l : Launch} {y : MethodName} {ws ws' : List Cond} {rm : Room} {Pc : Array Value → State → Prop} {Qc : Array Value → State → Outcome → State → Prop} {XC : String → State → State → Prop} {mc ms : Nat} {free : Addr → Prop} {cc : ByteArray} {maxL : Nat} {ret : Option FieldType} {hh : List (Nat × Nat × Nat × Nat)}
    (hy : plainName y.cls = true) (hw : ws = Cond.codeWith y cc maxL ret hh :: ws')
    (body : ∀ p e s m args below meth c s₁, BodyLoose p l y (headSpec ws rm) cc maxL ret e s m args below meth c s₁ → c.maxLocals = maxL → Pc args s →
      W p l e (headSpec ws rm).room s m args below meth c s.heap [] 0 0 (vx_MQ below Qc XC args s mc ms free) (entryFrame m args maxL)) : vx_Met l y ws rm Pc Qc XC mc ms free := by
  refine MetFree.of_bodyS (code := cc) (maxLocals := maxL) (ret := ret) hy ?_ ?_
  · intro args s m h hn
    obtain ⟨m9, meth, c, hn9, h1, h2, h3, h4, -, h5, h6, -⟩ := Cond.codeWith_spec (atoms_spec (ws := ws) h _ (by rw [hw]; exact List.mem_cons_self))
    cases hn.symm.trans hn9
    exact ⟨meth, c, h1, h2, h3, h4, h5, h6⟩
  · intro p e s m args below meth c s₁ B hml hP _
    have hh0 : s₁.heap = s.heap := by rw [B.state]; rfl
    obtain ⟨t, a1, o, b1, b2, b3⟩ := body p e s m args below meth c s₁ B hml hP s₁ hh0 (Stand.of_body B)
    exact ⟨t, o, a1, b1, b2, b3⟩
/-! ===== END ===== -/
end
section
/-! ===== BEGIN printed: names, fields, word lists, decode rows ===== -/
def RX0 : String := "Dataroom$Answer"
def TX0 : u_T := fun k => match k with
  | 0 => ("Dataroom$Answer", "party", "I", true)
  | 1 => ("Dataroom$Answer", "files", "I", true)
  | 2 => ("Dataroom$Answer", "bit", "I", true)
  | 3 => ("Dataroom$Answer", "given", "I", true)
  | 4 => ("Dataroom$Answer", "hour", "I", true)
  | _ => ("Dataroom$Answer", "recalled", "Z", false)
def tyX0 : Nat → FieldType := fun k => match k with
  | 0 => .int
  | 1 => .int
  | 2 => .int
  | 3 => .int
  | 4 => .int
  | _ => .boolean
abbrev wsX00 : List Cond := u_ws RX0 TX0 6
theorem nmX0 : ∀ a, a < 6 → ∀ b, b < 6 → a ≠ b → (TX0 a).2.1 ≠ (TX0 b).2.1 := by decide +kernel
theorem tyX0_ok : ∀ k, k < 6 → parseFieldDescriptor (TX0 k).2.2.1 = some (tyX0 k) := by decide +kernel
abbrev cX0_init : ByteArray := prog_2_method_1_code
def yX0_init : MethodName := ⟨RX0, "<init>", "(IIIII)V"⟩
abbrev cX0_standsFor : ByteArray := prog_2_method_2_code
def yX0_standsFor : MethodName := ⟨RX0, "standsFor", "(LDataroom$Party;)Z"⟩
abbrev cX0_tell : ByteArray := prog_2_method_3_code
def yX0_tell : MethodName := ⟨RX0, "tell", "(I)I"⟩
def RX1 : String := "Dataroom$Card"
def TX1 : u_T := fun k => match k with
  | 0 => ("Dataroom$Card", "number", "I", false)
  | _ => ("Dataroom$Card", "sealedTill", "I", false)
def tyX1 : Nat → FieldType := fun k => match k with
  | 0 => .int
  | _ => .int
abbrev wsX10 : List Cond := u_ws RX1 TX1 2
theorem nmX1 : ∀ a, a < 2 → ∀ b, b < 2 → a ≠ b → (TX1 a).2.1 ≠ (TX1 b).2.1 := by decide +kernel
theorem tyX1_ok : ∀ k, k < 2 → parseFieldDescriptor (TX1 k).2.2.1 = some (tyX1 k) := by decide +kernel
abbrev cX1_init : ByteArray := prog_3_method_1_code
def yX1_init : MethodName := ⟨RX1, "<init>", "(I)V"⟩
abbrev cX1_isClosedIn : ByteArray := prog_3_method_2_code
def yX1_isClosedIn : MethodName := ⟨RX1, "isClosedIn", "(I)Z"⟩
def RX2 : String := "Dataroom$Knowledge"
def TX2 : u_T := fun k => match k with
  | 0 => ("Dataroom$Knowledge", "rows", "[I", true)
  | _ => ("Dataroom$Knowledge", "learned", "I", false)
def tyX2 : Nat → FieldType := fun k => match k with
  | 0 => .array .int
  | _ => .int
abbrev wsX20 : List Cond := u_ws RX2 TX2 2
theorem nmX2 : ∀ a, a < 2 → ∀ b, b < 2 → a ≠ b → (TX2 a).2.1 ≠ (TX2 b).2.1 := by decide +kernel
theorem tyX2_ok : ∀ k, k < 2 → parseFieldDescriptor (TX2 k).2.2.1 = some (tyX2 k) := by decide +kernel
abbrev cX2_init : ByteArray := prog_4_method_1_code
def yX2_init : MethodName := ⟨RX2, "<init>", "()V"⟩
abbrev cX2_forget : ByteArray := prog_4_method_2_code
def yX2_forget : MethodName := ⟨RX2, "forget", "()V"⟩
abbrev cX2_learn : ByteArray := prog_4_method_3_code
def yX2_learn : MethodName := ⟨RX2, "learn", "(I)V"⟩
abbrev cX2_learnFrom : ByteArray := prog_4_method_4_code
def yX2_learnFrom : MethodName := ⟨RX2, "learnFrom", "(LDataroom$Knowledge;)V"⟩
abbrev cX2_knows : ByteArray := prog_4_method_5_code
def yX2_knows : MethodName := ⟨RX2, "knows", "(I)Z"⟩
abbrev cX2_wouldReach : ByteArray := prog_4_method_6_code
def yX2_wouldReach : MethodName := ⟨RX2, "wouldReach", "(II)Z"⟩
def RX3 : String := "Dataroom$Marks"
def TX3 : u_T := fun k => match k with
  | 0 => ("Dataroom$Marks", "words", "[J", true)
  | _ => ("Dataroom$Marks", "used", "I", false)
def tyX3 : Nat → FieldType := fun k => match k with
  | 0 => .array .long
  | _ => .int
abbrev wsX30 : List Cond := u_ws RX3 TX3 2
theorem nmX3 : ∀ a, a < 2 → ∀ b, b < 2 → a ≠ b → (TX3 a).2.1 ≠ (TX3 b).2.1 := by decide +kernel
theorem tyX3_ok : ∀ k, k < 2 → parseFieldDescriptor (TX3 k).2.2.1 = some (tyX3 k) := by decide +kernel
abbrev cX3_init : ByteArray := prog_5_method_1_code
def yX3_init : MethodName := ⟨RX3, "<init>", "()V"⟩
abbrev cX3_begin : ByteArray := prog_5_method_2_code
def yX3_begin : MethodName := ⟨RX3, "begin", "(I)V"⟩
abbrev cX3_add : ByteArray := prog_5_method_3_code
def yX3_add : MethodName := ⟨RX3, "add", "(I)V"⟩
abbrev cX3_sets : ByteArray := prog_5_method_4_code
def yX3_sets : MethodName := ⟨RX3, "sets", "()I"⟩
abbrev cX3_isMarked : ByteArray := prog_5_method_5_code
def yX3_isMarked : MethodName := ⟨RX3, "isMarked", "(I)Z"⟩
abbrev cX3_crossed : ByteArray := prog_5_method_6_code
def yX3_crossed : MethodName := ⟨RX3, "crossed", "(JI)J"⟩
def RX4 : String := "Dataroom$Party"
def TX4 : u_T := fun k => match k with
  | 0 => ("Dataroom$Party", "place", "I", true)
  | 1 => ("Dataroom$Party", "budget", "I", false)
  | 2 => ("Dataroom$Party", "rights", "[LDataroom$Right;", true)
  | 3 => ("Dataroom$Party", "known", "[LDataroom$Knowledge;", true)
  | _ => ("Dataroom$Party", "fared", "[I", true)
def tyX4 : Nat → FieldType := fun k => match k with
  | 0 => .int
  | 1 => .int
  | 2 => .array (.object "Dataroom$Right")
  | 3 => .array (.object "Dataroom$Knowledge")
  | _ => .array .int
abbrev wsX40 : List Cond := u_ws RX4 TX4 5
theorem nmX4 : ∀ a, a < 5 → ∀ b, b < 5 → a ≠ b → (TX4 a).2.1 ≠ (TX4 b).2.1 := by decide +kernel
theorem tyX4_ok : ∀ k, k < 5 → parseFieldDescriptor (TX4 k).2.2.1 = some (tyX4 k) := by decide +kernel
abbrev cX4_init : ByteArray := prog_6_method_1_code
def yX4_init : MethodName := ⟨RX4, "<init>", "(II)V"⟩
abbrev cX4_rightFor : ByteArray := prog_6_method_2_code
def yX4_rightFor : MethodName := ⟨RX4, "rightFor", "(I)LDataroom$Right;"⟩
abbrev cX4_setRight : ByteArray := prog_6_method_3_code
def yX4_setRight : MethodName := ⟨RX4, "setRight", "(ILDataroom$Right;)V"⟩
abbrev cX4_rightIn : ByteArray := prog_6_method_4_code
def yX4_rightIn : MethodName := ⟨RX4, "rightIn", "(II)I"⟩
abbrev cX4_countQuestion : ByteArray := prog_6_method_5_code
def yX4_countQuestion : MethodName := ⟨RX4, "countQuestion", "(I)V"⟩
abbrev cX4_questions : ByteArray := prog_6_method_6_code
def yX4_questions : MethodName := ⟨RX4, "questions", "(I)I"⟩
abbrev cX4_learn : ByteArray := prog_6_method_7_code
def yX4_learn : MethodName := ⟨RX4, "learn", "(II)V"⟩
abbrev cX4_forget : ByteArray := prog_6_method_8_code
def yX4_forget : MethodName := ⟨RX4, "forget", "()V"⟩
abbrev cX4_learnedInAll : ByteArray := prog_6_method_9_code
def yX4_learnedInAll : MethodName := ⟨RX4, "learnedInAll", "()I"⟩
abbrev cX4_costOf : ByteArray := prog_6_method_10_code
def yX4_costOf : MethodName := ⟨RX4, "costOf", "(II)I"⟩
abbrev cX4_wouldFindUnread : ByteArray := prog_6_method_11_code
def yX4_wouldFindUnread : MethodName := ⟨RX4, "wouldFindUnread", "(III)Z"⟩
abbrev cX4_wouldFind : ByteArray := prog_6_method_12_code
def yX4_wouldFind : MethodName := ⟨RX4, "wouldFind", "(III)Z"⟩
def RX5 : String := "Dataroom$Right"
def TX5 : u_T := fun k => match k with
  | 0 => ("Dataroom$Right", "kind", "I", true)
  | 1 => ("Dataroom$Right", "from", "I", true)
  | _ => ("Dataroom$Right", "to", "I", true)
def tyX5 : Nat → FieldType := fun k => match k with
  | 0 => .int
  | 1 => .int
  | _ => .int
abbrev wsX50 : List Cond := u_ws RX5 TX5 3
theorem nmX5 : ∀ a, a < 3 → ∀ b, b < 3 → a ≠ b → (TX5 a).2.1 ≠ (TX5 b).2.1 := by decide +kernel
theorem tyX5_ok : ∀ k, k < 3 → parseFieldDescriptor (TX5 k).2.2.1 = some (tyX5 k) := by decide +kernel
abbrev cX5_init : ByteArray := prog_7_method_1_code
def yX5_init : MethodName := ⟨RX5, "<init>", "(III)V"⟩
abbrev cX5_in : ByteArray := prog_7_method_2_code
def yX5_in : MethodName := ⟨RX5, "in", "(I)I"⟩
def RX6 : String := "Dataroom"
def TX6 : u_T := fun k => match k with
  | 0 => ("Dataroom", "allFiles", "Ljava/util/ArrayList;", true)
  | 1 => ("Dataroom", "allParties", "Ljava/util/ArrayList;", true)
  | 2 => ("Dataroom", "allAnswers", "Ljava/util/ArrayList;", true)
  | 3 => ("Dataroom", "now", "I", false)
  | 4 => ("Dataroom", "shared", "LDataroom$Knowledge;", true)
  | _ => ("Dataroom", "marks", "LDataroom$Marks;", true)
def tyX6 : Nat → FieldType := fun k => match k with
  | 0 => .object "java/util/ArrayList"
  | 1 => .object "java/util/ArrayList"
  | 2 => .object "java/util/ArrayList"
  | 3 => .int
  | 4 => .object "Dataroom$Knowledge"
  | _ => .object "Dataroom$Marks"
abbrev wsX60 : List Cond := u_ws RX6 TX6 6
theorem nmX6 : ∀ a, a < 6 → ∀ b, b < 6 → a ≠ b → (TX6 a).2.1 ≠ (TX6 b).2.1 := by decide +kernel
theorem tyX6_ok : ∀ k, k < 6 → parseFieldDescriptor (TX6 k).2.2.1 = some (tyX6 k) := by decide +kernel
abbrev cX6_init : ByteArray := prog_1_method_1_code
def yX6_init : MethodName := ⟨RX6, "<init>", "()V"⟩
abbrev cX6_file : ByteArray := prog_1_method_2_code
def yX6_file : MethodName := ⟨RX6, "file", "(I)I"⟩
abbrev cX6_change : ByteArray := prog_1_method_3_code
def yX6_change : MethodName := ⟨RX6, "change", "(II)I"⟩
abbrev cX6_party : ByteArray := prog_1_method_4_code
def yX6_party : MethodName := ⟨RX6, "party", "(I)I"⟩
abbrev cX6_budget : ByteArray := prog_1_method_5_code
def yX6_budget : MethodName := ⟨RX6, "budget", "(II)I"⟩
abbrev cX6_right : ByteArray := prog_1_method_6_code
def yX6_right : MethodName := ⟨RX6, "right", "(IIIII)V"⟩
abbrev cX6_takeBack : ByteArray := prog_1_method_7_code
def yX6_takeBack : MethodName := ⟨RX6, "takeBack", "(II)I"⟩
abbrev cX6_seal : ByteArray := prog_1_method_8_code
def yX6_seal : MethodName := ⟨RX6, "seal", "(II)V"⟩
abbrev cX6_pass : ByteArray := prog_1_method_9_code
def yX6_pass : MethodName := ⟨RX6, "pass", "(I)I"⟩
abbrev cX6_ask : ByteArray := prog_1_method_10_code
def yX6_ask : MethodName := ⟨RX6, "ask", "(III)I"⟩
abbrev cX6_cost : ByteArray := prog_1_method_11_code
def yX6_cost : MethodName := ⟨RX6, "cost", "(III)I"⟩
abbrev cX6_answer : ByteArray := prog_1_method_12_code
def yX6_answer : MethodName := ⟨RX6, "answer", "(II)I"⟩
abbrev cX6_spent : ByteArray := prog_1_method_13_code
def yX6_spent : MethodName := ⟨RX6, "spent", "(I)I"⟩
abbrev cX6_spentAnew : ByteArray := prog_1_method_14_code
def yX6_spentAnew : MethodName := ⟨RX6, "spentAnew", "(I)I"⟩
abbrev cX6_finds : ByteArray := prog_1_method_15_code
def yX6_finds : MethodName := ⟨RX6, "finds", "(II)I"⟩
abbrev cX6_together : ByteArray := prog_1_method_16_code
def yX6_together : MethodName := ⟨RX6, "together", "(II)I"⟩
abbrev cX6_rightTo : ByteArray := prog_1_method_17_code
def yX6_rightTo : MethodName := ⟨RX6, "rightTo", "(II)I"⟩
abbrev cX6_isSealed : ByteArray := prog_1_method_18_code
def yX6_isSealed : MethodName := ⟨RX6, "isSealed", "(I)Z"⟩
abbrev cX6_count : ByteArray := prog_1_method_19_code
def yX6_count : MethodName := ⟨RX6, "count", "(II)I"⟩
abbrev cX6_partyAt : ByteArray := prog_1_method_20_code
def yX6_partyAt : MethodName := ⟨RX6, "partyAt", "(I)LDataroom$Party;"⟩
abbrev cX6_fileAt : ByteArray := prog_1_method_21_code
def yX6_fileAt : MethodName := ⟨RX6, "fileAt", "(I)LDataroom$Card;"⟩
abbrev cX6_requireFile : ByteArray := prog_1_method_22_code
def yX6_requireFile : MethodName := ⟨RX6, "requireFile", "(I)V"⟩
abbrev cX6_requireRange : ByteArray := prog_1_method_23_code
def yX6_requireRange : MethodName := ⟨RX6, "requireRange", "(III)V"⟩
abbrev cX6_requireQuestion : ByteArray := prog_1_method_24_code
def yX6_requireQuestion : MethodName := ⟨RX6, "requireQuestion", "(II)V"⟩
abbrev cX6_holds : ByteArray := prog_1_method_25_code
def yX6_holds : MethodName := ⟨RX6, "holds", "(II)Z"⟩
abbrev cX6_covers : ByteArray := prog_1_method_26_code
def yX6_covers : MethodName := ⟨RX6, "covers", "(II)Z"⟩
abbrev cX6_refusalOf : ByteArray := prog_1_method_27_code
def yX6_refusalOf : MethodName := ⟨RX6, "refusalOf", "(LDataroom$Party;II)I"⟩
abbrev cX6_lacksRight : ByteArray := prog_1_method_28_code
def yX6_lacksRight : MethodName := ⟨RX6, "lacksRight", "(LDataroom$Party;I)Z"⟩
abbrev cX6_hasSealed : ByteArray := prog_1_method_29_code
def yX6_hasSealed : MethodName := ⟨RX6, "hasSealed", "(I)Z"⟩
abbrev cX6_sumOf : ByteArray := prog_1_method_30_code
def yX6_sumOf : MethodName := ⟨RX6, "sumOf", "(II)I"⟩
abbrev cX6_recall : ByteArray := prog_1_method_31_code
def yX6_recall : MethodName := ⟨RX6, "recall", "(LDataroom$Party;I)I"⟩
abbrev cX6_learnAnew : ByteArray := prog_1_method_32_code
def yX6_learnAnew : MethodName := ⟨RX6, "learnAnew", "(LDataroom$Party;)V"⟩
abbrev cX6_countStanding : ByteArray := prog_1_method_33_code
def yX6_countStanding : MethodName := ⟨RX6, "countStanding", "(LDataroom$Party;)I"⟩
abbrev cX6_countKnownSets : ByteArray := prog_1_method_34_code
def yX6_countKnownSets : MethodName := ⟨RX6, "countKnownSets", "(LDataroom$Party;I)I"⟩
abbrev cX6_generatorsOf : ByteArray := prog_1_method_35_code
def yX6_generatorsOf : MethodName := ⟨RX6, "generatorsOf", "(I)I"⟩
abbrev cX6_shareKnowledge : ByteArray := prog_1_method_36_code
def yX6_shareKnowledge : MethodName := ⟨RX6, "shareKnowledge", "(II)V"⟩
def RX7 : String := "DataroomModel"
def TX7 : u_T := fun k => match k with
  | 0 => ("DataroomModel", "thrown", "I", false)
  | 1 => ("DataroomModel", "now", "I", false)
  | 2 => ("DataroomModel", "files", "I", false)
  | 3 => ("DataroomModel", "number", "[I", true)
  | 4 => ("DataroomModel", "sealedTill", "[I", true)
  | 5 => ("DataroomModel", "parties", "I", false)
  | 6 => ("DataroomModel", "budget", "[I", true)
  | 7 => ("DataroomModel", "right", "[I", true)
  | 8 => ("DataroomModel", "from", "[I", true)
  | 9 => ("DataroomModel", "to", "[I", true)
  | 10 => ("DataroomModel", "answers", "I", false)
  | 11 => ("DataroomModel", "who", "[I", true)
  | 12 => ("DataroomModel", "set", "[I", true)
  | 13 => ("DataroomModel", "bitOf", "[I", true)
  | 14 => ("DataroomModel", "told", "[I", true)
  | 15 => ("DataroomModel", "hour", "[I", true)
  | 16 => ("DataroomModel", "isRecalled", "[Z", true)
  | 17 => ("DataroomModel", "counts", "[I", true)
  | _ => ("DataroomModel", "rows", "[I", true)
def tyX7 : Nat → FieldType := fun k => match k with
  | 0 => .int
  | 1 => .int
  | 2 => .int
  | 3 => .array .int
  | 4 => .array .int
  | 5 => .int
  | 6 => .array .int
  | 7 => .array .int
  | 8 => .array .int
  | 9 => .array .int
  | 10 => .int
  | 11 => .array .int
  | 12 => .array .int
  | 13 => .array .int
  | 14 => .array .int
  | 15 => .array .int
  | 16 => .array .boolean
  | 17 => .array .int
  | _ => .array .int
abbrev wsX70 : List Cond := u_ws RX7 TX7 19
theorem nmX7 : ∀ a, a < 19 → ∀ b, b < 19 → a ≠ b → (TX7 a).2.1 ≠ (TX7 b).2.1 := by decide +kernel
theorem tyX7_ok : ∀ k, k < 19 → parseFieldDescriptor (TX7 k).2.2.1 = some (tyX7 k) := by decide +kernel
abbrev cX7_init : ByteArray := prog_9_method_1_code
def yX7_init : MethodName := ⟨RX7, "<init>", "()V"⟩
abbrev cX7_thrown : ByteArray := prog_9_method_2_code
def yX7_thrown : MethodName := ⟨RX7, "thrown", "()I"⟩
abbrev cX7_goesWell : ByteArray := prog_9_method_3_code
def yX7_goesWell : MethodName := ⟨RX7, "goesWell", "(I)Z"⟩
abbrev cX7_in : ByteArray := prog_9_method_4_code
def yX7_in : MethodName := ⟨RX7, "in", "(III)Z"⟩
abbrev cX7_isFile : ByteArray := prog_9_method_5_code
def yX7_isFile : MethodName := ⟨RX7, "isFile", "(I)Z"⟩
abbrev cX7_isParty : ByteArray := prog_9_method_6_code
def yX7_isParty : MethodName := ⟨RX7, "isParty", "(I)Z"⟩
abbrev cX7_file : ByteArray := prog_9_method_7_code
def yX7_file : MethodName := ⟨RX7, "file", "(I)I"⟩
abbrev cX7_recall : ByteArray := prog_9_method_8_code
def yX7_recall : MethodName := ⟨RX7, "recall", "(II)I"⟩
abbrev cX7_change : ByteArray := prog_9_method_9_code
def yX7_change : MethodName := ⟨RX7, "change", "(II)I"⟩
abbrev cX7_party : ByteArray := prog_9_method_10_code
def yX7_party : MethodName := ⟨RX7, "party", "(I)I"⟩
abbrev cX7_budget : ByteArray := prog_9_method_11_code
def yX7_budget : MethodName := ⟨RX7, "budget", "(II)I"⟩
abbrev cX7_right : ByteArray := prog_9_method_12_code
def yX7_right : MethodName := ⟨RX7, "right", "(IIIII)V"⟩
abbrev cX7_takeBack : ByteArray := prog_9_method_13_code
def yX7_takeBack : MethodName := ⟨RX7, "takeBack", "(II)I"⟩
abbrev cX7_seal : ByteArray := prog_9_method_14_code
def yX7_seal : MethodName := ⟨RX7, "seal", "(II)V"⟩
abbrev cX7_pass : ByteArray := prog_9_method_15_code
def yX7_pass : MethodName := ⟨RX7, "pass", "(I)I"⟩
abbrev cX7_rightOf : ByteArray := prog_9_method_16_code
def yX7_rightOf : MethodName := ⟨RX7, "rightOf", "(II)I"⟩
abbrev cX7_reduce : ByteArray := prog_9_method_17_code
def yX7_reduce : MethodName := ⟨RX7, "reduce", "(I)I"⟩
abbrev cX7_highest : ByteArray := prog_9_method_18_code
def yX7_highest : MethodName := ⟨RX7, "highest", "(I)I"⟩
abbrev cX7_learn : ByteArray := prog_9_method_19_code
def yX7_learn : MethodName := ⟨RX7, "learn", "(I)Z"⟩
abbrev cX7_know : ByteArray := prog_9_method_20_code
def yX7_know : MethodName := ⟨RX7, "know", "(II)I"⟩
abbrev cX7_spentBy : ByteArray := prog_9_method_21_code
def yX7_spentBy : MethodName := ⟨RX7, "spentBy", "(I)I"⟩
abbrev cX7_found : ByteArray := prog_9_method_22_code
def yX7_found : MethodName := ⟨RX7, "found", "()I"⟩
abbrev cX7_isAsked : ByteArray := prog_9_method_23_code
def yX7_isAsked : MethodName := ⟨RX7, "isAsked", "(II)Z"⟩
abbrev cX7_costOf : ByteArray := prog_9_method_24_code
def yX7_costOf : MethodName := ⟨RX7, "costOf", "(III)I"⟩
abbrev cX7_wouldTell : ByteArray := prog_9_method_25_code
def yX7_wouldTell : MethodName := ⟨RX7, "wouldTell", "(III)Z"⟩
abbrev cX7_refusal : ByteArray := prog_9_method_26_code
def yX7_refusal : MethodName := ⟨RX7, "refusal", "(III)I"⟩
abbrev cX7_isQuestion : ByteArray := prog_9_method_27_code
def yX7_isQuestion : MethodName := ⟨RX7, "isQuestion", "(II)Z"⟩
abbrev cX7_ask : ByteArray := prog_9_method_28_code
def yX7_ask : MethodName := ⟨RX7, "ask", "(III)I"⟩
abbrev cX7_cost : ByteArray := prog_9_method_29_code
def yX7_cost : MethodName := ⟨RX7, "cost", "(III)I"⟩
abbrev cX7_answer : ByteArray := prog_9_method_30_code
def yX7_answer : MethodName := ⟨RX7, "answer", "(II)I"⟩
abbrev cX7_spent : ByteArray := prog_9_method_31_code
def yX7_spent : MethodName := ⟨RX7, "spent", "(I)I"⟩
abbrev cX7_spentAnew : ByteArray := prog_9_method_32_code
def yX7_spentAnew : MethodName := ⟨RX7, "spentAnew", "(I)I"⟩
abbrev cX7_findsBy : ByteArray := prog_9_method_33_code
def yX7_findsBy : MethodName := ⟨RX7, "findsBy", "(II)I"⟩
abbrev cX7_finds : ByteArray := prog_9_method_34_code
def yX7_finds : MethodName := ⟨RX7, "finds", "(II)I"⟩
abbrev cX7_together : ByteArray := prog_9_method_35_code
def yX7_together : MethodName := ⟨RX7, "together", "(II)I"⟩
abbrev cX7_rightTo : ByteArray := prog_9_method_36_code
def yX7_rightTo : MethodName := ⟨RX7, "rightTo", "(II)I"⟩
abbrev cX7_isSealed : ByteArray := prog_9_method_37_code
def yX7_isSealed : MethodName := ⟨RX7, "isSealed", "(I)Z"⟩
abbrev cX7_count : ByteArray := prog_9_method_38_code
def yX7_count : MethodName := ⟨RX7, "count", "(II)I"⟩
def RJx145de : String := "java/io/Serializable"
def TJx145de : u_T := fun k => match k with
  | _ => ("", "", "", false)
def tyJx145de : Nat → FieldType := fun k => match k with
  | _ => .int
abbrev wsJx145de0 : List Cond := u_ws RJx145de TJx145de 0
theorem nmJx145de : ∀ a, a < 0 → ∀ b, b < 0 → a ≠ b → (TJx145de a).2.1 ≠ (TJx145de b).2.1 := by decide +kernel
theorem tyJx145de_ok : ∀ k, k < 0 → parseFieldDescriptor (TJx145de k).2.2.1 = some (tyJx145de k) := by decide +kernel
def RJx8e188 : String := "java/lang/Cloneable"
def TJx8e188 : u_T := fun k => match k with
  | _ => ("", "", "", false)
def tyJx8e188 : Nat → FieldType := fun k => match k with
  | _ => .int
abbrev wsJx8e1880 : List Cond := u_ws RJx8e188 TJx8e188 0
theorem nmJx8e188 : ∀ a, a < 0 → ∀ b, b < 0 → a ≠ b → (TJx8e188 a).2.1 ≠ (TJx8e188 b).2.1 := by decide +kernel
theorem tyJx8e188_ok : ∀ k, k < 0 → parseFieldDescriptor (TJx8e188 k).2.2.1 = some (tyJx8e188 k) := by decide +kernel
def RJxab1ab : String := "java/lang/Iterable"
def TJxab1ab : u_T := fun k => match k with
  | _ => ("", "", "", false)
def tyJxab1ab : Nat → FieldType := fun k => match k with
  | _ => .int
abbrev wsJxab1ab0 : List Cond := u_ws RJxab1ab TJxab1ab 0
theorem nmJxab1ab : ∀ a, a < 0 → ∀ b, b < 0 → a ≠ b → (TJxab1ab a).2.1 ≠ (TJxab1ab b).2.1 := by decide +kernel
theorem tyJxab1ab_ok : ∀ k, k < 0 → parseFieldDescriptor (TJxab1ab k).2.2.1 = some (tyJxab1ab k) := by decide +kernel
def RJ13 : String := "java/lang/Long"
def TJ13 : u_T := fun k => match k with
  | _ => ("", "", "", false)
def tyJ13 : Nat → FieldType := fun k => match k with
  | _ => .int
abbrev wsJ130 : List Cond := u_ws RJ13 TJ13 0
theorem nmJ13 : ∀ a, a < 0 → ∀ b, b < 0 → a ≠ b → (TJ13 a).2.1 ≠ (TJ13 b).2.1 := by decide +kernel
theorem tyJ13_ok : ∀ k, k < 0 → parseFieldDescriptor (TJ13 k).2.2.1 = some (tyJ13 k) := by decide +kernel
abbrev cJ13_bitCount_95d88 : ByteArray := prog_17_method_50_code
def yJ13_bitCount_95d88 : MethodName := ⟨RJ13, "bitCount", "(J)I"⟩
def RJ9 : String := "java/lang/Math"
def TJ9 : u_T := fun k => match k with
  | _ => ("", "", "", false)
def tyJ9 : Nat → FieldType := fun k => match k with
  | _ => .int
abbrev wsJ90 : List Cond := u_ws RJ9 TJ9 0
theorem nmJ9 : ∀ a, a < 0 → ∀ b, b < 0 → a ≠ b → (TJ9 a).2.1 ≠ (TJ9 b).2.1 := by decide +kernel
theorem tyJ9_ok : ∀ k, k < 0 → parseFieldDescriptor (TJ9 k).2.2.1 = some (tyJ9 k) := by decide +kernel
abbrev cJ9_max_7cf53 : ByteArray := prog_18_method_65_code
def yJ9_max_7cf53 : MethodName := ⟨RJ9, "max", "(II)I"⟩
abbrev cJ9_min_7cf53 : ByteArray := prog_18_method_69_code
def yJ9_min_7cf53 : MethodName := ⟨RJ9, "min", "(II)I"⟩
def RJ0 : String := "java/lang/String"
def TJ0 : u_T := fun k => match k with
  | _ => ("", "", "", false)
def tyJ0 : Nat → FieldType := fun k => match k with
  | _ => .int
abbrev wsJ00 : List Cond := u_ws RJ0 TJ0 0
theorem nmJ0 : ∀ a, a < 0 → ∀ b, b < 0 → a ≠ b → (TJ0 a).2.1 ≠ (TJ0 b).2.1 := by decide +kernel
theorem tyJ0_ok : ∀ k, k < 0 → parseFieldDescriptor (TJ0 k).2.2.1 = some (tyJ0 k) := by decide +kernel
def RJ10 : String := "java/lang/System"
def TJ10 : u_T := fun k => match k with
  | _ => ("", "", "", false)
def tyJ10 : Nat → FieldType := fun k => match k with
  | _ => .int
abbrev wsJ100 : List Cond := u_ws RJ10 TJ10 0
theorem nmJ10 : ∀ a, a < 0 → ∀ b, b < 0 → a ≠ b → (TJ10 a).2.1 ≠ (TJ10 b).2.1 := by decide +kernel
theorem tyJ10_ok : ∀ k, k < 0 → parseFieldDescriptor (TJ10 k).2.2.1 = some (tyJ10 k) := by decide +kernel
def RJxa1e45 : String := "java/util/AbstractCollection"
def TJxa1e45 : u_T := fun k => match k with
  | _ => ("", "", "", false)
def tyJxa1e45 : Nat → FieldType := fun k => match k with
  | _ => .int
abbrev wsJxa1e450 : List Cond := u_ws RJxa1e45 TJxa1e45 0
theorem nmJxa1e45 : ∀ a, a < 0 → ∀ b, b < 0 → a ≠ b → (TJxa1e45 a).2.1 ≠ (TJxa1e45 b).2.1 := by decide +kernel
theorem tyJxa1e45_ok : ∀ k, k < 0 → parseFieldDescriptor (TJxa1e45 k).2.2.1 = some (tyJxa1e45 k) := by decide +kernel
abbrev cJxa1e45_init_da8c8 : ByteArray := prog_23_method_1_code
def yJxa1e45_init_da8c8 : MethodName := ⟨RJxa1e45, "<init>", "()V"⟩
def RJxc12de : String := "java/util/AbstractList"
def TJxc12de : u_T := fun k => match k with
  | _ => ("", "", "", false)
def tyJxc12de : Nat → FieldType := fun k => match k with
  | _ => .int
abbrev wsJxc12de0 : List Cond := u_ws RJxc12de TJxc12de 0
theorem nmJxc12de : ∀ a, a < 0 → ∀ b, b < 0 → a ≠ b → (TJxc12de a).2.1 ≠ (TJxc12de b).2.1 := by decide +kernel
theorem tyJxc12de_ok : ∀ k, k < 0 → parseFieldDescriptor (TJxc12de k).2.2.1 = some (tyJxc12de k) := by decide +kernel
abbrev cJxc12de_init_da8c8 : ByteArray := prog_24_method_1_code
def yJxc12de_init_da8c8 : MethodName := ⟨RJxc12de, "<init>", "()V"⟩
def RJx4a65c : String := "java/util/ArrayList"
def TJx4a65c : u_T := fun k => match k with
  | 0 => ("java/util/AbstractList", "modCount", "I", false)
  | 1 => ("java/util/ArrayList", "elementData", "[Ljava/lang/Object;", false)
  | _ => ("java/util/ArrayList", "size", "I", false)
def tyJx4a65c : Nat → FieldType := fun k => match k with
  | 0 => .int
  | 1 => .array (.object "java/lang/Object")
  | _ => .int
abbrev wsJx4a65c0 : List Cond := u_ws RJx4a65c TJx4a65c 3
theorem nmJx4a65c : ∀ a, a < 3 → ∀ b, b < 3 → a ≠ b → (TJx4a65c a).2.1 ≠ (TJx4a65c b).2.1 := by decide +kernel
theorem tyJx4a65c_ok : ∀ k, k < 3 → parseFieldDescriptor (TJx4a65c k).2.2.1 = some (tyJx4a65c k) := by decide +kernel
abbrev cJx4a65c_init_da8c8 : ByteArray := prog_25_method_2_code
def yJx4a65c_init_da8c8 : MethodName := ⟨RJx4a65c, "<init>", "()V"⟩
abbrev cJx4a65c_grow_92f84 : ByteArray := prog_25_method_6_code
def yJx4a65c_grow_92f84 : MethodName := ⟨RJx4a65c, "grow", "(I)[Ljava/lang/Object;"⟩
abbrev cJx4a65c_grow_d5877 : ByteArray := prog_25_method_7_code
def yJx4a65c_grow_d5877 : MethodName := ⟨RJx4a65c, "grow", "()[Ljava/lang/Object;"⟩
abbrev cJx4a65c_size_8abf5 : ByteArray := prog_25_method_8_code
def yJx4a65c_size_8abf5 : MethodName := ⟨RJx4a65c, "size", "()I"⟩
abbrev cJx4a65c_elementData_915e3 : ByteArray := prog_25_method_18_code
def yJx4a65c_elementData_915e3 : MethodName := ⟨RJx4a65c, "elementData", "(I)Ljava/lang/Object;"⟩
abbrev cJx4a65c_get_915e3 : ByteArray := prog_25_method_20_code
def yJx4a65c_get_915e3 : MethodName := ⟨RJx4a65c, "get", "(I)Ljava/lang/Object;"⟩
abbrev cJx4a65c_add_72be8 : ByteArray := prog_25_method_24_code
def yJx4a65c_add_72be8 : MethodName := ⟨RJx4a65c, "add", "(Ljava/lang/Object;[Ljava/lang/Object;I)V"⟩
abbrev cJx4a65c_add_9ea2d : ByteArray := prog_25_method_25_code
def yJx4a65c_add_9ea2d : MethodName := ⟨RJx4a65c, "add", "(Ljava/lang/Object;)Z"⟩
def RJ7 : String := "java/util/Arrays"
def TJ7 : u_T := fun k => match k with
  | _ => ("", "", "", false)
def tyJ7 : Nat → FieldType := fun k => match k with
  | _ => .int
abbrev wsJ70 : List Cond := u_ws RJ7 TJ7 0
theorem nmJ7 : ∀ a, a < 0 → ∀ b, b < 0 → a ≠ b → (TJ7 a).2.1 ≠ (TJ7 b).2.1 := by decide +kernel
theorem tyJ7_ok : ∀ k, k < 0 → parseFieldDescriptor (TJ7 k).2.2.1 = some (tyJ7 k) := by decide +kernel
abbrev cJ7_copyOf_1904c : ByteArray := prog_26_method_119_code
def yJ7_copyOf_1904c : MethodName := ⟨RJ7, "copyOf", "([Ljava/lang/Object;I)[Ljava/lang/Object;"⟩
abbrev cJ7_copyOf_6403c : ByteArray := prog_26_method_120_code
def yJ7_copyOf_6403c : MethodName := ⟨RJ7, "copyOf", "([Ljava/lang/Object;ILjava/lang/Class;)[Ljava/lang/Object;"⟩
def RJx5ef63 : String := "java/util/Collection"
def TJx5ef63 : u_T := fun k => match k with
  | _ => ("", "", "", false)
def tyJx5ef63 : Nat → FieldType := fun k => match k with
  | _ => .int
abbrev wsJx5ef630 : List Cond := u_ws RJx5ef63 TJx5ef63 0
theorem nmJx5ef63 : ∀ a, a < 0 → ∀ b, b < 0 → a ≠ b → (TJx5ef63 a).2.1 ≠ (TJx5ef63 b).2.1 := by decide +kernel
theorem tyJx5ef63_ok : ∀ k, k < 0 → parseFieldDescriptor (TJx5ef63 k).2.2.1 = some (tyJx5ef63 k) := by decide +kernel
def RJxbd725 : String := "java/util/List"
def TJxbd725 : u_T := fun k => match k with
  | _ => ("", "", "", false)
def tyJxbd725 : Nat → FieldType := fun k => match k with
  | _ => .int
abbrev wsJxbd7250 : List Cond := u_ws RJxbd725 TJxbd725 0
theorem nmJxbd725 : ∀ a, a < 0 → ∀ b, b < 0 → a ≠ b → (TJxbd725 a).2.1 ≠ (TJxbd725 b).2.1 := by decide +kernel
theorem tyJxbd725_ok : ∀ k, k < 0 → parseFieldDescriptor (TJxbd725 k).2.2.1 = some (tyJxbd725 k) := by decide +kernel
def RJ15 : String := "java/util/Objects"
def TJ15 : u_T := fun k => match k with
  | _ => ("", "", "", false)
def tyJ15 : Nat → FieldType := fun k => match k with
  | _ => .int
abbrev wsJ150 : List Cond := u_ws RJ15 TJ15 0
theorem nmJ15 : ∀ a, a < 0 → ∀ b, b < 0 → a ≠ b → (TJ15 a).2.1 ≠ (TJ15 b).2.1 := by decide +kernel
theorem tyJ15_ok : ∀ k, k < 0 → parseFieldDescriptor (TJ15 k).2.2.1 = some (tyJ15 k) := by decide +kernel
abbrev cJ15_checkIndex_7cf53 : ByteArray := prog_29_method_17_code
def yJ15_checkIndex_7cf53 : MethodName := ⟨RJ15, "checkIndex", "(II)I"⟩
def RJxf0a74 : String := "java/util/RandomAccess"
def TJxf0a74 : u_T := fun k => match k with
  | _ => ("", "", "", false)
def tyJxf0a74 : Nat → FieldType := fun k => match k with
  | _ => .int
abbrev wsJxf0a740 : List Cond := u_ws RJxf0a74 TJxf0a74 0
theorem nmJxf0a74 : ∀ a, a < 0 → ∀ b, b < 0 → a ≠ b → (TJxf0a74 a).2.1 ≠ (TJxf0a74 b).2.1 := by decide +kernel
theorem tyJxf0a74_ok : ∀ k, k < 0 → parseFieldDescriptor (TJxf0a74 k).2.2.1 = some (tyJxf0a74 k) := by decide +kernel
def RJxa66e6 : String := "java/util/SequencedCollection"
def TJxa66e6 : u_T := fun k => match k with
  | _ => ("", "", "", false)
def tyJxa66e6 : Nat → FieldType := fun k => match k with
  | _ => .int
abbrev wsJxa66e60 : List Cond := u_ws RJxa66e6 TJxa66e6 0
theorem nmJxa66e6 : ∀ a, a < 0 → ∀ b, b < 0 → a ≠ b → (TJxa66e6 a).2.1 ≠ (TJxa66e6 b).2.1 := by decide +kernel
theorem tyJxa66e6_ok : ∀ k, k < 0 → parseFieldDescriptor (TJxa66e6 k).2.2.1 = some (tyJxa66e6 k) := by decide +kernel
def RJ8 : String := "jdk/internal/util/ArraysSupport"
def TJ8 : u_T := fun k => match k with
  | _ => ("", "", "", false)
def tyJ8 : Nat → FieldType := fun k => match k with
  | _ => .int
abbrev wsJ80 : List Cond := u_ws RJ8 TJ8 0
theorem nmJ8 : ∀ a, a < 0 → ∀ b, b < 0 → a ≠ b → (TJ8 a).2.1 ≠ (TJ8 b).2.1 := by decide +kernel
theorem tyJ8_ok : ∀ k, k < 0 → parseFieldDescriptor (TJ8 k).2.2.1 = some (tyJ8 k) := by decide +kernel
abbrev cJ8_newLength_cabcc : ByteArray := prog_32_method_27_code
def yJ8_newLength_cabcc : MethodName := ⟨RJ8, "newLength", "(III)I"⟩
abbrev cJ8_hugeLength_7cf53 : ByteArray := prog_32_method_28_code
def yJ8_hugeLength_7cf53 : MethodName := ⟨RJ8, "hugeLength", "(II)I"⟩
def RJ3 : String := "jdk/internal/util/Preconditions"
def TJ3 : u_T := fun k => match k with
  | _ => ("", "", "", false)
def tyJ3 : Nat → FieldType := fun k => match k with
  | _ => .int
abbrev wsJ30 : List Cond := u_ws RJ3 TJ3 0
theorem nmJ3 : ∀ a, a < 0 → ∀ b, b < 0 → a ≠ b → (TJ3 a).2.1 ≠ (TJ3 b).2.1 := by decide +kernel
theorem tyJ3_ok : ∀ k, k < 0 → parseFieldDescriptor (TJ3 k).2.2.1 = some (tyJ3 k) := by decide +kernel
abbrev cJ3_checkIndex_8e157 : ByteArray := prog_33_method_11_code
def yJ3_checkIndex_8e157 : MethodName := ⟨RJ3, "checkIndex", "(IILjava/util/function/BiFunction;)I"⟩
def RL : String := "DataroomLaw"
abbrev cL_file : ByteArray := method_3_code
def yL_file : MethodName := ⟨RL, "file", "(LDataroom;I[J)I"⟩
abbrev cL_change : ByteArray := method_4_code
def yL_change : MethodName := ⟨RL, "change", "(LDataroom;II[J)I"⟩
abbrev cL_party : ByteArray := method_5_code
def yL_party : MethodName := ⟨RL, "party", "(LDataroom;I[J)I"⟩
abbrev cL_budget : ByteArray := method_6_code
def yL_budget : MethodName := ⟨RL, "budget", "(LDataroom;II[J)I"⟩
abbrev cL_right : ByteArray := method_7_code
def yL_right : MethodName := ⟨RL, "right", "(LDataroom;IIIII)I"⟩
abbrev cL_takeBack : ByteArray := method_8_code
def yL_takeBack : MethodName := ⟨RL, "takeBack", "(LDataroom;II[J)I"⟩
abbrev cL_seal : ByteArray := method_9_code
def yL_seal : MethodName := ⟨RL, "seal", "(LDataroom;II)I"⟩
abbrev cL_pass : ByteArray := method_10_code
def yL_pass : MethodName := ⟨RL, "pass", "(LDataroom;I[J)I"⟩
abbrev cL_ask : ByteArray := method_11_code
def yL_ask : MethodName := ⟨RL, "ask", "(LDataroom;III[J)I"⟩
abbrev cL_cost : ByteArray := method_12_code
def yL_cost : MethodName := ⟨RL, "cost", "(LDataroom;III[J)I"⟩
abbrev cL_answer : ByteArray := method_13_code
def yL_answer : MethodName := ⟨RL, "answer", "(LDataroom;II[J)I"⟩
abbrev cL_spent : ByteArray := method_14_code
def yL_spent : MethodName := ⟨RL, "spent", "(LDataroom;I[J)I"⟩
abbrev cL_spentAnew : ByteArray := method_15_code
def yL_spentAnew : MethodName := ⟨RL, "spentAnew", "(LDataroom;I[J)I"⟩
abbrev cL_finds : ByteArray := method_16_code
def yL_finds : MethodName := ⟨RL, "finds", "(LDataroom;II[J)I"⟩
abbrev cL_together : ByteArray := method_17_code
def yL_together : MethodName := ⟨RL, "together", "(LDataroom;II[J)I"⟩
abbrev cL_rightTo : ByteArray := method_18_code
def yL_rightTo : MethodName := ⟨RL, "rightTo", "(LDataroom;II[J)I"⟩
abbrev cL_isSealed : ByteArray := method_19_code
def yL_isSealed : MethodName := ⟨RL, "isSealed", "(LDataroom;I[J)I"⟩
abbrev cL_count : ByteArray := method_20_code
def yL_count : MethodName := ⟨RL, "count", "(LDataroom;II[J)I"⟩
abbrev cL_law : ByteArray := code
def yL_law : MethodName := ⟨RL, "law", "([I)Z"⟩
def wsX0_init : List Cond := .code yX0_init cX0_init 6 none :: ([.methodLink RX0 1 objectInit, .instanceMethod objectInit, .code objectInit ⟨#[0xb1]⟩ 1 none, .fieldLink RX0 7 "Dataroom$Answer" "party" "I", .fieldLink RX0 13 "Dataroom$Answer" "files" "I", .fieldLink RX0 16 "Dataroom$Answer" "bit" "I", .fieldLink RX0 19 "Dataroom$Answer" "given" "I", .fieldLink RX0 22 "Dataroom$Answer" "hour" "I"] ++ wsX00)
def wsX0_standsFor : List Cond := .code yX0_standsFor cX0_standsFor 2 (some .boolean) :: ([.fieldLink RX0 25 "Dataroom$Answer" "recalled" "Z", .fieldLink RX0 7 "Dataroom$Answer" "party" "I"] ++ wsX00 ++ wsX40)
def wsX0_tell : List Cond := .code yX0_tell cX0_tell 2 (some .int) :: ([.fieldLink RX0 7 "Dataroom$Answer" "party" "I", .fieldLink RX0 13 "Dataroom$Answer" "files" "I", .fieldLink RX0 16 "Dataroom$Answer" "bit" "I", .fieldLink RX0 19 "Dataroom$Answer" "given" "I", .fieldLink RX0 25 "Dataroom$Answer" "recalled" "Z", .fieldLink RX0 22 "Dataroom$Answer" "hour" "I"] ++ wsX00)
def wsX1_init : List Cond := .code yX1_init cX1_init 2 none :: ([.methodLink RX1 3 objectInit, .instanceMethod objectInit, .code objectInit ⟨#[0xb1]⟩ 1 none, .fieldLink RX1 9 "Dataroom$Card" "sealedTill" "I", .fieldLink RX1 15 "Dataroom$Card" "number" "I"] ++ wsX10)
def wsX1_isClosedIn : List Cond := .code yX1_isClosedIn cX1_isClosedIn 2 (some .boolean) :: ([.fieldLink RX1 9 "Dataroom$Card" "sealedTill" "I"] ++ wsX10)
def wsX2_init : List Cond := .code yX2_init cX2_init 1 none :: ([.methodLink RX2 3 objectInit, .instanceMethod objectInit, .code objectInit ⟨#[0xb1]⟩ 1 none, .arrayClass .int, .fieldLink RX2 9 "Dataroom$Knowledge" "rows" "[I"] ++ wsX20)
def wsX2_forget : List Cond := .code yX2_forget cX2_forget 2 none :: ([.fieldLink RX2 9 "Dataroom$Knowledge" "rows" "[I", .fieldLink RX2 15 "Dataroom$Knowledge" "learned" "I"] ++ wsX20)
def wsX6_holds : List Cond := .code yX6_holds cX6_holds 2 (some .boolean) :: ([])
def wsX2_learn : List Cond := .code yX2_learn cX2_learn 4 none :: ([.fieldLink RX2 9 "Dataroom$Knowledge" "rows" "[I", .fieldLink RX2 15 "Dataroom$Knowledge" "learned" "I", .static yX6_holds, .initialized RX6, .code yX6_holds cX6_holds 2 (some .boolean)] ++ wsX20)
def wsX2_learnFrom : List Cond := .code yX2_learnFrom cX2_learnFrom 3 none :: ([.fieldLink RX2 9 "Dataroom$Knowledge" "rows" "[I", .methodLink RX2 23 yX2_learn, .instanceMethod yX2_learn, .selects RX2 yX2_learn yX2_learn, .initialized RX2, .code yX2_learn cX2_learn 4 none, .fieldLink RX2 15 "Dataroom$Knowledge" "learned" "I", .static yX6_holds, .initialized RX6, .code yX6_holds cX6_holds 2 (some .boolean)] ++ wsX20)
def wsX2_knows : List Cond := .code yX2_knows cX2_knows 4 (some .boolean) :: ([.fieldLink RX2 9 "Dataroom$Knowledge" "rows" "[I", .static yX6_holds, .initialized RX6, .code yX6_holds cX6_holds 2 (some .boolean)] ++ wsX20)
def wsX2_wouldReach : List Cond := .code yX2_wouldReach cX2_wouldReach 3 (some .boolean) :: ([.methodLink RX2 27 yX2_knows, .instanceMethod yX2_knows, .selects RX2 yX2_knows yX2_knows, .initialized RX2, .code yX2_knows cX2_knows 4 (some .boolean), .fieldLink RX2 9 "Dataroom$Knowledge" "rows" "[I", .static yX6_holds, .initialized RX6, .code yX6_holds cX6_holds 2 (some .boolean)] ++ wsX20)
def wsX3_init : List Cond := .code yX3_init cX3_init 1 none :: ([.methodLink RX3 3 objectInit, .instanceMethod objectInit, .code objectInit ⟨#[0xb1]⟩ 1 none, .arrayClass .long, .fieldLink RX3 11 "Dataroom$Marks" "words" "[J"] ++ wsX30)
def wsX3_begin : List Cond := .code yX3_begin cX3_begin 3 none :: ([.fieldLink RX3 11 "Dataroom$Marks" "words" "[J", .methodLink RX3 15 Lib.Math.max.name, .static Lib.Math.max.name, .initialized "java/lang/Math", .code Lib.Math.max.name Lib.Math.max.code 2 (some .int), .methodLink RX3 21 Lib.Math.min.name, .static Lib.Math.min.name, .code Lib.Math.min.name Lib.Math.min.code 2 (some .int), .fieldLink RX3 24 "Dataroom$Marks" "used" "I"] ++ wsX30)
def wsX3_isMarked : List Cond := .code yX3_isMarked cX3_isMarked 3 (some .boolean) :: ([.fieldLink RX3 24 "Dataroom$Marks" "used" "I", .fieldLink RX3 11 "Dataroom$Marks" "words" "[J"] ++ wsX30)
def wsX3_crossed : List Cond := .code yX3_crossed cX3_crossed 7 (some .long) :: ([.fieldLink RX3 42 "Dataroom$Marks" "LACKING" "[J", .static yX6_holds, .initialized RX6, .code yX6_holds cX6_holds 2 (some .boolean)])
def wsX3_add : List Cond := .code yX3_add cX3_add 4 none :: ([.fieldLink RX3 24 "Dataroom$Marks" "used" "I", .fieldLink RX3 11 "Dataroom$Marks" "words" "[J", .methodLink RX3 28 yX3_isMarked, .instanceMethod yX3_isMarked, .selects RX3 yX3_isMarked yX3_isMarked, .initialized RX3, .code yX3_isMarked cX3_isMarked 3 (some .boolean), .methodLink RX3 32 yX3_crossed, .static yX3_crossed, .code yX3_crossed cX3_crossed 7 (some .long), .fieldLink RX3 42 "Dataroom$Marks" "LACKING" "[J", .static yX6_holds, .initialized RX6, .code yX6_holds cX6_holds 2 (some .boolean)] ++ wsX30)
def wsJ13_bitCount_95d88 : List Cond := .code yJ13_bitCount_95d88 cJ13_bitCount_95d88 2 (some .int) :: ([.constantLong RJ13 314 (6148914691236517205), .constantLong RJ13 316 (3689348814741910323), .constantLong RJ13 318 (1085102592571150095)])
def wsX3_sets : List Cond := .code yX3_sets cX3_sets 3 (some .int) :: ([.fieldLink RX3 24 "Dataroom$Marks" "used" "I", .fieldLink RX3 11 "Dataroom$Marks" "words" "[J", .methodLink RX3 36 yJ13_bitCount_95d88, .static yJ13_bitCount_95d88, .initialized RJ13, .code yJ13_bitCount_95d88 cJ13_bitCount_95d88 2 (some .int), .constantLong RJ13 314 (6148914691236517205), .constantLong RJ13 316 (3689348814741910323), .constantLong RJ13 318 (1085102592571150095)] ++ wsX30)
def wsX4_init : List Cond := .code yX4_init cX4_init 4 none :: ([.methodLink RX4 3 objectInit, .instanceMethod objectInit, .code objectInit ⟨#[0xb1]⟩ 1 none, .classLink RX4 9 RX5, .fieldLink RX4 11 "Dataroom$Party" "rights" "[LDataroom$Right;", .classLink RX4 17 RX2, .fieldLink RX4 19 "Dataroom$Party" "known" "[LDataroom$Knowledge;", .arrayClass .int, .fieldLink RX4 23 "Dataroom$Party" "fared" "[I", .fieldLink RX4 27 "Dataroom$Party" "place" "I", .fieldLink RX4 31 "Dataroom$Party" "budget" "I", .instantiable RX2 2, .initialized RX2, .instanceMethod yX2_init, .code yX2_init cX2_init 1 none, .methodLink RX2 3 objectInit, .fieldLink RX2 9 "Dataroom$Knowledge" "rows" "[I"] ++ wsX40 ++ wsX20)
def wsX4_rightFor : List Cond := .code yX4_rightFor cX4_rightFor 2 (some (.object "Dataroom$Right")) :: ([.fieldLink RX4 11 "Dataroom$Party" "rights" "[LDataroom$Right;"] ++ wsX40)
def wsX4_setRight : List Cond := .code yX4_setRight cX4_setRight 3 none :: ([.fieldLink RX4 11 "Dataroom$Party" "rights" "[LDataroom$Right;"] ++ wsX40)
def wsX5_in : List Cond := .code yX5_in cX5_in 2 (some .int) :: ([.fieldLink RX5 15 "Dataroom$Right" "from" "I", .fieldLink RX5 18 "Dataroom$Right" "to" "I", .fieldLink RX5 9 "Dataroom$Right" "kind" "I"] ++ wsX50)
def wsX4_rightIn : List Cond := .code yX4_rightIn cX4_rightIn 4 (some .int) :: ([.methodLink RX4 35 yX4_rightFor, .instanceMethod yX4_rightFor, .selects RX4 yX4_rightFor yX4_rightFor, .initialized RX4, .code yX4_rightFor cX4_rightFor 2 (some (.object "Dataroom$Right")), .fieldLink RX4 11 "Dataroom$Party" "rights" "[LDataroom$Right;", .methodLink RX4 39 yX5_in, .instanceMethod yX5_in, .selects RX5 yX5_in yX5_in, .initialized RX5, .code yX5_in cX5_in 2 (some .int), .fieldLink RX5 15 "Dataroom$Right" "from" "I", .fieldLink RX5 18 "Dataroom$Right" "to" "I", .fieldLink RX5 9 "Dataroom$Right" "kind" "I"] ++ wsX40 ++ wsX50)
def wsX4_countQuestion : List Cond := .code yX4_countQuestion cX4_countQuestion 3 none :: ([.fieldLink RX4 23 "Dataroom$Party" "fared" "[I"] ++ wsX40)
def wsX4_questions : List Cond := .code yX4_questions cX4_questions 2 (some .int) :: ([.fieldLink RX4 23 "Dataroom$Party" "fared" "[I"] ++ wsX40)
def wsX6_covers : List Cond := .code yX6_covers cX6_covers 2 (some .boolean) :: ([])
def wsX4_learn : List Cond := .code yX4_learn cX4_learn 4 none :: ([.fieldLink RX4 19 "Dataroom$Party" "known" "[LDataroom$Knowledge;", .static yX6_covers, .initialized RX6, .code yX6_covers cX6_covers 2 (some .boolean), .methodLink RX4 47 yX2_learn, .instanceMethod yX2_learn, .selects RX2 yX2_learn yX2_learn, .initialized RX2, .code yX2_learn cX2_learn 4 none, .fieldLink RX2 9 "Dataroom$Knowledge" "rows" "[I", .fieldLink RX2 15 "Dataroom$Knowledge" "learned" "I", .static yX6_holds, .code yX6_holds cX6_holds 2 (some .boolean)] ++ wsX40 ++ wsX20)
def wsX4_forget : List Cond := .code yX4_forget cX4_forget 2 none :: ([.fieldLink RX4 19 "Dataroom$Party" "known" "[LDataroom$Knowledge;", .methodLink RX4 51 yX2_forget, .instanceMethod yX2_forget, .selects RX2 yX2_forget yX2_forget, .initialized RX2, .code yX2_forget cX2_forget 2 none, .fieldLink RX2 9 "Dataroom$Knowledge" "rows" "[I", .fieldLink RX2 15 "Dataroom$Knowledge" "learned" "I"] ++ wsX40 ++ wsX20)
def wsX4_learnedInAll : List Cond := .code yX4_learnedInAll cX4_learnedInAll 3 (some .int) :: ([.fieldLink RX4 19 "Dataroom$Party" "known" "[LDataroom$Knowledge;"] ++ wsX40 ++ wsX20)
def wsX4_costOf : List Cond := .code yX4_costOf cX4_costOf 5 (some .int) :: ([.fieldLink RX4 19 "Dataroom$Party" "known" "[LDataroom$Knowledge;", .static yX6_covers, .initialized RX6, .code yX6_covers cX6_covers 2 (some .boolean), .methodLink RX4 57 yX2_knows, .instanceMethod yX2_knows, .selects RX2 yX2_knows yX2_knows, .initialized RX2, .code yX2_knows cX2_knows 4 (some .boolean), .fieldLink RX2 9 "Dataroom$Knowledge" "rows" "[I", .static yX6_holds, .code yX6_holds cX6_holds 2 (some .boolean)] ++ wsX40 ++ wsX20)
def wsX4_wouldFind : List Cond := .code yX4_wouldFind cX4_wouldFind 5 (some .boolean) :: ([.fieldLink RX4 19 "Dataroom$Party" "known" "[LDataroom$Knowledge;", .static yX6_covers, .initialized RX6, .code yX6_covers cX6_covers 2 (some .boolean), .methodLink RX4 69 yX2_wouldReach, .instanceMethod yX2_wouldReach, .selects RX2 yX2_wouldReach yX2_wouldReach, .initialized RX2, .code yX2_wouldReach cX2_wouldReach 3 (some .boolean), .methodLink RX2 27 yX2_knows, .instanceMethod yX2_knows, .selects RX2 yX2_knows yX2_knows, .code yX2_knows cX2_knows 4 (some .boolean), .fieldLink RX2 9 "Dataroom$Knowledge" "rows" "[I", .static yX6_holds, .code yX6_holds cX6_holds 2 (some .boolean)] ++ wsX40 ++ wsX20)
def wsX4_wouldFindUnread_r1 : List Cond := [Cond.fieldLink RX4 11 "Dataroom$Party" "rights" "[LDataroom$Right;", Cond.methodLink RX4 61 yX4_rightIn, Cond.instanceMethod yX4_rightIn, Cond.selects RX4 yX4_rightIn yX4_rightIn, Cond.initialized RX4, Cond.code yX4_rightIn cX4_rightIn 4 (some .int), Cond.methodLink RX4 35 yX4_rightFor, Cond.instanceMethod yX4_rightFor, Cond.selects RX4 yX4_rightFor yX4_rightFor, Cond.code yX4_rightFor cX4_rightFor 2 (some (.object "Dataroom$Right")), Cond.methodLink RX4 39 yX5_in, Cond.instanceMethod yX5_in, Cond.selects RX5 yX5_in yX5_in, Cond.initialized RX5, Cond.code yX5_in cX5_in 2 (some .int), Cond.fieldLink RX5 15 "Dataroom$Right" "from" "I", Cond.fieldLink RX5 18 "Dataroom$Right" "to" "I", Cond.fieldLink RX5 9 "Dataroom$Right" "kind" "I", Cond.methodLink RX4 65 yX4_wouldFind, Cond.instanceMethod yX4_wouldFind, Cond.selects RX4 yX4_wouldFind yX4_wouldFind, Cond.code yX4_wouldFind cX4_wouldFind 5 (some .boolean), Cond.fieldLink RX4 19 "Dataroom$Party" "known" "[LDataroom$Knowledge;", Cond.static yX6_covers]
def wsX4_wouldFindUnread_r2 : List Cond := [Cond.initialized RX6, Cond.code yX6_covers cX6_covers 2 (some .boolean), Cond.methodLink RX4 69 yX2_wouldReach, Cond.instanceMethod yX2_wouldReach, Cond.selects RX2 yX2_wouldReach yX2_wouldReach, Cond.initialized RX2, Cond.code yX2_wouldReach cX2_wouldReach 3 (some .boolean), Cond.methodLink RX2 27 yX2_knows, Cond.instanceMethod yX2_knows, Cond.selects RX2 yX2_knows yX2_knows, Cond.code yX2_knows cX2_knows 4 (some .boolean), Cond.fieldLink RX2 9 "Dataroom$Knowledge" "rows" "[I", Cond.static yX6_holds, Cond.code yX6_holds cX6_holds 2 (some .boolean)]
def wsX4_wouldFindUnread : List Cond := .code yX4_wouldFindUnread cX4_wouldFindUnread 5 (some .boolean) :: ((wsX4_wouldFindUnread_r1 ++ wsX4_wouldFindUnread_r2) ++ wsX40 ++ wsX50 ++ wsX20)
def wsX5_init : List Cond := .code yX5_init cX5_init 4 none :: ([.methodLink RX5 3 objectInit, .instanceMethod objectInit, .code objectInit ⟨#[0xb1]⟩ 1 none, .fieldLink RX5 9 "Dataroom$Right" "kind" "I", .fieldLink RX5 15 "Dataroom$Right" "from" "I", .fieldLink RX5 18 "Dataroom$Right" "to" "I"] ++ wsX50)
def wsJxa1e45_init_da8c8 : List Cond := .code yJxa1e45_init_da8c8 cJxa1e45_init_da8c8 1 none :: ([.methodLink RJxa1e45 1 objectInit, .instanceMethod objectInit, .code objectInit ⟨#[0xb1]⟩ 1 none])
def wsJxc12de_init_da8c8 : List Cond := .code yJxc12de_init_da8c8 cJxc12de_init_da8c8 1 none :: ([.fieldLink RJxc12de 7 "java/util/AbstractList" "modCount" "I", .methodLink RJxc12de 1 yJxa1e45_init_da8c8, .instanceMethod yJxa1e45_init_da8c8, .initialized RJxa1e45, .code yJxa1e45_init_da8c8 cJxa1e45_init_da8c8 1 none, .methodLink RJxa1e45 1 objectInit, .instanceMethod objectInit, .code objectInit ⟨#[0xb1]⟩ 1 none] ++ wsJx4a65c0)
def wsJx4a65c_init_da8c8 : List Cond := .code yJx4a65c_init_da8c8 cJx4a65c_init_da8c8 1 none :: ([.fieldLink RJx4a65c 39 "java/util/ArrayList" "DEFAULTCAPACITY_EMPTY_ELEMENTDATA" "[Ljava/lang/Object;", .fieldLink RJx4a65c 9 "java/util/ArrayList" "elementData" "[Ljava/lang/Object;", .methodLink RJx4a65c 1 yJxc12de_init_da8c8, .instanceMethod yJxc12de_init_da8c8, .initialized RJxc12de, .code yJxc12de_init_da8c8 cJxc12de_init_da8c8 1 none, .fieldLink RJxc12de 7 "java/util/AbstractList" "modCount" "I", .methodLink RJxc12de 1 yJxa1e45_init_da8c8, .instanceMethod yJxa1e45_init_da8c8, .initialized RJxa1e45, .code yJxa1e45_init_da8c8 cJxa1e45_init_da8c8 1 none, .methodLink RJxa1e45 1 objectInit, .instanceMethod objectInit, .code objectInit ⟨#[0xb1]⟩ 1 none] ++ wsJx4a65c0)
def wsX6_init_r1 : List Cond := [Cond.methodLink RX6 1 objectInit, Cond.instanceMethod objectInit, Cond.code objectInit ⟨#[0xb1]⟩ 1 none, Cond.classLink RX6 7 RJx4a65c, Cond.instantiable RJx4a65c 3, Cond.initialized RJx4a65c, Cond.fieldLink RX6 10 "Dataroom" "allFiles" "Ljava/util/ArrayList;", Cond.fieldLink RX6 16 "Dataroom" "allParties" "Ljava/util/ArrayList;", Cond.fieldLink RX6 19 "Dataroom" "allAnswers" "Ljava/util/ArrayList;", Cond.classLink RX6 22 RX2, Cond.instantiable RX2 2, Cond.initialized RX2, Cond.fieldLink RX6 25 "Dataroom" "shared" "LDataroom$Knowledge;", Cond.classLink RX6 29 RX3, Cond.instantiable RX3 2, Cond.initialized RX3, Cond.fieldLink RX6 32 "Dataroom" "marks" "LDataroom$Marks;", Cond.methodLink RX6 9 yJx4a65c_init_da8c8, Cond.instanceMethod yJx4a65c_init_da8c8, Cond.code yJx4a65c_init_da8c8 cJx4a65c_init_da8c8 1 none, Cond.fieldLink RJx4a65c 39 "java/util/ArrayList" "DEFAULTCAPACITY_EMPTY_ELEMENTDATA" "[Ljava/lang/Object;", Cond.fieldLink RJx4a65c 9 "java/util/ArrayList" "elementData" "[Ljava/lang/Object;", Cond.methodLink RJx4a65c 1 yJxc12de_init_da8c8, Cond.instanceMethod yJxc12de_init_da8c8]
def wsX6_init_r2 : List Cond := [Cond.initialized RJxc12de, Cond.code yJxc12de_init_da8c8 cJxc12de_init_da8c8 1 none, Cond.fieldLink RJxc12de 7 "java/util/AbstractList" "modCount" "I", Cond.methodLink RJxc12de 1 yJxa1e45_init_da8c8, Cond.instanceMethod yJxa1e45_init_da8c8, Cond.initialized RJxa1e45, Cond.code yJxa1e45_init_da8c8 cJxa1e45_init_da8c8 1 none, Cond.methodLink RJxa1e45 1 objectInit, Cond.instanceMethod yX2_init, Cond.code yX2_init cX2_init 1 none, Cond.methodLink RX2 3 objectInit, Cond.arrayClass .int, Cond.fieldLink RX2 9 "Dataroom$Knowledge" "rows" "[I", Cond.instanceMethod yX3_init, Cond.code yX3_init cX3_init 1 none, Cond.methodLink RX3 3 objectInit, Cond.arrayClass .long, Cond.fieldLink RX3 11 "Dataroom$Marks" "words" "[J"]
def wsX6_init : List Cond := .code yX6_init cX6_init 1 none :: ((wsX6_init_r1 ++ wsX6_init_r2) ++ wsJx4a65c0 ++ wsX60 ++ wsX20 ++ wsX30)
def wsX6_requireRange : List Cond := .code yX6_requireRange cX6_requireRange 3 none :: ([.classLink RX6 189 "java/lang/IllegalArgumentException", .initialized "java/lang/IllegalArgumentException"] ++ (vx_atS RX6 193 "java/lang/IllegalArgumentException" ["java/lang/RuntimeException", "java/lang/Exception"]).filter goodWord)
def wsJx4a65c_size_8abf5 : List Cond := .code yJx4a65c_size_8abf5 cJx4a65c_size_8abf5 1 (some .int) :: ([.fieldLink RJx4a65c 48 "java/util/ArrayList" "size" "I"] ++ wsJx4a65c0)
def wsJ8_hugeLength_7cf53 : List Cond := .code yJ8_hugeLength_7cf53 cJ8_hugeLength_7cf53 3 (some .int) :: ([.constant RJ8 200 (2147483639)])
def wsJ8_newLength_cabcc : List Cond := .code yJ8_newLength_cabcc cJ8_newLength_cabcc 4 (some .int) :: ([.methodLink RJ8 194 Lib.Math.max.name, .static Lib.Math.max.name, .initialized "java/lang/Math", .code Lib.Math.max.name Lib.Math.max.code 2 (some .int), .constant RJ8 200 (2147483639), .methodLink RJ8 201 yJ8_hugeLength_7cf53, .static yJ8_hugeLength_7cf53, .initialized RJ8, .code yJ8_hugeLength_7cf53 cJ8_hugeLength_7cf53 3 (some .int)])
def wsJ7_copyOf_6403c : List Cond := .code yJ7_copyOf_6403c cJ7_copyOf_6403c 4 (some (.array (.object "java/lang/Object"))) :: ([.classLink RJ7 110 "[Ljava/lang/Object;", .classLink RJ7 2 "java/lang/Object", .methodLink RJ7 304 Lib.Math.min.name, .static Lib.Math.min.name, .initialized "java/lang/Math", .code Lib.Math.min.name Lib.Math.min.code 2 (some .int), .methodLink RJ7 150 arraycopyName, .native arraycopyName, .static arraycopyName, .initialized "java/lang/System"])
def wsJ7_copyOf_1904c : List Cond := .code yJ7_copyOf_1904c cJ7_copyOf_1904c 2 (some (.array (.object "java/lang/Object"))) :: ([.methodLink RJ7 86 ⟨"java/lang/Object", "getClass", "()Ljava/lang/Class;"⟩, .selects "[Ljava/lang/Object;" ⟨"java/lang/Object", "getClass", "()Ljava/lang/Class;"⟩ ⟨"java/lang/Object", "getClass", "()Ljava/lang/Class;"⟩, .instanceMethod ⟨"java/lang/Object", "getClass", "()Ljava/lang/Class;"⟩, .native ⟨"java/lang/Object", "getClass", "()Ljava/lang/Class;"⟩, .methodLink RJ7 300 yJ7_copyOf_6403c, .static yJ7_copyOf_6403c, .initialized RJ7, .code yJ7_copyOf_6403c cJ7_copyOf_6403c 4 (some (.array (.object "java/lang/Object"))), .classLink RJ7 110 "[Ljava/lang/Object;", .classLink RJ7 2 "java/lang/Object", .methodLink RJ7 304 Lib.Math.min.name, .static Lib.Math.min.name, .initialized "java/lang/Math", .code Lib.Math.min.name Lib.Math.min.code 2 (some .int), .methodLink RJ7 150 arraycopyName, .native arraycopyName, .static arraycopyName, .initialized "java/lang/System"])
def wsJx4a65c_grow_92f84_r1 : List Cond := [Cond.fieldLink RJx4a65c 9 "java/util/ArrayList" "elementData" "[Ljava/lang/Object;", Cond.fieldLink RJx4a65c 39 "java/util/ArrayList" "DEFAULTCAPACITY_EMPTY_ELEMENTDATA" "[Ljava/lang/Object;", Cond.methodLink RJx4a65c 79 Lib.Math.max.name, Cond.static Lib.Math.max.name, Cond.initialized "java/lang/Math", Cond.code Lib.Math.max.name Lib.Math.max.code 2 (some .int), Cond.classLink RJx4a65c 7 "java/lang/Object", Cond.methodLink RJx4a65c 73 yJ8_newLength_cabcc, Cond.static yJ8_newLength_cabcc, Cond.initialized RJ8, Cond.code yJ8_newLength_cabcc cJ8_newLength_cabcc 4 (some .int), Cond.methodLink RJ8 194 Lib.Math.max.name, Cond.constant RJ8 200 (2147483639), Cond.methodLink RJ8 201 yJ8_hugeLength_7cf53, Cond.static yJ8_hugeLength_7cf53, Cond.code yJ8_hugeLength_7cf53 cJ8_hugeLength_7cf53 3 (some .int), Cond.methodLink RJx4a65c 66 yJ7_copyOf_1904c, Cond.static yJ7_copyOf_1904c, Cond.initialized RJ7, Cond.code yJ7_copyOf_1904c cJ7_copyOf_1904c 2 (some (.array (.object "java/lang/Object"))), Cond.methodLink RJ7 86 ⟨"java/lang/Object", "getClass", "()Ljava/lang/Class;"⟩, Cond.selects "[Ljava/lang/Object;" ⟨"java/lang/Object", "getClass", "()Ljava/lang/Class;"⟩ ⟨"java/lang/Object", "getClass", "()Ljava/lang/Class;"⟩, Cond.instanceMethod ⟨"java/lang/Object", "getClass", "()Ljava/lang/Class;"⟩, Cond.native ⟨"java/lang/Object", "getClass", "()Ljava/lang/Class;"⟩]
def wsJx4a65c_grow_92f84_r2 : List Cond := [Cond.methodLink RJ7 300 yJ7_copyOf_6403c, Cond.static yJ7_copyOf_6403c, Cond.code yJ7_copyOf_6403c cJ7_copyOf_6403c 4 (some (.array (.object "java/lang/Object"))), Cond.classLink RJ7 110 "[Ljava/lang/Object;", Cond.classLink RJ7 2 "java/lang/Object", Cond.methodLink RJ7 304 Lib.Math.min.name, Cond.static Lib.Math.min.name, Cond.code Lib.Math.min.name Lib.Math.min.code 2 (some .int), Cond.methodLink RJ7 150 arraycopyName, Cond.native arraycopyName, Cond.static arraycopyName, Cond.initialized "java/lang/System"]
def wsJx4a65c_grow_92f84 : List Cond := .code yJx4a65c_grow_92f84 cJx4a65c_grow_92f84 4 (some (.array (.object "java/lang/Object"))) :: ((wsJx4a65c_grow_92f84_r1 ++ wsJx4a65c_grow_92f84_r2) ++ wsJx4a65c0)
def wsJx4a65c_grow_d5877_r1 : List Cond := [Cond.fieldLink RJx4a65c 48 "java/util/ArrayList" "size" "I", Cond.methodLink RJx4a65c 69 yJx4a65c_grow_92f84, Cond.instanceMethod yJx4a65c_grow_92f84, Cond.selects RJx4a65c yJx4a65c_grow_92f84 yJx4a65c_grow_92f84, Cond.initialized RJx4a65c, Cond.code yJx4a65c_grow_92f84 cJx4a65c_grow_92f84 4 (some (.array (.object "java/lang/Object"))), Cond.fieldLink RJx4a65c 9 "java/util/ArrayList" "elementData" "[Ljava/lang/Object;", Cond.fieldLink RJx4a65c 39 "java/util/ArrayList" "DEFAULTCAPACITY_EMPTY_ELEMENTDATA" "[Ljava/lang/Object;", Cond.methodLink RJx4a65c 79 Lib.Math.max.name, Cond.static Lib.Math.max.name, Cond.initialized "java/lang/Math", Cond.code Lib.Math.max.name Lib.Math.max.code 2 (some .int), Cond.classLink RJx4a65c 7 "java/lang/Object", Cond.methodLink RJx4a65c 73 yJ8_newLength_cabcc, Cond.static yJ8_newLength_cabcc, Cond.initialized RJ8, Cond.code yJ8_newLength_cabcc cJ8_newLength_cabcc 4 (some .int), Cond.methodLink RJ8 194 Lib.Math.max.name, Cond.constant RJ8 200 (2147483639), Cond.methodLink RJ8 201 yJ8_hugeLength_7cf53, Cond.static yJ8_hugeLength_7cf53, Cond.code yJ8_hugeLength_7cf53 cJ8_hugeLength_7cf53 3 (some .int), Cond.methodLink RJx4a65c 66 yJ7_copyOf_1904c, Cond.static yJ7_copyOf_1904c]
def wsJx4a65c_grow_d5877_r2 : List Cond := [Cond.initialized RJ7, Cond.code yJ7_copyOf_1904c cJ7_copyOf_1904c 2 (some (.array (.object "java/lang/Object"))), Cond.methodLink RJ7 86 ⟨"java/lang/Object", "getClass", "()Ljava/lang/Class;"⟩, Cond.selects "[Ljava/lang/Object;" ⟨"java/lang/Object", "getClass", "()Ljava/lang/Class;"⟩ ⟨"java/lang/Object", "getClass", "()Ljava/lang/Class;"⟩, Cond.instanceMethod ⟨"java/lang/Object", "getClass", "()Ljava/lang/Class;"⟩, Cond.native ⟨"java/lang/Object", "getClass", "()Ljava/lang/Class;"⟩, Cond.methodLink RJ7 300 yJ7_copyOf_6403c, Cond.static yJ7_copyOf_6403c, Cond.code yJ7_copyOf_6403c cJ7_copyOf_6403c 4 (some (.array (.object "java/lang/Object"))), Cond.classLink RJ7 110 "[Ljava/lang/Object;", Cond.classLink RJ7 2 "java/lang/Object", Cond.methodLink RJ7 304 Lib.Math.min.name, Cond.static Lib.Math.min.name, Cond.code Lib.Math.min.name Lib.Math.min.code 2 (some .int), Cond.methodLink RJ7 150 arraycopyName, Cond.native arraycopyName, Cond.static arraycopyName, Cond.initialized "java/lang/System"]
def wsJx4a65c_grow_d5877 : List Cond := .code yJx4a65c_grow_d5877 cJx4a65c_grow_d5877 1 (some (.array (.object "java/lang/Object"))) :: ((wsJx4a65c_grow_d5877_r1 ++ wsJx4a65c_grow_d5877_r2) ++ wsJx4a65c0)
def wsJx4a65c_add_72be8_r1 : List Cond := [Cond.fieldLink RJx4a65c 48 "java/util/ArrayList" "size" "I", Cond.methodLink RJx4a65c 129 yJx4a65c_grow_d5877, Cond.instanceMethod yJx4a65c_grow_d5877, Cond.selects RJx4a65c yJx4a65c_grow_d5877 yJx4a65c_grow_d5877, Cond.initialized RJx4a65c, Cond.code yJx4a65c_grow_d5877 cJx4a65c_grow_d5877 1 (some (.array (.object "java/lang/Object"))), Cond.methodLink RJx4a65c 69 yJx4a65c_grow_92f84, Cond.instanceMethod yJx4a65c_grow_92f84, Cond.selects RJx4a65c yJx4a65c_grow_92f84 yJx4a65c_grow_92f84, Cond.code yJx4a65c_grow_92f84 cJx4a65c_grow_92f84 4 (some (.array (.object "java/lang/Object"))), Cond.fieldLink RJx4a65c 9 "java/util/ArrayList" "elementData" "[Ljava/lang/Object;", Cond.fieldLink RJx4a65c 39 "java/util/ArrayList" "DEFAULTCAPACITY_EMPTY_ELEMENTDATA" "[Ljava/lang/Object;", Cond.methodLink RJx4a65c 79 Lib.Math.max.name, Cond.static Lib.Math.max.name, Cond.initialized "java/lang/Math", Cond.code Lib.Math.max.name Lib.Math.max.code 2 (some .int), Cond.classLink RJx4a65c 7 "java/lang/Object", Cond.methodLink RJx4a65c 73 yJ8_newLength_cabcc, Cond.static yJ8_newLength_cabcc, Cond.initialized RJ8, Cond.code yJ8_newLength_cabcc cJ8_newLength_cabcc 4 (some .int), Cond.methodLink RJ8 194 Lib.Math.max.name, Cond.constant RJ8 200 (2147483639), Cond.methodLink RJ8 201 yJ8_hugeLength_7cf53]
def wsJx4a65c_add_72be8_r2 : List Cond := [Cond.static yJ8_hugeLength_7cf53, Cond.code yJ8_hugeLength_7cf53 cJ8_hugeLength_7cf53 3 (some .int), Cond.methodLink RJx4a65c 66 yJ7_copyOf_1904c, Cond.static yJ7_copyOf_1904c, Cond.initialized RJ7, Cond.code yJ7_copyOf_1904c cJ7_copyOf_1904c 2 (some (.array (.object "java/lang/Object"))), Cond.methodLink RJ7 86 ⟨"java/lang/Object", "getClass", "()Ljava/lang/Class;"⟩, Cond.selects "[Ljava/lang/Object;" ⟨"java/lang/Object", "getClass", "()Ljava/lang/Class;"⟩ ⟨"java/lang/Object", "getClass", "()Ljava/lang/Class;"⟩, Cond.instanceMethod ⟨"java/lang/Object", "getClass", "()Ljava/lang/Class;"⟩, Cond.native ⟨"java/lang/Object", "getClass", "()Ljava/lang/Class;"⟩, Cond.methodLink RJ7 300 yJ7_copyOf_6403c, Cond.static yJ7_copyOf_6403c, Cond.code yJ7_copyOf_6403c cJ7_copyOf_6403c 4 (some (.array (.object "java/lang/Object"))), Cond.classLink RJ7 110 "[Ljava/lang/Object;", Cond.classLink RJ7 2 "java/lang/Object", Cond.methodLink RJ7 304 Lib.Math.min.name, Cond.static Lib.Math.min.name, Cond.code Lib.Math.min.name Lib.Math.min.code 2 (some .int), Cond.methodLink RJ7 150 arraycopyName, Cond.native arraycopyName, Cond.static arraycopyName, Cond.initialized "java/lang/System"]
def wsJx4a65c_add_72be8 : List Cond := .code yJx4a65c_add_72be8 cJx4a65c_add_72be8 4 none :: ((wsJx4a65c_add_72be8_r1 ++ wsJx4a65c_add_72be8_r2) ++ wsJx4a65c0)
def wsJx4a65c_add_9ea2d_r1 : List Cond := [Cond.fieldLink RJx4a65c 63 "java/util/ArrayList" "modCount" "I", Cond.sameField "java/util/ArrayList" "java/util/AbstractList" "modCount" "I", Cond.fieldLink RJx4a65c 9 "java/util/ArrayList" "elementData" "[Ljava/lang/Object;", Cond.fieldLink RJx4a65c 48 "java/util/ArrayList" "size" "I", Cond.methodLink RJx4a65c 131 yJx4a65c_add_72be8, Cond.instanceMethod yJx4a65c_add_72be8, Cond.selects RJx4a65c yJx4a65c_add_72be8 yJx4a65c_add_72be8, Cond.initialized RJx4a65c, Cond.code yJx4a65c_add_72be8 cJx4a65c_add_72be8 4 none, Cond.methodLink RJx4a65c 129 yJx4a65c_grow_d5877, Cond.instanceMethod yJx4a65c_grow_d5877, Cond.selects RJx4a65c yJx4a65c_grow_d5877 yJx4a65c_grow_d5877, Cond.code yJx4a65c_grow_d5877 cJx4a65c_grow_d5877 1 (some (.array (.object "java/lang/Object"))), Cond.methodLink RJx4a65c 69 yJx4a65c_grow_92f84, Cond.instanceMethod yJx4a65c_grow_92f84, Cond.selects RJx4a65c yJx4a65c_grow_92f84 yJx4a65c_grow_92f84, Cond.code yJx4a65c_grow_92f84 cJx4a65c_grow_92f84 4 (some (.array (.object "java/lang/Object"))), Cond.fieldLink RJx4a65c 39 "java/util/ArrayList" "DEFAULTCAPACITY_EMPTY_ELEMENTDATA" "[Ljava/lang/Object;", Cond.methodLink RJx4a65c 79 Lib.Math.max.name, Cond.static Lib.Math.max.name, Cond.initialized "java/lang/Math", Cond.code Lib.Math.max.name Lib.Math.max.code 2 (some .int), Cond.classLink RJx4a65c 7 "java/lang/Object", Cond.methodLink RJx4a65c 73 yJ8_newLength_cabcc]
def wsJx4a65c_add_9ea2d_r2 : List Cond := [Cond.static yJ8_newLength_cabcc, Cond.initialized RJ8, Cond.code yJ8_newLength_cabcc cJ8_newLength_cabcc 4 (some .int), Cond.methodLink RJ8 194 Lib.Math.max.name, Cond.constant RJ8 200 (2147483639), Cond.methodLink RJ8 201 yJ8_hugeLength_7cf53, Cond.static yJ8_hugeLength_7cf53, Cond.code yJ8_hugeLength_7cf53 cJ8_hugeLength_7cf53 3 (some .int), Cond.methodLink RJx4a65c 66 yJ7_copyOf_1904c, Cond.static yJ7_copyOf_1904c, Cond.initialized RJ7, Cond.code yJ7_copyOf_1904c cJ7_copyOf_1904c 2 (some (.array (.object "java/lang/Object"))), Cond.methodLink RJ7 86 ⟨"java/lang/Object", "getClass", "()Ljava/lang/Class;"⟩, Cond.selects "[Ljava/lang/Object;" ⟨"java/lang/Object", "getClass", "()Ljava/lang/Class;"⟩ ⟨"java/lang/Object", "getClass", "()Ljava/lang/Class;"⟩, Cond.instanceMethod ⟨"java/lang/Object", "getClass", "()Ljava/lang/Class;"⟩, Cond.native ⟨"java/lang/Object", "getClass", "()Ljava/lang/Class;"⟩, Cond.methodLink RJ7 300 yJ7_copyOf_6403c, Cond.static yJ7_copyOf_6403c, Cond.code yJ7_copyOf_6403c cJ7_copyOf_6403c 4 (some (.array (.object "java/lang/Object"))), Cond.classLink RJ7 110 "[Ljava/lang/Object;", Cond.classLink RJ7 2 "java/lang/Object", Cond.methodLink RJ7 304 Lib.Math.min.name, Cond.static Lib.Math.min.name, Cond.code Lib.Math.min.name Lib.Math.min.code 2 (some .int)]
def wsJx4a65c_add_9ea2d_r3 : List Cond := [Cond.methodLink RJ7 150 arraycopyName, Cond.native arraycopyName, Cond.static arraycopyName, Cond.initialized "java/lang/System"]
def wsJx4a65c_add_9ea2d : List Cond := .code yJx4a65c_add_9ea2d cJx4a65c_add_9ea2d 2 (some .boolean) :: ((wsJx4a65c_add_9ea2d_r1 ++ (wsJx4a65c_add_9ea2d_r2 ++ wsJx4a65c_add_9ea2d_r3)) ++ wsJx4a65c0)
def wsX6_file_r1 : List Cond := [Cond.classLink RX6 44 "java/lang/IllegalStateException", Cond.initialized "java/lang/IllegalStateException", Cond.fieldLink RX6 10 "Dataroom" "allFiles" "Ljava/util/ArrayList;", Cond.classLink RX6 51 RX1, Cond.instantiable RX1 2, Cond.initialized RX1, Cond.methodLink RX6 36 yX6_requireRange, Cond.static yX6_requireRange, Cond.initialized RX6, Cond.code yX6_requireRange cX6_requireRange 3 none, Cond.classLink RX6 189 "java/lang/IllegalArgumentException", Cond.initialized "java/lang/IllegalArgumentException", Cond.methodLink RX6 40 yJx4a65c_size_8abf5, Cond.instanceMethod yJx4a65c_size_8abf5, Cond.selects RJx4a65c yJx4a65c_size_8abf5 yJx4a65c_size_8abf5, Cond.initialized RJx4a65c, Cond.code yJx4a65c_size_8abf5 cJx4a65c_size_8abf5 1 (some .int), Cond.fieldLink RJx4a65c 48 "java/util/ArrayList" "size" "I", Cond.methodLink RX6 53 yX1_init, Cond.instanceMethod yX1_init, Cond.code yX1_init cX1_init 2 none, Cond.methodLink RX1 3 objectInit, Cond.instanceMethod objectInit, Cond.code objectInit ⟨#[0xb1]⟩ 1 none]
def wsX6_file_r2 : List Cond := [Cond.fieldLink RX1 9 "Dataroom$Card" "sealedTill" "I", Cond.fieldLink RX1 15 "Dataroom$Card" "number" "I", Cond.methodLink RX6 56 yJx4a65c_add_9ea2d, Cond.instanceMethod yJx4a65c_add_9ea2d, Cond.selects RJx4a65c yJx4a65c_add_9ea2d yJx4a65c_add_9ea2d, Cond.code yJx4a65c_add_9ea2d cJx4a65c_add_9ea2d 2 (some .boolean), Cond.fieldLink RJx4a65c 63 "java/util/ArrayList" "modCount" "I", Cond.sameField "java/util/ArrayList" "java/util/AbstractList" "modCount" "I", Cond.fieldLink RJx4a65c 9 "java/util/ArrayList" "elementData" "[Ljava/lang/Object;", Cond.methodLink RJx4a65c 131 yJx4a65c_add_72be8, Cond.instanceMethod yJx4a65c_add_72be8, Cond.selects RJx4a65c yJx4a65c_add_72be8 yJx4a65c_add_72be8, Cond.code yJx4a65c_add_72be8 cJx4a65c_add_72be8 4 none, Cond.methodLink RJx4a65c 129 yJx4a65c_grow_d5877, Cond.instanceMethod yJx4a65c_grow_d5877, Cond.selects RJx4a65c yJx4a65c_grow_d5877 yJx4a65c_grow_d5877, Cond.code yJx4a65c_grow_d5877 cJx4a65c_grow_d5877 1 (some (.array (.object "java/lang/Object"))), Cond.methodLink RJx4a65c 69 yJx4a65c_grow_92f84, Cond.instanceMethod yJx4a65c_grow_92f84, Cond.selects RJx4a65c yJx4a65c_grow_92f84 yJx4a65c_grow_92f84, Cond.code yJx4a65c_grow_92f84 cJx4a65c_grow_92f84 4 (some (.array (.object "java/lang/Object"))), Cond.fieldLink RJx4a65c 39 "java/util/ArrayList" "DEFAULTCAPACITY_EMPTY_ELEMENTDATA" "[Ljava/lang/Object;", Cond.methodLink RJx4a65c 79 Lib.Math.max.name, Cond.static Lib.Math.max.name]
def wsX6_file_r3 : List Cond := [Cond.initialized "java/lang/Math", Cond.code Lib.Math.max.name Lib.Math.max.code 2 (some .int), Cond.classLink RJx4a65c 7 "java/lang/Object", Cond.methodLink RJx4a65c 73 yJ8_newLength_cabcc, Cond.static yJ8_newLength_cabcc, Cond.initialized RJ8, Cond.code yJ8_newLength_cabcc cJ8_newLength_cabcc 4 (some .int), Cond.methodLink RJ8 194 Lib.Math.max.name, Cond.constant RJ8 200 (2147483639), Cond.methodLink RJ8 201 yJ8_hugeLength_7cf53, Cond.static yJ8_hugeLength_7cf53, Cond.code yJ8_hugeLength_7cf53 cJ8_hugeLength_7cf53 3 (some .int), Cond.methodLink RJx4a65c 66 yJ7_copyOf_1904c, Cond.static yJ7_copyOf_1904c, Cond.initialized RJ7, Cond.code yJ7_copyOf_1904c cJ7_copyOf_1904c 2 (some (.array (.object "java/lang/Object"))), Cond.methodLink RJ7 86 ⟨"java/lang/Object", "getClass", "()Ljava/lang/Class;"⟩, Cond.selects "[Ljava/lang/Object;" ⟨"java/lang/Object", "getClass", "()Ljava/lang/Class;"⟩ ⟨"java/lang/Object", "getClass", "()Ljava/lang/Class;"⟩, Cond.instanceMethod ⟨"java/lang/Object", "getClass", "()Ljava/lang/Class;"⟩, Cond.native ⟨"java/lang/Object", "getClass", "()Ljava/lang/Class;"⟩, Cond.methodLink RJ7 300 yJ7_copyOf_6403c, Cond.static yJ7_copyOf_6403c, Cond.code yJ7_copyOf_6403c cJ7_copyOf_6403c 4 (some (.array (.object "java/lang/Object"))), Cond.classLink RJ7 110 "[Ljava/lang/Object;"]
def wsX6_file_r4 : List Cond := [Cond.classLink RJ7 2 "java/lang/Object", Cond.methodLink RJ7 304 Lib.Math.min.name, Cond.static Lib.Math.min.name, Cond.code Lib.Math.min.name Lib.Math.min.code 2 (some .int), Cond.methodLink RJ7 150 arraycopyName, Cond.native arraycopyName, Cond.static arraycopyName, Cond.initialized "java/lang/System"]
def wsX6_file : List Cond := .code yX6_file cX6_file 2 (some .int) :: ((wsX6_file_r1 ++ (wsX6_file_r2 ++ (wsX6_file_r3 ++ wsX6_file_r4))) ++ wsX60 ++ wsX10 ++ wsJx4a65c0 ++ (vx_atS RX6 48 "java/lang/IllegalStateException" ["java/lang/RuntimeException", "java/lang/Exception"]).filter goodWord ++ (vx_atS RX6 193 "java/lang/IllegalArgumentException" ["java/lang/RuntimeException", "java/lang/Exception"]).filter goodWord)
def wsX6_requireFile : List Cond := .code yX6_requireFile cX6_requireFile 2 none :: ([.classLink RX6 143 "java/lang/IndexOutOfBoundsException", .initialized "java/lang/IndexOutOfBoundsException", .fieldLink RX6 10 "Dataroom" "allFiles" "Ljava/util/ArrayList;", .methodLink RX6 40 yJx4a65c_size_8abf5, .instanceMethod yJx4a65c_size_8abf5, .selects RJx4a65c yJx4a65c_size_8abf5 yJx4a65c_size_8abf5, .initialized RJx4a65c, .code yJx4a65c_size_8abf5 cJx4a65c_size_8abf5 1 (some .int), .fieldLink RJx4a65c 48 "java/util/ArrayList" "size" "I"] ++ wsX60 ++ wsJx4a65c0 ++ (vx_atS RX6 147 "java/lang/IndexOutOfBoundsException" ["java/lang/RuntimeException", "java/lang/Exception"]).filter goodWord)
def wsJ3_checkIndex_8e157 : List Cond := .code yJ3_checkIndex_8e157 cJ3_checkIndex_8e157 3 (some .int) :: ([])
def wsJ15_checkIndex_7cf53 : List Cond := .code yJ15_checkIndex_7cf53 cJ15_checkIndex_7cf53 2 (some .int) :: ([.methodLink RJ15 105 yJ3_checkIndex_8e157, .static yJ3_checkIndex_8e157, .initialized RJ3, .code yJ3_checkIndex_8e157 cJ3_checkIndex_8e157 3 (some .int)])
def wsJx4a65c_elementData_915e3 : List Cond := .code yJx4a65c_elementData_915e3 cJx4a65c_elementData_915e3 2 (some (.object "java/lang/Object")) :: ([.fieldLink RJx4a65c 9 "java/util/ArrayList" "elementData" "[Ljava/lang/Object;"] ++ wsJx4a65c0)
def wsJx4a65c_get_915e3 : List Cond := .code yJx4a65c_get_915e3 cJx4a65c_get_915e3 2 (some (.object "java/lang/Object")) :: ([.fieldLink RJx4a65c 48 "java/util/ArrayList" "size" "I", .methodLink RJx4a65c 118 yJ15_checkIndex_7cf53, .static yJ15_checkIndex_7cf53, .initialized RJ15, .code yJ15_checkIndex_7cf53 cJ15_checkIndex_7cf53 2 (some .int), .methodLink RJ15 105 yJ3_checkIndex_8e157, .static yJ3_checkIndex_8e157, .initialized RJ3, .code yJ3_checkIndex_8e157 cJ3_checkIndex_8e157 3 (some .int), .methodLink RJx4a65c 123 yJx4a65c_elementData_915e3, .instanceMethod yJx4a65c_elementData_915e3, .selects RJx4a65c yJx4a65c_elementData_915e3 yJx4a65c_elementData_915e3, .initialized RJx4a65c, .code yJx4a65c_elementData_915e3 cJx4a65c_elementData_915e3 2 (some (.object "java/lang/Object")), .fieldLink RJx4a65c 9 "java/util/ArrayList" "elementData" "[Ljava/lang/Object;"] ++ wsJx4a65c0)
def wsX6_fileAt_r1 : List Cond := [Cond.fieldLink RX6 10 "Dataroom" "allFiles" "Ljava/util/ArrayList;", Cond.classLink RX6 51 "Dataroom$Card", Cond.methodLink RX6 90 yX6_requireFile, Cond.instanceMethod yX6_requireFile, Cond.selects RX6 yX6_requireFile yX6_requireFile, Cond.initialized RX6, Cond.code yX6_requireFile cX6_requireFile 2 none, Cond.classLink RX6 143 "java/lang/IndexOutOfBoundsException", Cond.initialized "java/lang/IndexOutOfBoundsException", Cond.methodLink RX6 40 yJx4a65c_size_8abf5, Cond.instanceMethod yJx4a65c_size_8abf5, Cond.selects RJx4a65c yJx4a65c_size_8abf5 yJx4a65c_size_8abf5, Cond.initialized RJx4a65c, Cond.code yJx4a65c_size_8abf5 cJx4a65c_size_8abf5 1 (some .int), Cond.fieldLink RJx4a65c 48 "java/util/ArrayList" "size" "I", Cond.methodLink RX6 68 yJx4a65c_get_915e3, Cond.instanceMethod yJx4a65c_get_915e3, Cond.selects RJx4a65c yJx4a65c_get_915e3 yJx4a65c_get_915e3, Cond.code yJx4a65c_get_915e3 cJx4a65c_get_915e3 2 (some (.object "java/lang/Object")), Cond.methodLink RJx4a65c 118 yJ15_checkIndex_7cf53, Cond.static yJ15_checkIndex_7cf53, Cond.initialized RJ15, Cond.code yJ15_checkIndex_7cf53 cJ15_checkIndex_7cf53 2 (some .int), Cond.methodLink RJ15 105 yJ3_checkIndex_8e157]
def wsX6_fileAt_r2 : List Cond := [Cond.static yJ3_checkIndex_8e157, Cond.initialized RJ3, Cond.code yJ3_checkIndex_8e157 cJ3_checkIndex_8e157 3 (some .int), Cond.methodLink RJx4a65c 123 yJx4a65c_elementData_915e3, Cond.instanceMethod yJx4a65c_elementData_915e3, Cond.selects RJx4a65c yJx4a65c_elementData_915e3 yJx4a65c_elementData_915e3, Cond.code yJx4a65c_elementData_915e3 cJx4a65c_elementData_915e3 2 (some (.object "java/lang/Object")), Cond.fieldLink RJx4a65c 9 "java/util/ArrayList" "elementData" "[Ljava/lang/Object;"]
def wsX6_fileAt : List Cond := .code yX6_fileAt cX6_fileAt 2 (some (.object "Dataroom$Card")) :: ((wsX6_fileAt_r1 ++ wsX6_fileAt_r2) ++ wsX60 ++ wsJx4a65c0 ++ (vx_atS RX6 147 "java/lang/IndexOutOfBoundsException" ["java/lang/RuntimeException", "java/lang/Exception"]).filter goodWord)
def wsX6_learnAnew_r1 : List Cond := [Cond.fieldLink RX6 19 "Dataroom" "allAnswers" "Ljava/util/ArrayList;", Cond.classLink RX6 129 "Dataroom$Answer", Cond.methodLink RX6 224 yX4_forget, Cond.instanceMethod yX4_forget, Cond.selects RX4 yX4_forget yX4_forget, Cond.initialized RX4, Cond.code yX4_forget cX4_forget 2 none, Cond.fieldLink RX4 19 "Dataroom$Party" "known" "[LDataroom$Knowledge;", Cond.methodLink RX4 51 yX2_forget, Cond.instanceMethod yX2_forget, Cond.selects RX2 yX2_forget yX2_forget, Cond.initialized RX2, Cond.code yX2_forget cX2_forget 2 none, Cond.fieldLink RX2 9 "Dataroom$Knowledge" "rows" "[I", Cond.fieldLink RX2 15 "Dataroom$Knowledge" "learned" "I", Cond.methodLink RX6 40 yJx4a65c_size_8abf5, Cond.instanceMethod yJx4a65c_size_8abf5, Cond.selects RJx4a65c yJx4a65c_size_8abf5 yJx4a65c_size_8abf5, Cond.initialized RJx4a65c, Cond.code yJx4a65c_size_8abf5 cJx4a65c_size_8abf5 1 (some .int), Cond.fieldLink RJx4a65c 48 "java/util/ArrayList" "size" "I", Cond.methodLink RX6 68 yJx4a65c_get_915e3, Cond.instanceMethod yJx4a65c_get_915e3, Cond.selects RJx4a65c yJx4a65c_get_915e3 yJx4a65c_get_915e3]
def wsX6_learnAnew_r2 : List Cond := [Cond.code yJx4a65c_get_915e3 cJx4a65c_get_915e3 2 (some (.object "java/lang/Object")), Cond.methodLink RJx4a65c 118 yJ15_checkIndex_7cf53, Cond.static yJ15_checkIndex_7cf53, Cond.initialized RJ15, Cond.code yJ15_checkIndex_7cf53 cJ15_checkIndex_7cf53 2 (some .int), Cond.methodLink RJ15 105 yJ3_checkIndex_8e157, Cond.static yJ3_checkIndex_8e157, Cond.initialized RJ3, Cond.code yJ3_checkIndex_8e157 cJ3_checkIndex_8e157 3 (some .int), Cond.methodLink RJx4a65c 123 yJx4a65c_elementData_915e3, Cond.instanceMethod yJx4a65c_elementData_915e3, Cond.selects RJx4a65c yJx4a65c_elementData_915e3 yJx4a65c_elementData_915e3, Cond.code yJx4a65c_elementData_915e3 cJx4a65c_elementData_915e3 2 (some (.object "java/lang/Object")), Cond.fieldLink RJx4a65c 9 "java/util/ArrayList" "elementData" "[Ljava/lang/Object;", Cond.methodLink RX6 209 yX0_standsFor, Cond.instanceMethod yX0_standsFor, Cond.selects RX0 yX0_standsFor yX0_standsFor, Cond.initialized RX0, Cond.code yX0_standsFor cX0_standsFor 2 (some .boolean), Cond.fieldLink RX0 25 "Dataroom$Answer" "recalled" "Z", Cond.fieldLink RX0 7 "Dataroom$Answer" "party" "I", Cond.methodLink RX6 137 yX4_learn, Cond.instanceMethod yX4_learn, Cond.selects RX4 yX4_learn yX4_learn]
def wsX6_learnAnew_r3 : List Cond := [Cond.code yX4_learn cX4_learn 4 none, Cond.static yX6_covers, Cond.initialized RX6, Cond.code yX6_covers cX6_covers 2 (some .boolean), Cond.methodLink RX4 47 yX2_learn, Cond.instanceMethod yX2_learn, Cond.selects RX2 yX2_learn yX2_learn, Cond.code yX2_learn cX2_learn 4 none, Cond.static yX6_holds, Cond.code yX6_holds cX6_holds 2 (some .boolean)]
def wsX6_learnAnew : List Cond := .code yX6_learnAnew cX6_learnAnew 4 none :: ((wsX6_learnAnew_r1 ++ (wsX6_learnAnew_r2 ++ wsX6_learnAnew_r3)) ++ wsX60 ++ wsX00 ++ wsX40 ++ wsX20 ++ wsJx4a65c0)
def wsX6_recall_r1 : List Cond := [Cond.fieldLink RX6 19 "Dataroom" "allAnswers" "Ljava/util/ArrayList;", Cond.classLink RX6 129 "Dataroom$Answer", Cond.methodLink RX6 40 yJx4a65c_size_8abf5, Cond.instanceMethod yJx4a65c_size_8abf5, Cond.selects RJx4a65c yJx4a65c_size_8abf5 yJx4a65c_size_8abf5, Cond.initialized RJx4a65c, Cond.code yJx4a65c_size_8abf5 cJx4a65c_size_8abf5 1 (some .int), Cond.fieldLink RJx4a65c 48 "java/util/ArrayList" "size" "I", Cond.methodLink RX6 68 yJx4a65c_get_915e3, Cond.instanceMethod yJx4a65c_get_915e3, Cond.selects RJx4a65c yJx4a65c_get_915e3 yJx4a65c_get_915e3, Cond.code yJx4a65c_get_915e3 cJx4a65c_get_915e3 2 (some (.object "java/lang/Object")), Cond.methodLink RJx4a65c 118 yJ15_checkIndex_7cf53, Cond.static yJ15_checkIndex_7cf53, Cond.initialized RJ15, Cond.code yJ15_checkIndex_7cf53 cJ15_checkIndex_7cf53 2 (some .int), Cond.methodLink RJ15 105 yJ3_checkIndex_8e157, Cond.static yJ3_checkIndex_8e157, Cond.initialized RJ3, Cond.code yJ3_checkIndex_8e157 cJ3_checkIndex_8e157 3 (some .int), Cond.methodLink RJx4a65c 123 yJx4a65c_elementData_915e3, Cond.instanceMethod yJx4a65c_elementData_915e3, Cond.selects RJx4a65c yJx4a65c_elementData_915e3 yJx4a65c_elementData_915e3, Cond.code yJx4a65c_elementData_915e3 cJx4a65c_elementData_915e3 2 (some (.object "java/lang/Object"))]
def wsX6_recall_r2 : List Cond := [Cond.fieldLink RJx4a65c 9 "java/util/ArrayList" "elementData" "[Ljava/lang/Object;", Cond.methodLink RX6 209 yX0_standsFor, Cond.instanceMethod yX0_standsFor, Cond.selects RX0 yX0_standsFor yX0_standsFor, Cond.initialized RX0, Cond.code yX0_standsFor cX0_standsFor 2 (some .boolean), Cond.fieldLink RX0 25 "Dataroom$Answer" "recalled" "Z", Cond.fieldLink RX0 7 "Dataroom$Answer" "party" "I", Cond.methodLink RX6 205 yX6_holds, Cond.static yX6_holds, Cond.initialized RX6, Cond.code yX6_holds cX6_holds 2 (some .boolean), Cond.methodLink RX6 220 yX6_learnAnew, Cond.instanceMethod yX6_learnAnew, Cond.selects RX6 yX6_learnAnew yX6_learnAnew, Cond.code yX6_learnAnew cX6_learnAnew 4 none, Cond.methodLink RX6 224 yX4_forget, Cond.instanceMethod yX4_forget, Cond.selects RX4 yX4_forget yX4_forget, Cond.initialized RX4, Cond.code yX4_forget cX4_forget 2 none, Cond.fieldLink RX4 19 "Dataroom$Party" "known" "[LDataroom$Knowledge;", Cond.methodLink RX4 51 yX2_forget, Cond.instanceMethod yX2_forget]
def wsX6_recall_r3 : List Cond := [Cond.selects RX2 yX2_forget yX2_forget, Cond.initialized RX2, Cond.code yX2_forget cX2_forget 2 none, Cond.fieldLink RX2 9 "Dataroom$Knowledge" "rows" "[I", Cond.fieldLink RX2 15 "Dataroom$Knowledge" "learned" "I", Cond.methodLink RX6 137 yX4_learn, Cond.instanceMethod yX4_learn, Cond.selects RX4 yX4_learn yX4_learn, Cond.code yX4_learn cX4_learn 4 none, Cond.static yX6_covers, Cond.code yX6_covers cX6_covers 2 (some .boolean), Cond.methodLink RX4 47 yX2_learn, Cond.instanceMethod yX2_learn, Cond.selects RX2 yX2_learn yX2_learn, Cond.code yX2_learn cX2_learn 4 none]
def wsX6_recall : List Cond := .code yX6_recall cX6_recall 6 (some .int) :: ((wsX6_recall_r1 ++ (wsX6_recall_r2 ++ wsX6_recall_r3)) ++ wsX60 ++ wsX00 ++ wsJx4a65c0 ++ wsX40 ++ wsX20)
def wsX6_change_r1 : List Cond := [Cond.fieldLink RX6 16 "Dataroom" "allParties" "Ljava/util/ArrayList;", Cond.classLink RX6 72 "Dataroom$Party", Cond.methodLink RX6 60 yX6_fileAt, Cond.instanceMethod yX6_fileAt, Cond.selects RX6 yX6_fileAt yX6_fileAt, Cond.initialized RX6, Cond.code yX6_fileAt cX6_fileAt 2 (some (.object "Dataroom$Card")), Cond.fieldLink RX6 10 "Dataroom" "allFiles" "Ljava/util/ArrayList;", Cond.classLink RX6 51 "Dataroom$Card", Cond.methodLink RX6 90 yX6_requireFile, Cond.instanceMethod yX6_requireFile, Cond.selects RX6 yX6_requireFile yX6_requireFile, Cond.code yX6_requireFile cX6_requireFile 2 none, Cond.classLink RX6 143 "java/lang/IndexOutOfBoundsException", Cond.initialized "java/lang/IndexOutOfBoundsException", Cond.methodLink RX6 40 yJx4a65c_size_8abf5, Cond.instanceMethod yJx4a65c_size_8abf5, Cond.selects RJx4a65c yJx4a65c_size_8abf5 yJx4a65c_size_8abf5, Cond.initialized RJx4a65c, Cond.code yJx4a65c_size_8abf5 cJx4a65c_size_8abf5 1 (some .int), Cond.fieldLink RJx4a65c 48 "java/util/ArrayList" "size" "I", Cond.methodLink RX6 68 yJx4a65c_get_915e3, Cond.instanceMethod yJx4a65c_get_915e3, Cond.selects RJx4a65c yJx4a65c_get_915e3 yJx4a65c_get_915e3]
def wsX6_change_r2 : List Cond := [Cond.code yJx4a65c_get_915e3 cJx4a65c_get_915e3 2 (some (.object "java/lang/Object")), Cond.methodLink RJx4a65c 118 yJ15_checkIndex_7cf53, Cond.static yJ15_checkIndex_7cf53, Cond.initialized RJ15, Cond.code yJ15_checkIndex_7cf53 cJ15_checkIndex_7cf53 2 (some .int), Cond.methodLink RJ15 105 yJ3_checkIndex_8e157, Cond.static yJ3_checkIndex_8e157, Cond.initialized RJ3, Cond.code yJ3_checkIndex_8e157 cJ3_checkIndex_8e157 3 (some .int), Cond.methodLink RJx4a65c 123 yJx4a65c_elementData_915e3, Cond.instanceMethod yJx4a65c_elementData_915e3, Cond.selects RJx4a65c yJx4a65c_elementData_915e3 yJx4a65c_elementData_915e3, Cond.code yJx4a65c_elementData_915e3 cJx4a65c_elementData_915e3 2 (some (.object "java/lang/Object")), Cond.fieldLink RJx4a65c 9 "java/util/ArrayList" "elementData" "[Ljava/lang/Object;", Cond.methodLink RX6 36 yX6_requireRange, Cond.static yX6_requireRange, Cond.code yX6_requireRange cX6_requireRange 3 none, Cond.classLink RX6 189 "java/lang/IllegalArgumentException", Cond.initialized "java/lang/IllegalArgumentException", Cond.methodLink RX6 74 yX6_recall, Cond.instanceMethod yX6_recall, Cond.selects RX6 yX6_recall yX6_recall, Cond.code yX6_recall cX6_recall 6 (some .int), Cond.fieldLink RX6 19 "Dataroom" "allAnswers" "Ljava/util/ArrayList;"]
def wsX6_change_r3 : List Cond := [Cond.classLink RX6 129 "Dataroom$Answer", Cond.methodLink RX6 209 yX0_standsFor, Cond.instanceMethod yX0_standsFor, Cond.selects RX0 yX0_standsFor yX0_standsFor, Cond.initialized RX0, Cond.code yX0_standsFor cX0_standsFor 2 (some .boolean), Cond.fieldLink RX0 25 "Dataroom$Answer" "recalled" "Z", Cond.fieldLink RX0 7 "Dataroom$Answer" "party" "I", Cond.methodLink RX6 205 yX6_holds, Cond.static yX6_holds, Cond.code yX6_holds cX6_holds 2 (some .boolean), Cond.methodLink RX6 220 yX6_learnAnew, Cond.instanceMethod yX6_learnAnew, Cond.selects RX6 yX6_learnAnew yX6_learnAnew, Cond.code yX6_learnAnew cX6_learnAnew 4 none, Cond.methodLink RX6 224 yX4_forget, Cond.instanceMethod yX4_forget, Cond.selects RX4 yX4_forget yX4_forget, Cond.initialized RX4, Cond.code yX4_forget cX4_forget 2 none, Cond.fieldLink RX4 19 "Dataroom$Party" "known" "[LDataroom$Knowledge;", Cond.methodLink RX4 51 yX2_forget, Cond.instanceMethod yX2_forget, Cond.selects RX2 yX2_forget yX2_forget]
def wsX6_change_r4 : List Cond := [Cond.initialized RX2, Cond.code yX2_forget cX2_forget 2 none, Cond.fieldLink RX2 9 "Dataroom$Knowledge" "rows" "[I", Cond.fieldLink RX2 15 "Dataroom$Knowledge" "learned" "I", Cond.methodLink RX6 137 yX4_learn, Cond.instanceMethod yX4_learn, Cond.selects RX4 yX4_learn yX4_learn, Cond.code yX4_learn cX4_learn 4 none, Cond.static yX6_covers, Cond.code yX6_covers cX6_covers 2 (some .boolean), Cond.methodLink RX4 47 yX2_learn, Cond.instanceMethod yX2_learn, Cond.selects RX2 yX2_learn yX2_learn, Cond.code yX2_learn cX2_learn 4 none]
def wsX6_change : List Cond := .code yX6_change cX6_change 6 (some .int) :: ((wsX6_change_r1 ++ (wsX6_change_r2 ++ (wsX6_change_r3 ++ wsX6_change_r4))) ++ wsX10 ++ wsX60 ++ wsJx4a65c0 ++ wsX00 ++ wsX40 ++ wsX20 ++ (vx_atS RX6 147 "java/lang/IndexOutOfBoundsException" ["java/lang/RuntimeException", "java/lang/Exception"]).filter goodWord ++ (vx_atS RX6 193 "java/lang/IllegalArgumentException" ["java/lang/RuntimeException", "java/lang/Exception"]).filter goodWord)
def wsX6_party_r1 : List Cond := [Cond.classLink RX6 44 "java/lang/IllegalStateException", Cond.initialized "java/lang/IllegalStateException", Cond.fieldLink RX6 16 "Dataroom" "allParties" "Ljava/util/ArrayList;", Cond.classLink RX6 72 RX4, Cond.instantiable RX4 5, Cond.initialized RX4, Cond.methodLink RX6 36 yX6_requireRange, Cond.static yX6_requireRange, Cond.initialized RX6, Cond.code yX6_requireRange cX6_requireRange 3 none, Cond.classLink RX6 189 "java/lang/IllegalArgumentException", Cond.initialized "java/lang/IllegalArgumentException", Cond.methodLink RX6 40 yJx4a65c_size_8abf5, Cond.instanceMethod yJx4a65c_size_8abf5, Cond.selects RJx4a65c yJx4a65c_size_8abf5 yJx4a65c_size_8abf5, Cond.initialized RJx4a65c, Cond.code yJx4a65c_size_8abf5 cJx4a65c_size_8abf5 1 (some .int), Cond.fieldLink RJx4a65c 48 "java/util/ArrayList" "size" "I", Cond.methodLink RX6 80 yX4_init, Cond.instanceMethod yX4_init, Cond.code yX4_init cX4_init 4 none, Cond.methodLink RX4 3 objectInit, Cond.instanceMethod objectInit, Cond.code objectInit ⟨#[0xb1]⟩ 1 none]
def wsX6_party_r2 : List Cond := [Cond.classLink RX4 9 RX5, Cond.fieldLink RX4 11 "Dataroom$Party" "rights" "[LDataroom$Right;", Cond.classLink RX4 17 RX2, Cond.fieldLink RX4 19 "Dataroom$Party" "known" "[LDataroom$Knowledge;", Cond.arrayClass .int, Cond.fieldLink RX4 23 "Dataroom$Party" "fared" "[I", Cond.fieldLink RX4 27 "Dataroom$Party" "place" "I", Cond.fieldLink RX4 31 "Dataroom$Party" "budget" "I", Cond.instantiable RX2 2, Cond.initialized RX2, Cond.instanceMethod yX2_init, Cond.code yX2_init cX2_init 1 none, Cond.methodLink RX2 3 objectInit, Cond.fieldLink RX2 9 "Dataroom$Knowledge" "rows" "[I", Cond.methodLink RX6 56 yJx4a65c_add_9ea2d, Cond.instanceMethod yJx4a65c_add_9ea2d, Cond.selects RJx4a65c yJx4a65c_add_9ea2d yJx4a65c_add_9ea2d, Cond.code yJx4a65c_add_9ea2d cJx4a65c_add_9ea2d 2 (some .boolean), Cond.fieldLink RJx4a65c 63 "java/util/ArrayList" "modCount" "I", Cond.sameField "java/util/ArrayList" "java/util/AbstractList" "modCount" "I", Cond.fieldLink RJx4a65c 9 "java/util/ArrayList" "elementData" "[Ljava/lang/Object;", Cond.methodLink RJx4a65c 131 yJx4a65c_add_72be8, Cond.instanceMethod yJx4a65c_add_72be8, Cond.selects RJx4a65c yJx4a65c_add_72be8 yJx4a65c_add_72be8]
def wsX6_party_r3 : List Cond := [Cond.code yJx4a65c_add_72be8 cJx4a65c_add_72be8 4 none, Cond.methodLink RJx4a65c 129 yJx4a65c_grow_d5877, Cond.instanceMethod yJx4a65c_grow_d5877, Cond.selects RJx4a65c yJx4a65c_grow_d5877 yJx4a65c_grow_d5877, Cond.code yJx4a65c_grow_d5877 cJx4a65c_grow_d5877 1 (some (.array (.object "java/lang/Object"))), Cond.methodLink RJx4a65c 69 yJx4a65c_grow_92f84, Cond.instanceMethod yJx4a65c_grow_92f84, Cond.selects RJx4a65c yJx4a65c_grow_92f84 yJx4a65c_grow_92f84, Cond.code yJx4a65c_grow_92f84 cJx4a65c_grow_92f84 4 (some (.array (.object "java/lang/Object"))), Cond.fieldLink RJx4a65c 39 "java/util/ArrayList" "DEFAULTCAPACITY_EMPTY_ELEMENTDATA" "[Ljava/lang/Object;", Cond.methodLink RJx4a65c 79 Lib.Math.max.name, Cond.static Lib.Math.max.name, Cond.initialized "java/lang/Math", Cond.code Lib.Math.max.name Lib.Math.max.code 2 (some .int), Cond.classLink RJx4a65c 7 "java/lang/Object", Cond.methodLink RJx4a65c 73 yJ8_newLength_cabcc, Cond.static yJ8_newLength_cabcc, Cond.initialized RJ8, Cond.code yJ8_newLength_cabcc cJ8_newLength_cabcc 4 (some .int), Cond.methodLink RJ8 194 Lib.Math.max.name, Cond.constant RJ8 200 (2147483639), Cond.methodLink RJ8 201 yJ8_hugeLength_7cf53, Cond.static yJ8_hugeLength_7cf53, Cond.code yJ8_hugeLength_7cf53 cJ8_hugeLength_7cf53 3 (some .int)]
def wsX6_party_r4 : List Cond := [Cond.methodLink RJx4a65c 66 yJ7_copyOf_1904c, Cond.static yJ7_copyOf_1904c, Cond.initialized RJ7, Cond.code yJ7_copyOf_1904c cJ7_copyOf_1904c 2 (some (.array (.object "java/lang/Object"))), Cond.methodLink RJ7 86 ⟨"java/lang/Object", "getClass", "()Ljava/lang/Class;"⟩, Cond.selects "[Ljava/lang/Object;" ⟨"java/lang/Object", "getClass", "()Ljava/lang/Class;"⟩ ⟨"java/lang/Object", "getClass", "()Ljava/lang/Class;"⟩, Cond.instanceMethod ⟨"java/lang/Object", "getClass", "()Ljava/lang/Class;"⟩, Cond.native ⟨"java/lang/Object", "getClass", "()Ljava/lang/Class;"⟩, Cond.methodLink RJ7 300 yJ7_copyOf_6403c, Cond.static yJ7_copyOf_6403c, Cond.code yJ7_copyOf_6403c cJ7_copyOf_6403c 4 (some (.array (.object "java/lang/Object"))), Cond.classLink RJ7 110 "[Ljava/lang/Object;", Cond.classLink RJ7 2 "java/lang/Object", Cond.methodLink RJ7 304 Lib.Math.min.name, Cond.static Lib.Math.min.name, Cond.code Lib.Math.min.name Lib.Math.min.code 2 (some .int), Cond.methodLink RJ7 150 arraycopyName, Cond.native arraycopyName, Cond.static arraycopyName, Cond.initialized "java/lang/System"]
def wsX6_party : List Cond := .code yX6_party cX6_party 3 (some .int) :: ((wsX6_party_r1 ++ (wsX6_party_r2 ++ (wsX6_party_r3 ++ wsX6_party_r4))) ++ wsX60 ++ wsX40 ++ wsJx4a65c0 ++ wsX20 ++ (vx_atS RX6 48 "java/lang/IllegalStateException" ["java/lang/RuntimeException", "java/lang/Exception"]).filter goodWord ++ (vx_atS RX6 193 "java/lang/IllegalArgumentException" ["java/lang/RuntimeException", "java/lang/Exception"]).filter goodWord)
def wsX6_partyAt_r1 : List Cond := [Cond.classLink RX6 143 "java/lang/IndexOutOfBoundsException", Cond.initialized "java/lang/IndexOutOfBoundsException", Cond.fieldLink RX6 16 "Dataroom" "allParties" "Ljava/util/ArrayList;", Cond.classLink RX6 72 "Dataroom$Party", Cond.methodLink RX6 40 yJx4a65c_size_8abf5, Cond.instanceMethod yJx4a65c_size_8abf5, Cond.selects RJx4a65c yJx4a65c_size_8abf5 yJx4a65c_size_8abf5, Cond.initialized RJx4a65c, Cond.code yJx4a65c_size_8abf5 cJx4a65c_size_8abf5 1 (some .int), Cond.fieldLink RJx4a65c 48 "java/util/ArrayList" "size" "I", Cond.methodLink RX6 68 yJx4a65c_get_915e3, Cond.instanceMethod yJx4a65c_get_915e3, Cond.selects RJx4a65c yJx4a65c_get_915e3 yJx4a65c_get_915e3, Cond.code yJx4a65c_get_915e3 cJx4a65c_get_915e3 2 (some (.object "java/lang/Object")), Cond.methodLink RJx4a65c 118 yJ15_checkIndex_7cf53, Cond.static yJ15_checkIndex_7cf53, Cond.initialized RJ15, Cond.code yJ15_checkIndex_7cf53 cJ15_checkIndex_7cf53 2 (some .int), Cond.methodLink RJ15 105 yJ3_checkIndex_8e157, Cond.static yJ3_checkIndex_8e157, Cond.initialized RJ3, Cond.code yJ3_checkIndex_8e157 cJ3_checkIndex_8e157 3 (some .int), Cond.methodLink RJx4a65c 123 yJx4a65c_elementData_915e3, Cond.instanceMethod yJx4a65c_elementData_915e3]
def wsX6_partyAt_r2 : List Cond := [Cond.selects RJx4a65c yJx4a65c_elementData_915e3 yJx4a65c_elementData_915e3, Cond.code yJx4a65c_elementData_915e3 cJx4a65c_elementData_915e3 2 (some (.object "java/lang/Object")), Cond.fieldLink RJx4a65c 9 "java/util/ArrayList" "elementData" "[Ljava/lang/Object;"]
def wsX6_partyAt : List Cond := .code yX6_partyAt cX6_partyAt 2 (some (.object "Dataroom$Party")) :: ((wsX6_partyAt_r1 ++ wsX6_partyAt_r2) ++ wsX60 ++ wsJx4a65c0 ++ (vx_atS RX6 147 "java/lang/IndexOutOfBoundsException" ["java/lang/RuntimeException", "java/lang/Exception"]).filter goodWord)
def wsX6_budget_r1 : List Cond := [Cond.methodLink RX6 83 yX6_partyAt, Cond.instanceMethod yX6_partyAt, Cond.selects RX6 yX6_partyAt yX6_partyAt, Cond.initialized RX6, Cond.code yX6_partyAt cX6_partyAt 2 (some (.object "Dataroom$Party")), Cond.classLink RX6 143 "java/lang/IndexOutOfBoundsException", Cond.initialized "java/lang/IndexOutOfBoundsException", Cond.fieldLink RX6 16 "Dataroom" "allParties" "Ljava/util/ArrayList;", Cond.classLink RX6 72 "Dataroom$Party", Cond.methodLink RX6 40 yJx4a65c_size_8abf5, Cond.instanceMethod yJx4a65c_size_8abf5, Cond.selects RJx4a65c yJx4a65c_size_8abf5 yJx4a65c_size_8abf5, Cond.initialized RJx4a65c, Cond.code yJx4a65c_size_8abf5 cJx4a65c_size_8abf5 1 (some .int), Cond.fieldLink RJx4a65c 48 "java/util/ArrayList" "size" "I", Cond.methodLink RX6 68 yJx4a65c_get_915e3, Cond.instanceMethod yJx4a65c_get_915e3, Cond.selects RJx4a65c yJx4a65c_get_915e3 yJx4a65c_get_915e3, Cond.code yJx4a65c_get_915e3 cJx4a65c_get_915e3 2 (some (.object "java/lang/Object")), Cond.methodLink RJx4a65c 118 yJ15_checkIndex_7cf53, Cond.static yJ15_checkIndex_7cf53, Cond.initialized RJ15, Cond.code yJ15_checkIndex_7cf53 cJ15_checkIndex_7cf53 2 (some .int), Cond.methodLink RJ15 105 yJ3_checkIndex_8e157]
def wsX6_budget_r2 : List Cond := [Cond.static yJ3_checkIndex_8e157, Cond.initialized RJ3, Cond.code yJ3_checkIndex_8e157 cJ3_checkIndex_8e157 3 (some .int), Cond.methodLink RJx4a65c 123 yJx4a65c_elementData_915e3, Cond.instanceMethod yJx4a65c_elementData_915e3, Cond.selects RJx4a65c yJx4a65c_elementData_915e3 yJx4a65c_elementData_915e3, Cond.code yJx4a65c_elementData_915e3 cJx4a65c_elementData_915e3 2 (some (.object "java/lang/Object")), Cond.fieldLink RJx4a65c 9 "java/util/ArrayList" "elementData" "[Ljava/lang/Object;", Cond.methodLink RX6 36 yX6_requireRange, Cond.static yX6_requireRange, Cond.code yX6_requireRange cX6_requireRange 3 none, Cond.classLink RX6 189 "java/lang/IllegalArgumentException", Cond.initialized "java/lang/IllegalArgumentException"]
def wsX6_budget : List Cond := .code yX6_budget cX6_budget 5 (some .int) :: ((wsX6_budget_r1 ++ wsX6_budget_r2) ++ wsX40 ++ wsX60 ++ wsJx4a65c0 ++ (vx_atS RX6 147 "java/lang/IndexOutOfBoundsException" ["java/lang/RuntimeException", "java/lang/Exception"]).filter goodWord ++ (vx_atS RX6 193 "java/lang/IllegalArgumentException" ["java/lang/RuntimeException", "java/lang/Exception"]).filter goodWord)
def wsX6_right_r1 : List Cond := [Cond.classLink RX6 93 RX5, Cond.instantiable RX5 3, Cond.initialized RX5, Cond.methodLink RX6 83 yX6_partyAt, Cond.instanceMethod yX6_partyAt, Cond.selects RX6 yX6_partyAt yX6_partyAt, Cond.initialized RX6, Cond.code yX6_partyAt cX6_partyAt 2 (some (.object "Dataroom$Party")), Cond.classLink RX6 143 "java/lang/IndexOutOfBoundsException", Cond.initialized "java/lang/IndexOutOfBoundsException", Cond.fieldLink RX6 16 "Dataroom" "allParties" "Ljava/util/ArrayList;", Cond.classLink RX6 72 "Dataroom$Party", Cond.methodLink RX6 40 yJx4a65c_size_8abf5, Cond.instanceMethod yJx4a65c_size_8abf5, Cond.selects RJx4a65c yJx4a65c_size_8abf5 yJx4a65c_size_8abf5, Cond.initialized RJx4a65c, Cond.code yJx4a65c_size_8abf5 cJx4a65c_size_8abf5 1 (some .int), Cond.fieldLink RJx4a65c 48 "java/util/ArrayList" "size" "I", Cond.methodLink RX6 68 yJx4a65c_get_915e3, Cond.instanceMethod yJx4a65c_get_915e3, Cond.selects RJx4a65c yJx4a65c_get_915e3 yJx4a65c_get_915e3, Cond.code yJx4a65c_get_915e3 cJx4a65c_get_915e3 2 (some (.object "java/lang/Object")), Cond.methodLink RJx4a65c 118 yJ15_checkIndex_7cf53, Cond.static yJ15_checkIndex_7cf53]
def wsX6_right_r2 : List Cond := [Cond.initialized RJ15, Cond.code yJ15_checkIndex_7cf53 cJ15_checkIndex_7cf53 2 (some .int), Cond.methodLink RJ15 105 yJ3_checkIndex_8e157, Cond.static yJ3_checkIndex_8e157, Cond.initialized RJ3, Cond.code yJ3_checkIndex_8e157 cJ3_checkIndex_8e157 3 (some .int), Cond.methodLink RJx4a65c 123 yJx4a65c_elementData_915e3, Cond.instanceMethod yJx4a65c_elementData_915e3, Cond.selects RJx4a65c yJx4a65c_elementData_915e3 yJx4a65c_elementData_915e3, Cond.code yJx4a65c_elementData_915e3 cJx4a65c_elementData_915e3 2 (some (.object "java/lang/Object")), Cond.fieldLink RJx4a65c 9 "java/util/ArrayList" "elementData" "[Ljava/lang/Object;", Cond.methodLink RX6 90 yX6_requireFile, Cond.instanceMethod yX6_requireFile, Cond.selects RX6 yX6_requireFile yX6_requireFile, Cond.code yX6_requireFile cX6_requireFile 2 none, Cond.fieldLink RX6 10 "Dataroom" "allFiles" "Ljava/util/ArrayList;", Cond.methodLink RX6 36 yX6_requireRange, Cond.static yX6_requireRange, Cond.code yX6_requireRange cX6_requireRange 3 none, Cond.classLink RX6 189 "java/lang/IllegalArgumentException", Cond.initialized "java/lang/IllegalArgumentException", Cond.methodLink RX6 95 yX5_init, Cond.instanceMethod yX5_init, Cond.code yX5_init cX5_init 4 none]
def wsX6_right_r3 : List Cond := [Cond.methodLink RX5 3 objectInit, Cond.instanceMethod objectInit, Cond.code objectInit ⟨#[0xb1]⟩ 1 none, Cond.fieldLink RX5 9 "Dataroom$Right" "kind" "I", Cond.fieldLink RX5 15 "Dataroom$Right" "from" "I", Cond.fieldLink RX5 18 "Dataroom$Right" "to" "I", Cond.methodLink RX6 97 yX4_setRight, Cond.instanceMethod yX4_setRight, Cond.selects RX4 yX4_setRight yX4_setRight, Cond.initialized RX4, Cond.code yX4_setRight cX4_setRight 3 none, Cond.fieldLink RX4 11 "Dataroom$Party" "rights" "[LDataroom$Right;"]
def wsX6_right : List Cond := .code yX6_right cX6_right 7 none :: ((wsX6_right_r1 ++ (wsX6_right_r2 ++ wsX6_right_r3)) ++ wsX50 ++ wsX60 ++ wsJx4a65c0 ++ wsX40 ++ (vx_atS RX6 147 "java/lang/IndexOutOfBoundsException" ["java/lang/RuntimeException", "java/lang/Exception"]).filter goodWord ++ (vx_atS RX6 193 "java/lang/IllegalArgumentException" ["java/lang/RuntimeException", "java/lang/Exception"]).filter goodWord)
def wsX6_takeBack_r1 : List Cond := [Cond.methodLink RX6 83 yX6_partyAt, Cond.instanceMethod yX6_partyAt, Cond.selects RX6 yX6_partyAt yX6_partyAt, Cond.initialized RX6, Cond.code yX6_partyAt cX6_partyAt 2 (some (.object "Dataroom$Party")), Cond.classLink RX6 143 "java/lang/IndexOutOfBoundsException", Cond.initialized "java/lang/IndexOutOfBoundsException", Cond.fieldLink RX6 16 "Dataroom" "allParties" "Ljava/util/ArrayList;", Cond.classLink RX6 72 "Dataroom$Party", Cond.methodLink RX6 40 yJx4a65c_size_8abf5, Cond.instanceMethod yJx4a65c_size_8abf5, Cond.selects RJx4a65c yJx4a65c_size_8abf5 yJx4a65c_size_8abf5, Cond.initialized RJx4a65c, Cond.code yJx4a65c_size_8abf5 cJx4a65c_size_8abf5 1 (some .int), Cond.fieldLink RJx4a65c 48 "java/util/ArrayList" "size" "I", Cond.methodLink RX6 68 yJx4a65c_get_915e3, Cond.instanceMethod yJx4a65c_get_915e3, Cond.selects RJx4a65c yJx4a65c_get_915e3 yJx4a65c_get_915e3, Cond.code yJx4a65c_get_915e3 cJx4a65c_get_915e3 2 (some (.object "java/lang/Object")), Cond.methodLink RJx4a65c 118 yJ15_checkIndex_7cf53, Cond.static yJ15_checkIndex_7cf53, Cond.initialized RJ15, Cond.code yJ15_checkIndex_7cf53 cJ15_checkIndex_7cf53 2 (some .int), Cond.methodLink RJ15 105 yJ3_checkIndex_8e157]
def wsX6_takeBack_r2 : List Cond := [Cond.static yJ3_checkIndex_8e157, Cond.initialized RJ3, Cond.code yJ3_checkIndex_8e157 cJ3_checkIndex_8e157 3 (some .int), Cond.methodLink RJx4a65c 123 yJx4a65c_elementData_915e3, Cond.instanceMethod yJx4a65c_elementData_915e3, Cond.selects RJx4a65c yJx4a65c_elementData_915e3 yJx4a65c_elementData_915e3, Cond.code yJx4a65c_elementData_915e3 cJx4a65c_elementData_915e3 2 (some (.object "java/lang/Object")), Cond.fieldLink RJx4a65c 9 "java/util/ArrayList" "elementData" "[Ljava/lang/Object;", Cond.methodLink RX6 90 yX6_requireFile, Cond.instanceMethod yX6_requireFile, Cond.selects RX6 yX6_requireFile yX6_requireFile, Cond.code yX6_requireFile cX6_requireFile 2 none, Cond.fieldLink RX6 10 "Dataroom" "allFiles" "Ljava/util/ArrayList;", Cond.methodLink RX6 101 yX4_rightFor, Cond.instanceMethod yX4_rightFor, Cond.selects RX4 yX4_rightFor yX4_rightFor, Cond.initialized RX4, Cond.code yX4_rightFor cX4_rightFor 2 (some (.object "Dataroom$Right")), Cond.fieldLink RX4 11 "Dataroom$Party" "rights" "[LDataroom$Right;", Cond.methodLink RX6 97 yX4_setRight, Cond.instanceMethod yX4_setRight, Cond.selects RX4 yX4_setRight yX4_setRight, Cond.code yX4_setRight cX4_setRight 3 none, Cond.methodLink RX6 74 yX6_recall]
def wsX6_takeBack_r3 : List Cond := [Cond.instanceMethod yX6_recall, Cond.selects RX6 yX6_recall yX6_recall, Cond.code yX6_recall cX6_recall 6 (some .int), Cond.fieldLink RX6 19 "Dataroom" "allAnswers" "Ljava/util/ArrayList;", Cond.classLink RX6 129 "Dataroom$Answer", Cond.methodLink RX6 209 yX0_standsFor, Cond.instanceMethod yX0_standsFor, Cond.selects RX0 yX0_standsFor yX0_standsFor, Cond.initialized RX0, Cond.code yX0_standsFor cX0_standsFor 2 (some .boolean), Cond.fieldLink RX0 25 "Dataroom$Answer" "recalled" "Z", Cond.fieldLink RX0 7 "Dataroom$Answer" "party" "I", Cond.methodLink RX6 205 yX6_holds, Cond.static yX6_holds, Cond.code yX6_holds cX6_holds 2 (some .boolean), Cond.methodLink RX6 220 yX6_learnAnew, Cond.instanceMethod yX6_learnAnew, Cond.selects RX6 yX6_learnAnew yX6_learnAnew, Cond.code yX6_learnAnew cX6_learnAnew 4 none, Cond.methodLink RX6 224 yX4_forget, Cond.instanceMethod yX4_forget, Cond.selects RX4 yX4_forget yX4_forget, Cond.code yX4_forget cX4_forget 2 none, Cond.fieldLink RX4 19 "Dataroom$Party" "known" "[LDataroom$Knowledge;"]
def wsX6_takeBack_r4 : List Cond := [Cond.methodLink RX4 51 yX2_forget, Cond.instanceMethod yX2_forget, Cond.selects RX2 yX2_forget yX2_forget, Cond.initialized RX2, Cond.code yX2_forget cX2_forget 2 none, Cond.fieldLink RX2 9 "Dataroom$Knowledge" "rows" "[I", Cond.fieldLink RX2 15 "Dataroom$Knowledge" "learned" "I", Cond.methodLink RX6 137 yX4_learn, Cond.instanceMethod yX4_learn, Cond.selects RX4 yX4_learn yX4_learn, Cond.code yX4_learn cX4_learn 4 none, Cond.static yX6_covers, Cond.code yX6_covers cX6_covers 2 (some .boolean), Cond.methodLink RX4 47 yX2_learn, Cond.instanceMethod yX2_learn, Cond.selects RX2 yX2_learn yX2_learn, Cond.code yX2_learn cX2_learn 4 none]
def wsX6_takeBack : List Cond := .code yX6_takeBack cX6_takeBack 4 (some .int) :: ((wsX6_takeBack_r1 ++ (wsX6_takeBack_r2 ++ (wsX6_takeBack_r3 ++ wsX6_takeBack_r4))) ++ wsX60 ++ wsJx4a65c0 ++ wsX40 ++ wsX00 ++ wsX20 ++ (vx_atS RX6 147 "java/lang/IndexOutOfBoundsException" ["java/lang/RuntimeException", "java/lang/Exception"]).filter goodWord)
def wsX6_seal_r1 : List Cond := [Cond.methodLink RX6 60 yX6_fileAt, Cond.instanceMethod yX6_fileAt, Cond.selects RX6 yX6_fileAt yX6_fileAt, Cond.initialized RX6, Cond.code yX6_fileAt cX6_fileAt 2 (some (.object "Dataroom$Card")), Cond.fieldLink RX6 10 "Dataroom" "allFiles" "Ljava/util/ArrayList;", Cond.classLink RX6 51 "Dataroom$Card", Cond.methodLink RX6 90 yX6_requireFile, Cond.instanceMethod yX6_requireFile, Cond.selects RX6 yX6_requireFile yX6_requireFile, Cond.code yX6_requireFile cX6_requireFile 2 none, Cond.classLink RX6 143 "java/lang/IndexOutOfBoundsException", Cond.initialized "java/lang/IndexOutOfBoundsException", Cond.methodLink RX6 40 yJx4a65c_size_8abf5, Cond.instanceMethod yJx4a65c_size_8abf5, Cond.selects RJx4a65c yJx4a65c_size_8abf5 yJx4a65c_size_8abf5, Cond.initialized RJx4a65c, Cond.code yJx4a65c_size_8abf5 cJx4a65c_size_8abf5 1 (some .int), Cond.fieldLink RJx4a65c 48 "java/util/ArrayList" "size" "I", Cond.methodLink RX6 68 yJx4a65c_get_915e3, Cond.instanceMethod yJx4a65c_get_915e3, Cond.selects RJx4a65c yJx4a65c_get_915e3 yJx4a65c_get_915e3, Cond.code yJx4a65c_get_915e3 cJx4a65c_get_915e3 2 (some (.object "java/lang/Object")), Cond.methodLink RJx4a65c 118 yJ15_checkIndex_7cf53]
def wsX6_seal_r2 : List Cond := [Cond.static yJ15_checkIndex_7cf53, Cond.initialized RJ15, Cond.code yJ15_checkIndex_7cf53 cJ15_checkIndex_7cf53 2 (some .int), Cond.methodLink RJ15 105 yJ3_checkIndex_8e157, Cond.static yJ3_checkIndex_8e157, Cond.initialized RJ3, Cond.code yJ3_checkIndex_8e157 cJ3_checkIndex_8e157 3 (some .int), Cond.methodLink RJx4a65c 123 yJx4a65c_elementData_915e3, Cond.instanceMethod yJx4a65c_elementData_915e3, Cond.selects RJx4a65c yJx4a65c_elementData_915e3 yJx4a65c_elementData_915e3, Cond.code yJx4a65c_elementData_915e3 cJx4a65c_elementData_915e3 2 (some (.object "java/lang/Object")), Cond.fieldLink RJx4a65c 9 "java/util/ArrayList" "elementData" "[Ljava/lang/Object;", Cond.methodLink RX6 36 yX6_requireRange, Cond.static yX6_requireRange, Cond.code yX6_requireRange cX6_requireRange 3 none, Cond.classLink RX6 189 "java/lang/IllegalArgumentException", Cond.initialized "java/lang/IllegalArgumentException"]
def wsX6_seal : List Cond := .code yX6_seal cX6_seal 4 none :: ((wsX6_seal_r1 ++ wsX6_seal_r2) ++ wsX10 ++ wsX60 ++ wsJx4a65c0 ++ (vx_atS RX6 147 "java/lang/IndexOutOfBoundsException" ["java/lang/RuntimeException", "java/lang/Exception"]).filter goodWord ++ (vx_atS RX6 193 "java/lang/IllegalArgumentException" ["java/lang/RuntimeException", "java/lang/Exception"]).filter goodWord)
def wsX6_pass : List Cond := .code yX6_pass cX6_pass 2 (some .int) :: ([.classLink RX6 44 "java/lang/IllegalStateException", .initialized "java/lang/IllegalStateException", .fieldLink RX6 108 "Dataroom" "now" "I", .methodLink RX6 36 yX6_requireRange, .static yX6_requireRange, .initialized RX6, .code yX6_requireRange cX6_requireRange 3 none, .classLink RX6 189 "java/lang/IllegalArgumentException", .initialized "java/lang/IllegalArgumentException"] ++ wsX60 ++ (vx_atS RX6 48 "java/lang/IllegalStateException" ["java/lang/RuntimeException", "java/lang/Exception"]).filter goodWord ++ (vx_atS RX6 193 "java/lang/IllegalArgumentException" ["java/lang/RuntimeException", "java/lang/Exception"]).filter goodWord)
def wsX6_requireQuestion : List Cond := .code yX6_requireQuestion cX6_requireQuestion 3 none :: ([.fieldLink RX6 10 "Dataroom" "allFiles" "Ljava/util/ArrayList;", .methodLink RX6 40 yJx4a65c_size_8abf5, .instanceMethod yJx4a65c_size_8abf5, .selects RJx4a65c yJx4a65c_size_8abf5 yJx4a65c_size_8abf5, .initialized RJx4a65c, .code yJx4a65c_size_8abf5 cJx4a65c_size_8abf5 1 (some .int), .fieldLink RJx4a65c 48 "java/util/ArrayList" "size" "I", .methodLink RX6 36 yX6_requireRange, .static yX6_requireRange, .initialized RX6, .code yX6_requireRange cX6_requireRange 3 none, .classLink RX6 189 "java/lang/IllegalArgumentException", .initialized "java/lang/IllegalArgumentException"] ++ wsX60 ++ wsJx4a65c0 ++ (vx_atS RX6 193 "java/lang/IllegalArgumentException" ["java/lang/RuntimeException", "java/lang/Exception"]).filter goodWord)
def wsX6_lacksRight_r1 : List Cond := [Cond.fieldLink RX6 10 "Dataroom" "allFiles" "Ljava/util/ArrayList;", Cond.fieldLink RX6 108 "Dataroom" "now" "I", Cond.methodLink RX6 40 yJx4a65c_size_8abf5, Cond.instanceMethod yJx4a65c_size_8abf5, Cond.selects RJx4a65c yJx4a65c_size_8abf5 yJx4a65c_size_8abf5, Cond.initialized RJx4a65c, Cond.code yJx4a65c_size_8abf5 cJx4a65c_size_8abf5 1 (some .int), Cond.fieldLink RJx4a65c 48 "java/util/ArrayList" "size" "I", Cond.methodLink RX6 205 yX6_holds, Cond.static yX6_holds, Cond.initialized RX6, Cond.code yX6_holds cX6_holds 2 (some .boolean), Cond.methodLink RX6 172 yX4_rightIn, Cond.instanceMethod yX4_rightIn, Cond.selects RX4 yX4_rightIn yX4_rightIn, Cond.initialized RX4, Cond.code yX4_rightIn cX4_rightIn 4 (some .int), Cond.methodLink RX4 35 yX4_rightFor, Cond.instanceMethod yX4_rightFor, Cond.selects RX4 yX4_rightFor yX4_rightFor, Cond.code yX4_rightFor cX4_rightFor 2 (some (.object "Dataroom$Right")), Cond.fieldLink RX4 11 "Dataroom$Party" "rights" "[LDataroom$Right;", Cond.methodLink RX4 39 yX5_in, Cond.instanceMethod yX5_in]
def wsX6_lacksRight_r2 : List Cond := [Cond.selects RX5 yX5_in yX5_in, Cond.initialized RX5, Cond.code yX5_in cX5_in 2 (some .int), Cond.fieldLink RX5 15 "Dataroom$Right" "from" "I", Cond.fieldLink RX5 18 "Dataroom$Right" "to" "I", Cond.fieldLink RX5 9 "Dataroom$Right" "kind" "I"]
def wsX6_lacksRight : List Cond := .code yX6_lacksRight cX6_lacksRight 4 (some .boolean) :: ((wsX6_lacksRight_r1 ++ wsX6_lacksRight_r2) ++ wsX60 ++ wsJx4a65c0 ++ wsX40 ++ wsX50)
def wsX6_hasSealed_r1 : List Cond := [Cond.fieldLink RX6 10 "Dataroom" "allFiles" "Ljava/util/ArrayList;", Cond.classLink RX6 51 "Dataroom$Card", Cond.fieldLink RX6 108 "Dataroom" "now" "I", Cond.methodLink RX6 40 yJx4a65c_size_8abf5, Cond.instanceMethod yJx4a65c_size_8abf5, Cond.selects RJx4a65c yJx4a65c_size_8abf5 yJx4a65c_size_8abf5, Cond.initialized RJx4a65c, Cond.code yJx4a65c_size_8abf5 cJx4a65c_size_8abf5 1 (some .int), Cond.fieldLink RJx4a65c 48 "java/util/ArrayList" "size" "I", Cond.methodLink RX6 205 yX6_holds, Cond.static yX6_holds, Cond.initialized RX6, Cond.code yX6_holds cX6_holds 2 (some .boolean), Cond.methodLink RX6 68 yJx4a65c_get_915e3, Cond.instanceMethod yJx4a65c_get_915e3, Cond.selects RJx4a65c yJx4a65c_get_915e3 yJx4a65c_get_915e3, Cond.code yJx4a65c_get_915e3 cJx4a65c_get_915e3 2 (some (.object "java/lang/Object")), Cond.methodLink RJx4a65c 118 yJ15_checkIndex_7cf53, Cond.static yJ15_checkIndex_7cf53, Cond.initialized RJ15, Cond.code yJ15_checkIndex_7cf53 cJ15_checkIndex_7cf53 2 (some .int), Cond.methodLink RJ15 105 yJ3_checkIndex_8e157, Cond.static yJ3_checkIndex_8e157, Cond.initialized RJ3]
def wsX6_hasSealed_r2 : List Cond := [Cond.code yJ3_checkIndex_8e157 cJ3_checkIndex_8e157 3 (some .int), Cond.methodLink RJx4a65c 123 yJx4a65c_elementData_915e3, Cond.instanceMethod yJx4a65c_elementData_915e3, Cond.selects RJx4a65c yJx4a65c_elementData_915e3 yJx4a65c_elementData_915e3, Cond.code yJx4a65c_elementData_915e3 cJx4a65c_elementData_915e3 2 (some (.object "java/lang/Object")), Cond.fieldLink RJx4a65c 9 "java/util/ArrayList" "elementData" "[Ljava/lang/Object;", Cond.methodLink RX6 175 yX1_isClosedIn, Cond.instanceMethod yX1_isClosedIn, Cond.selects RX1 yX1_isClosedIn yX1_isClosedIn, Cond.initialized RX1, Cond.code yX1_isClosedIn cX1_isClosedIn 2 (some .boolean), Cond.fieldLink RX1 9 "Dataroom$Card" "sealedTill" "I"]
def wsX6_hasSealed : List Cond := .code yX6_hasSealed cX6_hasSealed 3 (some .boolean) :: ((wsX6_hasSealed_r1 ++ wsX6_hasSealed_r2) ++ wsX60 ++ wsJx4a65c0 ++ wsX10)
def wsX6_refusalOf_r1 : List Cond := [Cond.fieldLink RX6 108 "Dataroom" "now" "I", Cond.methodLink RX6 194 yX6_lacksRight, Cond.instanceMethod yX6_lacksRight, Cond.selects RX6 yX6_lacksRight yX6_lacksRight, Cond.initialized RX6, Cond.code yX6_lacksRight cX6_lacksRight 4 (some .boolean), Cond.fieldLink RX6 10 "Dataroom" "allFiles" "Ljava/util/ArrayList;", Cond.methodLink RX6 40 yJx4a65c_size_8abf5, Cond.instanceMethod yJx4a65c_size_8abf5, Cond.selects RJx4a65c yJx4a65c_size_8abf5 yJx4a65c_size_8abf5, Cond.initialized RJx4a65c, Cond.code yJx4a65c_size_8abf5 cJx4a65c_size_8abf5 1 (some .int), Cond.fieldLink RJx4a65c 48 "java/util/ArrayList" "size" "I", Cond.methodLink RX6 205 yX6_holds, Cond.static yX6_holds, Cond.code yX6_holds cX6_holds 2 (some .boolean), Cond.methodLink RX6 172 yX4_rightIn, Cond.instanceMethod yX4_rightIn, Cond.selects RX4 yX4_rightIn yX4_rightIn, Cond.initialized RX4, Cond.code yX4_rightIn cX4_rightIn 4 (some .int), Cond.methodLink RX4 35 yX4_rightFor, Cond.instanceMethod yX4_rightFor, Cond.selects RX4 yX4_rightFor yX4_rightFor]
def wsX6_refusalOf_r2 : List Cond := [Cond.code yX4_rightFor cX4_rightFor 2 (some (.object "Dataroom$Right")), Cond.fieldLink RX4 11 "Dataroom$Party" "rights" "[LDataroom$Right;", Cond.methodLink RX4 39 yX5_in, Cond.instanceMethod yX5_in, Cond.selects RX5 yX5_in yX5_in, Cond.initialized RX5, Cond.code yX5_in cX5_in 2 (some .int), Cond.fieldLink RX5 15 "Dataroom$Right" "from" "I", Cond.fieldLink RX5 18 "Dataroom$Right" "to" "I", Cond.fieldLink RX5 9 "Dataroom$Right" "kind" "I", Cond.methodLink RX6 198 yX6_hasSealed, Cond.instanceMethod yX6_hasSealed, Cond.selects RX6 yX6_hasSealed yX6_hasSealed, Cond.code yX6_hasSealed cX6_hasSealed 3 (some .boolean), Cond.classLink RX6 51 "Dataroom$Card", Cond.methodLink RX6 68 yJx4a65c_get_915e3, Cond.instanceMethod yJx4a65c_get_915e3, Cond.selects RJx4a65c yJx4a65c_get_915e3 yJx4a65c_get_915e3, Cond.code yJx4a65c_get_915e3 cJx4a65c_get_915e3 2 (some (.object "java/lang/Object")), Cond.methodLink RJx4a65c 118 yJ15_checkIndex_7cf53, Cond.static yJ15_checkIndex_7cf53, Cond.initialized RJ15, Cond.code yJ15_checkIndex_7cf53 cJ15_checkIndex_7cf53 2 (some .int), Cond.methodLink RJ15 105 yJ3_checkIndex_8e157]
def wsX6_refusalOf_r3 : List Cond := [Cond.static yJ3_checkIndex_8e157, Cond.initialized RJ3, Cond.code yJ3_checkIndex_8e157 cJ3_checkIndex_8e157 3 (some .int), Cond.methodLink RJx4a65c 123 yJx4a65c_elementData_915e3, Cond.instanceMethod yJx4a65c_elementData_915e3, Cond.selects RJx4a65c yJx4a65c_elementData_915e3 yJx4a65c_elementData_915e3, Cond.code yJx4a65c_elementData_915e3 cJx4a65c_elementData_915e3 2 (some (.object "java/lang/Object")), Cond.fieldLink RJx4a65c 9 "java/util/ArrayList" "elementData" "[Ljava/lang/Object;", Cond.methodLink RX6 175 yX1_isClosedIn, Cond.instanceMethod yX1_isClosedIn, Cond.selects RX1 yX1_isClosedIn yX1_isClosedIn, Cond.initialized RX1, Cond.code yX1_isClosedIn cX1_isClosedIn 2 (some .boolean), Cond.fieldLink RX1 9 "Dataroom$Card" "sealedTill" "I", Cond.methodLink RX6 201 yX4_wouldFindUnread, Cond.instanceMethod yX4_wouldFindUnread, Cond.selects RX4 yX4_wouldFindUnread yX4_wouldFindUnread, Cond.code yX4_wouldFindUnread cX4_wouldFindUnread 5 (some .boolean), Cond.methodLink RX4 61 yX4_rightIn, Cond.methodLink RX4 65 yX4_wouldFind, Cond.instanceMethod yX4_wouldFind, Cond.selects RX4 yX4_wouldFind yX4_wouldFind, Cond.code yX4_wouldFind cX4_wouldFind 5 (some .boolean), Cond.fieldLink RX4 19 "Dataroom$Party" "known" "[LDataroom$Knowledge;"]
def wsX6_refusalOf_r4 : List Cond := [Cond.static yX6_covers, Cond.code yX6_covers cX6_covers 2 (some .boolean), Cond.methodLink RX4 69 yX2_wouldReach, Cond.instanceMethod yX2_wouldReach, Cond.selects RX2 yX2_wouldReach yX2_wouldReach, Cond.initialized RX2, Cond.code yX2_wouldReach cX2_wouldReach 3 (some .boolean), Cond.methodLink RX2 27 yX2_knows, Cond.instanceMethod yX2_knows, Cond.selects RX2 yX2_knows yX2_knows, Cond.code yX2_knows cX2_knows 4 (some .boolean), Cond.fieldLink RX2 9 "Dataroom$Knowledge" "rows" "[I", Cond.methodLink RX6 152 yX4_learnedInAll, Cond.instanceMethod yX4_learnedInAll, Cond.selects RX4 yX4_learnedInAll yX4_learnedInAll, Cond.code yX4_learnedInAll cX4_learnedInAll 3 (some .int), Cond.methodLink RX6 140 yX4_costOf, Cond.instanceMethod yX4_costOf, Cond.selects RX4 yX4_costOf yX4_costOf, Cond.code yX4_costOf cX4_costOf 5 (some .int), Cond.methodLink RX4 57 yX2_knows]
def wsX6_refusalOf : List Cond := .code yX6_refusalOf cX6_refusalOf 4 (some .int) :: ((wsX6_refusalOf_r1 ++ (wsX6_refusalOf_r2 ++ (wsX6_refusalOf_r3 ++ wsX6_refusalOf_r4))) ++ wsX60 ++ wsX40 ++ wsJx4a65c0 ++ wsX50 ++ wsX10 ++ wsX20)
def wsX6_sumOf_r1 : List Cond := [Cond.fieldLink RX6 10 "Dataroom" "allFiles" "Ljava/util/ArrayList;", Cond.classLink RX6 51 "Dataroom$Card", Cond.methodLink RX6 40 yJx4a65c_size_8abf5, Cond.instanceMethod yJx4a65c_size_8abf5, Cond.selects RJx4a65c yJx4a65c_size_8abf5 yJx4a65c_size_8abf5, Cond.initialized RJx4a65c, Cond.code yJx4a65c_size_8abf5 cJx4a65c_size_8abf5 1 (some .int), Cond.fieldLink RJx4a65c 48 "java/util/ArrayList" "size" "I", Cond.methodLink RX6 205 yX6_holds, Cond.static yX6_holds, Cond.initialized RX6, Cond.code yX6_holds cX6_holds 2 (some .boolean), Cond.methodLink RX6 68 yJx4a65c_get_915e3, Cond.instanceMethod yJx4a65c_get_915e3, Cond.selects RJx4a65c yJx4a65c_get_915e3 yJx4a65c_get_915e3, Cond.code yJx4a65c_get_915e3 cJx4a65c_get_915e3 2 (some (.object "java/lang/Object")), Cond.methodLink RJx4a65c 118 yJ15_checkIndex_7cf53, Cond.static yJ15_checkIndex_7cf53, Cond.initialized RJ15, Cond.code yJ15_checkIndex_7cf53 cJ15_checkIndex_7cf53 2 (some .int), Cond.methodLink RJ15 105 yJ3_checkIndex_8e157, Cond.static yJ3_checkIndex_8e157, Cond.initialized RJ3, Cond.code yJ3_checkIndex_8e157 cJ3_checkIndex_8e157 3 (some .int)]
def wsX6_sumOf_r2 : List Cond := [Cond.methodLink RJx4a65c 123 yJx4a65c_elementData_915e3, Cond.instanceMethod yJx4a65c_elementData_915e3, Cond.selects RJx4a65c yJx4a65c_elementData_915e3 yJx4a65c_elementData_915e3, Cond.code yJx4a65c_elementData_915e3 cJx4a65c_elementData_915e3 2 (some (.object "java/lang/Object")), Cond.fieldLink RJx4a65c 9 "java/util/ArrayList" "elementData" "[Ljava/lang/Object;"]
def wsX6_sumOf : List Cond := .code yX6_sumOf cX6_sumOf 5 (some .int) :: ((wsX6_sumOf_r1 ++ wsX6_sumOf_r2) ++ wsX60 ++ wsX10 ++ wsJx4a65c0)
def wsX6_ask_r1 : List Cond := [Cond.classLink RX6 44 "java/lang/IllegalStateException", Cond.initialized "java/lang/IllegalStateException", Cond.fieldLink RX6 19 "Dataroom" "allAnswers" "Ljava/util/ArrayList;", Cond.classLink RX6 129 RX0, Cond.instantiable RX0 6, Cond.initialized RX0, Cond.fieldLink RX6 108 "Dataroom" "now" "I", Cond.methodLink RX6 83 yX6_partyAt, Cond.instanceMethod yX6_partyAt, Cond.selects RX6 yX6_partyAt yX6_partyAt, Cond.initialized RX6, Cond.code yX6_partyAt cX6_partyAt 2 (some (.object "Dataroom$Party")), Cond.classLink RX6 143 "java/lang/IndexOutOfBoundsException", Cond.initialized "java/lang/IndexOutOfBoundsException", Cond.fieldLink RX6 16 "Dataroom" "allParties" "Ljava/util/ArrayList;", Cond.classLink RX6 72 "Dataroom$Party", Cond.methodLink RX6 40 yJx4a65c_size_8abf5, Cond.instanceMethod yJx4a65c_size_8abf5, Cond.selects RJx4a65c yJx4a65c_size_8abf5 yJx4a65c_size_8abf5, Cond.initialized RJx4a65c, Cond.code yJx4a65c_size_8abf5 cJx4a65c_size_8abf5 1 (some .int), Cond.fieldLink RJx4a65c 48 "java/util/ArrayList" "size" "I", Cond.methodLink RX6 68 yJx4a65c_get_915e3, Cond.instanceMethod yJx4a65c_get_915e3]
def wsX6_ask_r2 : List Cond := [Cond.selects RJx4a65c yJx4a65c_get_915e3 yJx4a65c_get_915e3, Cond.code yJx4a65c_get_915e3 cJx4a65c_get_915e3 2 (some (.object "java/lang/Object")), Cond.methodLink RJx4a65c 118 yJ15_checkIndex_7cf53, Cond.static yJ15_checkIndex_7cf53, Cond.initialized RJ15, Cond.code yJ15_checkIndex_7cf53 cJ15_checkIndex_7cf53 2 (some .int), Cond.methodLink RJ15 105 yJ3_checkIndex_8e157, Cond.static yJ3_checkIndex_8e157, Cond.initialized RJ3, Cond.code yJ3_checkIndex_8e157 cJ3_checkIndex_8e157 3 (some .int), Cond.methodLink RJx4a65c 123 yJx4a65c_elementData_915e3, Cond.instanceMethod yJx4a65c_elementData_915e3, Cond.selects RJx4a65c yJx4a65c_elementData_915e3 yJx4a65c_elementData_915e3, Cond.code yJx4a65c_elementData_915e3 cJx4a65c_elementData_915e3 2 (some (.object "java/lang/Object")), Cond.fieldLink RJx4a65c 9 "java/util/ArrayList" "elementData" "[Ljava/lang/Object;", Cond.methodLink RX6 113 yX6_requireQuestion, Cond.instanceMethod yX6_requireQuestion, Cond.selects RX6 yX6_requireQuestion yX6_requireQuestion, Cond.code yX6_requireQuestion cX6_requireQuestion 3 none, Cond.fieldLink RX6 10 "Dataroom" "allFiles" "Ljava/util/ArrayList;", Cond.methodLink RX6 36 yX6_requireRange, Cond.static yX6_requireRange, Cond.code yX6_requireRange cX6_requireRange 3 none, Cond.classLink RX6 189 "java/lang/IllegalArgumentException"]
def wsX6_ask_r3 : List Cond := [Cond.initialized "java/lang/IllegalArgumentException", Cond.methodLink RX6 118 yX6_refusalOf, Cond.instanceMethod yX6_refusalOf, Cond.selects RX6 yX6_refusalOf yX6_refusalOf, Cond.code yX6_refusalOf cX6_refusalOf 4 (some .int), Cond.methodLink RX6 194 yX6_lacksRight, Cond.instanceMethod yX6_lacksRight, Cond.selects RX6 yX6_lacksRight yX6_lacksRight, Cond.code yX6_lacksRight cX6_lacksRight 4 (some .boolean), Cond.methodLink RX6 205 yX6_holds, Cond.static yX6_holds, Cond.code yX6_holds cX6_holds 2 (some .boolean), Cond.methodLink RX6 172 yX4_rightIn, Cond.instanceMethod yX4_rightIn, Cond.selects RX4 yX4_rightIn yX4_rightIn, Cond.initialized RX4, Cond.code yX4_rightIn cX4_rightIn 4 (some .int), Cond.methodLink RX4 35 yX4_rightFor, Cond.instanceMethod yX4_rightFor, Cond.selects RX4 yX4_rightFor yX4_rightFor, Cond.code yX4_rightFor cX4_rightFor 2 (some (.object "Dataroom$Right")), Cond.fieldLink RX4 11 "Dataroom$Party" "rights" "[LDataroom$Right;", Cond.methodLink RX4 39 yX5_in, Cond.instanceMethod yX5_in]
def wsX6_ask_r4 : List Cond := [Cond.selects RX5 yX5_in yX5_in, Cond.initialized RX5, Cond.code yX5_in cX5_in 2 (some .int), Cond.fieldLink RX5 15 "Dataroom$Right" "from" "I", Cond.fieldLink RX5 18 "Dataroom$Right" "to" "I", Cond.fieldLink RX5 9 "Dataroom$Right" "kind" "I", Cond.methodLink RX6 198 yX6_hasSealed, Cond.instanceMethod yX6_hasSealed, Cond.selects RX6 yX6_hasSealed yX6_hasSealed, Cond.code yX6_hasSealed cX6_hasSealed 3 (some .boolean), Cond.classLink RX6 51 "Dataroom$Card", Cond.methodLink RX6 175 yX1_isClosedIn, Cond.instanceMethod yX1_isClosedIn, Cond.selects RX1 yX1_isClosedIn yX1_isClosedIn, Cond.initialized RX1, Cond.code yX1_isClosedIn cX1_isClosedIn 2 (some .boolean), Cond.fieldLink RX1 9 "Dataroom$Card" "sealedTill" "I", Cond.methodLink RX6 201 yX4_wouldFindUnread, Cond.instanceMethod yX4_wouldFindUnread, Cond.selects RX4 yX4_wouldFindUnread yX4_wouldFindUnread, Cond.code yX4_wouldFindUnread cX4_wouldFindUnread 5 (some .boolean), Cond.methodLink RX4 61 yX4_rightIn, Cond.methodLink RX4 65 yX4_wouldFind, Cond.instanceMethod yX4_wouldFind]
def wsX6_ask_r5 : List Cond := [Cond.selects RX4 yX4_wouldFind yX4_wouldFind, Cond.code yX4_wouldFind cX4_wouldFind 5 (some .boolean), Cond.fieldLink RX4 19 "Dataroom$Party" "known" "[LDataroom$Knowledge;", Cond.static yX6_covers, Cond.code yX6_covers cX6_covers 2 (some .boolean), Cond.methodLink RX4 69 yX2_wouldReach, Cond.instanceMethod yX2_wouldReach, Cond.selects RX2 yX2_wouldReach yX2_wouldReach, Cond.initialized RX2, Cond.code yX2_wouldReach cX2_wouldReach 3 (some .boolean), Cond.methodLink RX2 27 yX2_knows, Cond.instanceMethod yX2_knows, Cond.selects RX2 yX2_knows yX2_knows, Cond.code yX2_knows cX2_knows 4 (some .boolean), Cond.fieldLink RX2 9 "Dataroom$Knowledge" "rows" "[I", Cond.methodLink RX6 152 yX4_learnedInAll, Cond.instanceMethod yX4_learnedInAll, Cond.selects RX4 yX4_learnedInAll yX4_learnedInAll, Cond.code yX4_learnedInAll cX4_learnedInAll 3 (some .int), Cond.methodLink RX6 140 yX4_costOf, Cond.instanceMethod yX4_costOf, Cond.selects RX4 yX4_costOf yX4_costOf, Cond.code yX4_costOf cX4_costOf 5 (some .int), Cond.methodLink RX4 57 yX2_knows]
def wsX6_ask_r6 : List Cond := [Cond.methodLink RX6 122 yX4_countQuestion, Cond.instanceMethod yX4_countQuestion, Cond.selects RX4 yX4_countQuestion yX4_countQuestion, Cond.code yX4_countQuestion cX4_countQuestion 3 none, Cond.fieldLink RX4 23 "Dataroom$Party" "fared" "[I", Cond.methodLink RX6 125 yX6_sumOf, Cond.instanceMethod yX6_sumOf, Cond.selects RX6 yX6_sumOf yX6_sumOf, Cond.code yX6_sumOf cX6_sumOf 5 (some .int), Cond.methodLink RX6 134 yX0_init, Cond.instanceMethod yX0_init, Cond.code yX0_init cX0_init 6 none, Cond.methodLink RX0 1 objectInit, Cond.instanceMethod objectInit, Cond.code objectInit ⟨#[0xb1]⟩ 1 none, Cond.fieldLink RX0 7 "Dataroom$Answer" "party" "I", Cond.fieldLink RX0 13 "Dataroom$Answer" "files" "I", Cond.fieldLink RX0 16 "Dataroom$Answer" "bit" "I", Cond.fieldLink RX0 19 "Dataroom$Answer" "given" "I", Cond.fieldLink RX0 22 "Dataroom$Answer" "hour" "I", Cond.methodLink RX6 56 yJx4a65c_add_9ea2d, Cond.instanceMethod yJx4a65c_add_9ea2d, Cond.selects RJx4a65c yJx4a65c_add_9ea2d yJx4a65c_add_9ea2d, Cond.code yJx4a65c_add_9ea2d cJx4a65c_add_9ea2d 2 (some .boolean)]
def wsX6_ask_r7 : List Cond := [Cond.fieldLink RJx4a65c 63 "java/util/ArrayList" "modCount" "I", Cond.sameField "java/util/ArrayList" "java/util/AbstractList" "modCount" "I", Cond.methodLink RJx4a65c 131 yJx4a65c_add_72be8, Cond.instanceMethod yJx4a65c_add_72be8, Cond.selects RJx4a65c yJx4a65c_add_72be8 yJx4a65c_add_72be8, Cond.code yJx4a65c_add_72be8 cJx4a65c_add_72be8 4 none, Cond.methodLink RJx4a65c 129 yJx4a65c_grow_d5877, Cond.instanceMethod yJx4a65c_grow_d5877, Cond.selects RJx4a65c yJx4a65c_grow_d5877 yJx4a65c_grow_d5877, Cond.code yJx4a65c_grow_d5877 cJx4a65c_grow_d5877 1 (some (.array (.object "java/lang/Object"))), Cond.methodLink RJx4a65c 69 yJx4a65c_grow_92f84, Cond.instanceMethod yJx4a65c_grow_92f84, Cond.selects RJx4a65c yJx4a65c_grow_92f84 yJx4a65c_grow_92f84, Cond.code yJx4a65c_grow_92f84 cJx4a65c_grow_92f84 4 (some (.array (.object "java/lang/Object"))), Cond.fieldLink RJx4a65c 39 "java/util/ArrayList" "DEFAULTCAPACITY_EMPTY_ELEMENTDATA" "[Ljava/lang/Object;", Cond.methodLink RJx4a65c 79 Lib.Math.max.name, Cond.static Lib.Math.max.name, Cond.initialized "java/lang/Math", Cond.code Lib.Math.max.name Lib.Math.max.code 2 (some .int), Cond.classLink RJx4a65c 7 "java/lang/Object", Cond.methodLink RJx4a65c 73 yJ8_newLength_cabcc, Cond.static yJ8_newLength_cabcc, Cond.initialized RJ8, Cond.code yJ8_newLength_cabcc cJ8_newLength_cabcc 4 (some .int)]
def wsX6_ask_r8 : List Cond := [Cond.methodLink RJ8 194 Lib.Math.max.name, Cond.constant RJ8 200 (2147483639), Cond.methodLink RJ8 201 yJ8_hugeLength_7cf53, Cond.static yJ8_hugeLength_7cf53, Cond.code yJ8_hugeLength_7cf53 cJ8_hugeLength_7cf53 3 (some .int), Cond.methodLink RJx4a65c 66 yJ7_copyOf_1904c, Cond.static yJ7_copyOf_1904c, Cond.initialized RJ7, Cond.code yJ7_copyOf_1904c cJ7_copyOf_1904c 2 (some (.array (.object "java/lang/Object"))), Cond.methodLink RJ7 86 ⟨"java/lang/Object", "getClass", "()Ljava/lang/Class;"⟩, Cond.selects "[Ljava/lang/Object;" ⟨"java/lang/Object", "getClass", "()Ljava/lang/Class;"⟩ ⟨"java/lang/Object", "getClass", "()Ljava/lang/Class;"⟩, Cond.instanceMethod ⟨"java/lang/Object", "getClass", "()Ljava/lang/Class;"⟩, Cond.native ⟨"java/lang/Object", "getClass", "()Ljava/lang/Class;"⟩, Cond.methodLink RJ7 300 yJ7_copyOf_6403c, Cond.static yJ7_copyOf_6403c, Cond.code yJ7_copyOf_6403c cJ7_copyOf_6403c 4 (some (.array (.object "java/lang/Object"))), Cond.classLink RJ7 110 "[Ljava/lang/Object;", Cond.classLink RJ7 2 "java/lang/Object", Cond.methodLink RJ7 304 Lib.Math.min.name, Cond.static Lib.Math.min.name, Cond.code Lib.Math.min.name Lib.Math.min.code 2 (some .int), Cond.methodLink RJ7 150 arraycopyName, Cond.native arraycopyName, Cond.static arraycopyName]
def wsX6_ask_r9 : List Cond := [Cond.initialized "java/lang/System", Cond.methodLink RX6 137 yX4_learn, Cond.instanceMethod yX4_learn, Cond.selects RX4 yX4_learn yX4_learn, Cond.code yX4_learn cX4_learn 4 none, Cond.methodLink RX4 47 yX2_learn, Cond.instanceMethod yX2_learn, Cond.selects RX2 yX2_learn yX2_learn, Cond.code yX2_learn cX2_learn 4 none, Cond.fieldLink RX2 15 "Dataroom$Knowledge" "learned" "I"]
def wsX6_ask : List Cond := .code yX6_ask cX6_ask 7 (some .int) :: ((wsX6_ask_r1 ++ (wsX6_ask_r2 ++ (wsX6_ask_r3 ++ (wsX6_ask_r4 ++ (wsX6_ask_r5 ++ (wsX6_ask_r6 ++ (wsX6_ask_r7 ++ (wsX6_ask_r8 ++ wsX6_ask_r9)))))))) ++ wsX60 ++ wsX00 ++ wsX40 ++ wsJx4a65c0 ++ wsX50 ++ wsX10 ++ wsX20 ++ (vx_atS RX6 48 "java/lang/IllegalStateException" ["java/lang/RuntimeException", "java/lang/Exception"]).filter goodWord ++ (vx_atS RX6 147 "java/lang/IndexOutOfBoundsException" ["java/lang/RuntimeException", "java/lang/Exception"]).filter goodWord ++ (vx_atS RX6 193 "java/lang/IllegalArgumentException" ["java/lang/RuntimeException", "java/lang/Exception"]).filter goodWord)
def wsX6_cost_r1 : List Cond := [Cond.methodLink RX6 83 yX6_partyAt, Cond.instanceMethod yX6_partyAt, Cond.selects RX6 yX6_partyAt yX6_partyAt, Cond.initialized RX6, Cond.code yX6_partyAt cX6_partyAt 2 (some (.object "Dataroom$Party")), Cond.classLink RX6 143 "java/lang/IndexOutOfBoundsException", Cond.initialized "java/lang/IndexOutOfBoundsException", Cond.fieldLink RX6 16 "Dataroom" "allParties" "Ljava/util/ArrayList;", Cond.classLink RX6 72 "Dataroom$Party", Cond.methodLink RX6 40 yJx4a65c_size_8abf5, Cond.instanceMethod yJx4a65c_size_8abf5, Cond.selects RJx4a65c yJx4a65c_size_8abf5 yJx4a65c_size_8abf5, Cond.initialized RJx4a65c, Cond.code yJx4a65c_size_8abf5 cJx4a65c_size_8abf5 1 (some .int), Cond.fieldLink RJx4a65c 48 "java/util/ArrayList" "size" "I", Cond.methodLink RX6 68 yJx4a65c_get_915e3, Cond.instanceMethod yJx4a65c_get_915e3, Cond.selects RJx4a65c yJx4a65c_get_915e3 yJx4a65c_get_915e3, Cond.code yJx4a65c_get_915e3 cJx4a65c_get_915e3 2 (some (.object "java/lang/Object")), Cond.methodLink RJx4a65c 118 yJ15_checkIndex_7cf53, Cond.static yJ15_checkIndex_7cf53, Cond.initialized RJ15, Cond.code yJ15_checkIndex_7cf53 cJ15_checkIndex_7cf53 2 (some .int), Cond.methodLink RJ15 105 yJ3_checkIndex_8e157]
def wsX6_cost_r2 : List Cond := [Cond.static yJ3_checkIndex_8e157, Cond.initialized RJ3, Cond.code yJ3_checkIndex_8e157 cJ3_checkIndex_8e157 3 (some .int), Cond.methodLink RJx4a65c 123 yJx4a65c_elementData_915e3, Cond.instanceMethod yJx4a65c_elementData_915e3, Cond.selects RJx4a65c yJx4a65c_elementData_915e3 yJx4a65c_elementData_915e3, Cond.code yJx4a65c_elementData_915e3 cJx4a65c_elementData_915e3 2 (some (.object "java/lang/Object")), Cond.fieldLink RJx4a65c 9 "java/util/ArrayList" "elementData" "[Ljava/lang/Object;", Cond.methodLink RX6 113 yX6_requireQuestion, Cond.instanceMethod yX6_requireQuestion, Cond.selects RX6 yX6_requireQuestion yX6_requireQuestion, Cond.code yX6_requireQuestion cX6_requireQuestion 3 none, Cond.fieldLink RX6 10 "Dataroom" "allFiles" "Ljava/util/ArrayList;", Cond.methodLink RX6 36 yX6_requireRange, Cond.static yX6_requireRange, Cond.code yX6_requireRange cX6_requireRange 3 none, Cond.classLink RX6 189 "java/lang/IllegalArgumentException", Cond.initialized "java/lang/IllegalArgumentException", Cond.methodLink RX6 140 yX4_costOf, Cond.instanceMethod yX4_costOf, Cond.selects RX4 yX4_costOf yX4_costOf, Cond.initialized RX4, Cond.code yX4_costOf cX4_costOf 5 (some .int), Cond.fieldLink RX4 19 "Dataroom$Party" "known" "[LDataroom$Knowledge;"]
def wsX6_cost_r3 : List Cond := [Cond.static yX6_covers, Cond.code yX6_covers cX6_covers 2 (some .boolean), Cond.methodLink RX4 57 yX2_knows, Cond.instanceMethod yX2_knows, Cond.selects RX2 yX2_knows yX2_knows, Cond.initialized RX2, Cond.code yX2_knows cX2_knows 4 (some .boolean), Cond.fieldLink RX2 9 "Dataroom$Knowledge" "rows" "[I", Cond.static yX6_holds, Cond.code yX6_holds cX6_holds 2 (some .boolean)]
def wsX6_cost : List Cond := .code yX6_cost cX6_cost 5 (some .int) :: ((wsX6_cost_r1 ++ (wsX6_cost_r2 ++ wsX6_cost_r3)) ++ wsX60 ++ wsJx4a65c0 ++ wsX40 ++ wsX20 ++ (vx_atS RX6 147 "java/lang/IndexOutOfBoundsException" ["java/lang/RuntimeException", "java/lang/Exception"]).filter goodWord ++ (vx_atS RX6 193 "java/lang/IllegalArgumentException" ["java/lang/RuntimeException", "java/lang/Exception"]).filter goodWord)
def wsX6_answer_r1 : List Cond := [Cond.classLink RX6 143 "java/lang/IndexOutOfBoundsException", Cond.initialized "java/lang/IndexOutOfBoundsException", Cond.fieldLink RX6 19 "Dataroom" "allAnswers" "Ljava/util/ArrayList;", Cond.classLink RX6 129 "Dataroom$Answer", Cond.methodLink RX6 40 yJx4a65c_size_8abf5, Cond.instanceMethod yJx4a65c_size_8abf5, Cond.selects RJx4a65c yJx4a65c_size_8abf5 yJx4a65c_size_8abf5, Cond.initialized RJx4a65c, Cond.code yJx4a65c_size_8abf5 cJx4a65c_size_8abf5 1 (some .int), Cond.fieldLink RJx4a65c 48 "java/util/ArrayList" "size" "I", Cond.methodLink RX6 36 yX6_requireRange, Cond.static yX6_requireRange, Cond.initialized RX6, Cond.code yX6_requireRange cX6_requireRange 3 none, Cond.classLink RX6 189 "java/lang/IllegalArgumentException", Cond.initialized "java/lang/IllegalArgumentException", Cond.methodLink RX6 68 yJx4a65c_get_915e3, Cond.instanceMethod yJx4a65c_get_915e3, Cond.selects RJx4a65c yJx4a65c_get_915e3 yJx4a65c_get_915e3, Cond.code yJx4a65c_get_915e3 cJx4a65c_get_915e3 2 (some (.object "java/lang/Object")), Cond.methodLink RJx4a65c 118 yJ15_checkIndex_7cf53, Cond.static yJ15_checkIndex_7cf53, Cond.initialized RJ15, Cond.code yJ15_checkIndex_7cf53 cJ15_checkIndex_7cf53 2 (some .int)]
def wsX6_answer_r2 : List Cond := [Cond.methodLink RJ15 105 yJ3_checkIndex_8e157, Cond.static yJ3_checkIndex_8e157, Cond.initialized RJ3, Cond.code yJ3_checkIndex_8e157 cJ3_checkIndex_8e157 3 (some .int), Cond.methodLink RJx4a65c 123 yJx4a65c_elementData_915e3, Cond.instanceMethod yJx4a65c_elementData_915e3, Cond.selects RJx4a65c yJx4a65c_elementData_915e3 yJx4a65c_elementData_915e3, Cond.code yJx4a65c_elementData_915e3 cJx4a65c_elementData_915e3 2 (some (.object "java/lang/Object")), Cond.fieldLink RJx4a65c 9 "java/util/ArrayList" "elementData" "[Ljava/lang/Object;", Cond.methodLink RX6 148 yX0_tell, Cond.instanceMethod yX0_tell, Cond.selects RX0 yX0_tell yX0_tell, Cond.initialized RX0, Cond.code yX0_tell cX0_tell 2 (some .int), Cond.fieldLink RX0 7 "Dataroom$Answer" "party" "I", Cond.fieldLink RX0 13 "Dataroom$Answer" "files" "I", Cond.fieldLink RX0 16 "Dataroom$Answer" "bit" "I", Cond.fieldLink RX0 19 "Dataroom$Answer" "given" "I", Cond.fieldLink RX0 25 "Dataroom$Answer" "recalled" "Z", Cond.fieldLink RX0 22 "Dataroom$Answer" "hour" "I"]
def wsX6_answer : List Cond := .code yX6_answer cX6_answer 3 (some .int) :: ((wsX6_answer_r1 ++ wsX6_answer_r2) ++ wsX60 ++ wsJx4a65c0 ++ wsX00 ++ (vx_atS RX6 147 "java/lang/IndexOutOfBoundsException" ["java/lang/RuntimeException", "java/lang/Exception"]).filter goodWord ++ (vx_atS RX6 193 "java/lang/IllegalArgumentException" ["java/lang/RuntimeException", "java/lang/Exception"]).filter goodWord)
def wsX6_spent_r1 : List Cond := [Cond.methodLink RX6 83 yX6_partyAt, Cond.instanceMethod yX6_partyAt, Cond.selects RX6 yX6_partyAt yX6_partyAt, Cond.initialized RX6, Cond.code yX6_partyAt cX6_partyAt 2 (some (.object "Dataroom$Party")), Cond.classLink RX6 143 "java/lang/IndexOutOfBoundsException", Cond.initialized "java/lang/IndexOutOfBoundsException", Cond.fieldLink RX6 16 "Dataroom" "allParties" "Ljava/util/ArrayList;", Cond.classLink RX6 72 "Dataroom$Party", Cond.methodLink RX6 40 yJx4a65c_size_8abf5, Cond.instanceMethod yJx4a65c_size_8abf5, Cond.selects RJx4a65c yJx4a65c_size_8abf5 yJx4a65c_size_8abf5, Cond.initialized RJx4a65c, Cond.code yJx4a65c_size_8abf5 cJx4a65c_size_8abf5 1 (some .int), Cond.fieldLink RJx4a65c 48 "java/util/ArrayList" "size" "I", Cond.methodLink RX6 68 yJx4a65c_get_915e3, Cond.instanceMethod yJx4a65c_get_915e3, Cond.selects RJx4a65c yJx4a65c_get_915e3 yJx4a65c_get_915e3, Cond.code yJx4a65c_get_915e3 cJx4a65c_get_915e3 2 (some (.object "java/lang/Object")), Cond.methodLink RJx4a65c 118 yJ15_checkIndex_7cf53, Cond.static yJ15_checkIndex_7cf53, Cond.initialized RJ15, Cond.code yJ15_checkIndex_7cf53 cJ15_checkIndex_7cf53 2 (some .int), Cond.methodLink RJ15 105 yJ3_checkIndex_8e157]
def wsX6_spent_r2 : List Cond := [Cond.static yJ3_checkIndex_8e157, Cond.initialized RJ3, Cond.code yJ3_checkIndex_8e157 cJ3_checkIndex_8e157 3 (some .int), Cond.methodLink RJx4a65c 123 yJx4a65c_elementData_915e3, Cond.instanceMethod yJx4a65c_elementData_915e3, Cond.selects RJx4a65c yJx4a65c_elementData_915e3 yJx4a65c_elementData_915e3, Cond.code yJx4a65c_elementData_915e3 cJx4a65c_elementData_915e3 2 (some (.object "java/lang/Object")), Cond.fieldLink RJx4a65c 9 "java/util/ArrayList" "elementData" "[Ljava/lang/Object;", Cond.methodLink RX6 152 yX4_learnedInAll, Cond.instanceMethod yX4_learnedInAll, Cond.selects RX4 yX4_learnedInAll yX4_learnedInAll, Cond.initialized RX4, Cond.code yX4_learnedInAll cX4_learnedInAll 3 (some .int), Cond.fieldLink RX4 19 "Dataroom$Party" "known" "[LDataroom$Knowledge;"]
def wsX6_spent : List Cond := .code yX6_spent cX6_spent 2 (some .int) :: ((wsX6_spent_r1 ++ wsX6_spent_r2) ++ wsX60 ++ wsJx4a65c0 ++ wsX40 ++ wsX20 ++ (vx_atS RX6 147 "java/lang/IndexOutOfBoundsException" ["java/lang/RuntimeException", "java/lang/Exception"]).filter goodWord)
def wsX6_countKnownSets_r1 : List Cond := [Cond.fieldLink RX6 32 "Dataroom" "marks" "LDataroom$Marks;", Cond.fieldLink RX6 10 "Dataroom" "allFiles" "Ljava/util/ArrayList;", Cond.fieldLink RX6 19 "Dataroom" "allAnswers" "Ljava/util/ArrayList;", Cond.classLink RX6 129 "Dataroom$Answer", Cond.methodLink RX6 40 yJx4a65c_size_8abf5, Cond.instanceMethod yJx4a65c_size_8abf5, Cond.selects RJx4a65c yJx4a65c_size_8abf5 yJx4a65c_size_8abf5, Cond.initialized RJx4a65c, Cond.code yJx4a65c_size_8abf5 cJx4a65c_size_8abf5 1 (some .int), Cond.fieldLink RJx4a65c 48 "java/util/ArrayList" "size" "I", Cond.methodLink RX6 230 yX3_begin, Cond.instanceMethod yX3_begin, Cond.selects RX3 yX3_begin yX3_begin, Cond.initialized RX3, Cond.code yX3_begin cX3_begin 3 none, Cond.fieldLink RX3 11 "Dataroom$Marks" "words" "[J", Cond.methodLink RX3 15 Lib.Math.max.name, Cond.static Lib.Math.max.name, Cond.initialized "java/lang/Math", Cond.code Lib.Math.max.name Lib.Math.max.code 2 (some .int), Cond.methodLink RX3 21 Lib.Math.min.name, Cond.static Lib.Math.min.name, Cond.code Lib.Math.min.name Lib.Math.min.code 2 (some .int), Cond.fieldLink RX3 24 "Dataroom$Marks" "used" "I"]
def wsX6_countKnownSets_r2 : List Cond := [Cond.methodLink RX6 68 yJx4a65c_get_915e3, Cond.instanceMethod yJx4a65c_get_915e3, Cond.selects RJx4a65c yJx4a65c_get_915e3 yJx4a65c_get_915e3, Cond.code yJx4a65c_get_915e3 cJx4a65c_get_915e3 2 (some (.object "java/lang/Object")), Cond.methodLink RJx4a65c 118 yJ15_checkIndex_7cf53, Cond.static yJ15_checkIndex_7cf53, Cond.initialized RJ15, Cond.code yJ15_checkIndex_7cf53 cJ15_checkIndex_7cf53 2 (some .int), Cond.methodLink RJ15 105 yJ3_checkIndex_8e157, Cond.static yJ3_checkIndex_8e157, Cond.initialized RJ3, Cond.code yJ3_checkIndex_8e157 cJ3_checkIndex_8e157 3 (some .int), Cond.methodLink RJx4a65c 123 yJx4a65c_elementData_915e3, Cond.instanceMethod yJx4a65c_elementData_915e3, Cond.selects RJx4a65c yJx4a65c_elementData_915e3 yJx4a65c_elementData_915e3, Cond.code yJx4a65c_elementData_915e3 cJx4a65c_elementData_915e3 2 (some (.object "java/lang/Object")), Cond.fieldLink RJx4a65c 9 "java/util/ArrayList" "elementData" "[Ljava/lang/Object;", Cond.methodLink RX6 209 yX0_standsFor, Cond.instanceMethod yX0_standsFor, Cond.selects RX0 yX0_standsFor yX0_standsFor, Cond.initialized RX0, Cond.code yX0_standsFor cX0_standsFor 2 (some .boolean), Cond.fieldLink RX0 25 "Dataroom$Answer" "recalled" "Z", Cond.fieldLink RX0 7 "Dataroom$Answer" "party" "I"]
def wsX6_countKnownSets_r3 : List Cond := [Cond.methodLink RX6 233 yX6_covers, Cond.static yX6_covers, Cond.initialized RX6, Cond.code yX6_covers cX6_covers 2 (some .boolean), Cond.methodLink RX6 236 yX3_add, Cond.instanceMethod yX3_add, Cond.selects RX3 yX3_add yX3_add, Cond.code yX3_add cX3_add 4 none, Cond.methodLink RX3 28 yX3_isMarked, Cond.instanceMethod yX3_isMarked, Cond.selects RX3 yX3_isMarked yX3_isMarked, Cond.code yX3_isMarked cX3_isMarked 3 (some .boolean), Cond.methodLink RX3 32 yX3_crossed, Cond.static yX3_crossed, Cond.code yX3_crossed cX3_crossed 7 (some .long), Cond.fieldLink RX3 42 "Dataroom$Marks" "LACKING" "[J", Cond.static yX6_holds, Cond.code yX6_holds cX6_holds 2 (some .boolean), Cond.methodLink RX6 238 yX3_sets, Cond.instanceMethod yX3_sets, Cond.selects RX3 yX3_sets yX3_sets, Cond.code yX3_sets cX3_sets 3 (some .int), Cond.methodLink RX3 36 yJ13_bitCount_95d88, Cond.static yJ13_bitCount_95d88]
def wsX6_countKnownSets_r4 : List Cond := [Cond.initialized RJ13, Cond.code yJ13_bitCount_95d88 cJ13_bitCount_95d88 2 (some .int), Cond.constantLong RJ13 314 (6148914691236517205), Cond.constantLong RJ13 316 (3689348814741910323), Cond.constantLong RJ13 318 (1085102592571150095)]
def wsX6_countKnownSets : List Cond := .code yX6_countKnownSets cX6_countKnownSets 5 (some .int) :: ((wsX6_countKnownSets_r1 ++ (wsX6_countKnownSets_r2 ++ (wsX6_countKnownSets_r3 ++ wsX6_countKnownSets_r4))) ++ wsX60 ++ wsX00 ++ wsJx4a65c0 ++ wsX30 ++ wsX40)
def wsX6_generatorsOf : List Cond := .code yX6_generatorsOf cX6_generatorsOf 3 (some .int) :: ([])
def wsX6_spentAnew_r1 : List Cond := [Cond.methodLink RX6 83 yX6_partyAt, Cond.instanceMethod yX6_partyAt, Cond.selects RX6 yX6_partyAt yX6_partyAt, Cond.initialized RX6, Cond.code yX6_partyAt cX6_partyAt 2 (some (.object "Dataroom$Party")), Cond.classLink RX6 143 "java/lang/IndexOutOfBoundsException", Cond.initialized "java/lang/IndexOutOfBoundsException", Cond.fieldLink RX6 16 "Dataroom" "allParties" "Ljava/util/ArrayList;", Cond.classLink RX6 72 "Dataroom$Party", Cond.methodLink RX6 40 yJx4a65c_size_8abf5, Cond.instanceMethod yJx4a65c_size_8abf5, Cond.selects RJx4a65c yJx4a65c_size_8abf5 yJx4a65c_size_8abf5, Cond.initialized RJx4a65c, Cond.code yJx4a65c_size_8abf5 cJx4a65c_size_8abf5 1 (some .int), Cond.fieldLink RJx4a65c 48 "java/util/ArrayList" "size" "I", Cond.methodLink RX6 68 yJx4a65c_get_915e3, Cond.instanceMethod yJx4a65c_get_915e3, Cond.selects RJx4a65c yJx4a65c_get_915e3 yJx4a65c_get_915e3, Cond.code yJx4a65c_get_915e3 cJx4a65c_get_915e3 2 (some (.object "java/lang/Object")), Cond.methodLink RJx4a65c 118 yJ15_checkIndex_7cf53, Cond.static yJ15_checkIndex_7cf53, Cond.initialized RJ15, Cond.code yJ15_checkIndex_7cf53 cJ15_checkIndex_7cf53 2 (some .int), Cond.methodLink RJ15 105 yJ3_checkIndex_8e157]
def wsX6_spentAnew_r2 : List Cond := [Cond.static yJ3_checkIndex_8e157, Cond.initialized RJ3, Cond.code yJ3_checkIndex_8e157 cJ3_checkIndex_8e157 3 (some .int), Cond.methodLink RJx4a65c 123 yJx4a65c_elementData_915e3, Cond.instanceMethod yJx4a65c_elementData_915e3, Cond.selects RJx4a65c yJx4a65c_elementData_915e3 yJx4a65c_elementData_915e3, Cond.code yJx4a65c_elementData_915e3 cJx4a65c_elementData_915e3 2 (some (.object "java/lang/Object")), Cond.fieldLink RJx4a65c 9 "java/util/ArrayList" "elementData" "[Ljava/lang/Object;", Cond.methodLink RX6 155 yX6_countKnownSets, Cond.instanceMethod yX6_countKnownSets, Cond.selects RX6 yX6_countKnownSets yX6_countKnownSets, Cond.code yX6_countKnownSets cX6_countKnownSets 5 (some .int), Cond.fieldLink RX6 32 "Dataroom" "marks" "LDataroom$Marks;", Cond.fieldLink RX6 10 "Dataroom" "allFiles" "Ljava/util/ArrayList;", Cond.fieldLink RX6 19 "Dataroom" "allAnswers" "Ljava/util/ArrayList;", Cond.classLink RX6 129 "Dataroom$Answer", Cond.methodLink RX6 230 yX3_begin, Cond.instanceMethod yX3_begin, Cond.selects RX3 yX3_begin yX3_begin, Cond.initialized RX3, Cond.code yX3_begin cX3_begin 3 none, Cond.fieldLink RX3 11 "Dataroom$Marks" "words" "[J", Cond.methodLink RX3 15 Lib.Math.max.name, Cond.static Lib.Math.max.name]
def wsX6_spentAnew_r3 : List Cond := [Cond.initialized "java/lang/Math", Cond.code Lib.Math.max.name Lib.Math.max.code 2 (some .int), Cond.methodLink RX3 21 Lib.Math.min.name, Cond.static Lib.Math.min.name, Cond.code Lib.Math.min.name Lib.Math.min.code 2 (some .int), Cond.fieldLink RX3 24 "Dataroom$Marks" "used" "I", Cond.methodLink RX6 209 yX0_standsFor, Cond.instanceMethod yX0_standsFor, Cond.selects RX0 yX0_standsFor yX0_standsFor, Cond.initialized RX0, Cond.code yX0_standsFor cX0_standsFor 2 (some .boolean), Cond.fieldLink RX0 25 "Dataroom$Answer" "recalled" "Z", Cond.fieldLink RX0 7 "Dataroom$Answer" "party" "I", Cond.methodLink RX6 233 yX6_covers, Cond.static yX6_covers, Cond.code yX6_covers cX6_covers 2 (some .boolean), Cond.methodLink RX6 236 yX3_add, Cond.instanceMethod yX3_add, Cond.selects RX3 yX3_add yX3_add, Cond.code yX3_add cX3_add 4 none, Cond.methodLink RX3 28 yX3_isMarked, Cond.instanceMethod yX3_isMarked, Cond.selects RX3 yX3_isMarked yX3_isMarked, Cond.code yX3_isMarked cX3_isMarked 3 (some .boolean)]
def wsX6_spentAnew_r4 : List Cond := [Cond.methodLink RX3 32 yX3_crossed, Cond.static yX3_crossed, Cond.code yX3_crossed cX3_crossed 7 (some .long), Cond.fieldLink RX3 42 "Dataroom$Marks" "LACKING" "[J", Cond.static yX6_holds, Cond.code yX6_holds cX6_holds 2 (some .boolean), Cond.methodLink RX6 238 yX3_sets, Cond.instanceMethod yX3_sets, Cond.selects RX3 yX3_sets yX3_sets, Cond.code yX3_sets cX3_sets 3 (some .int), Cond.methodLink RX3 36 yJ13_bitCount_95d88, Cond.static yJ13_bitCount_95d88, Cond.initialized RJ13, Cond.code yJ13_bitCount_95d88 cJ13_bitCount_95d88 2 (some .int), Cond.constantLong RJ13 314 (6148914691236517205), Cond.constantLong RJ13 316 (3689348814741910323), Cond.constantLong RJ13 318 (1085102592571150095), Cond.methodLink RX6 158 yX6_generatorsOf, Cond.static yX6_generatorsOf, Cond.code yX6_generatorsOf cX6_generatorsOf 3 (some .int)]
def wsX6_spentAnew : List Cond := .code yX6_spentAnew cX6_spentAnew 5 (some .int) :: ((wsX6_spentAnew_r1 ++ (wsX6_spentAnew_r2 ++ (wsX6_spentAnew_r3 ++ wsX6_spentAnew_r4))) ++ wsX60 ++ wsJx4a65c0 ++ wsX00 ++ wsX30 ++ wsX40 ++ (vx_atS RX6 147 "java/lang/IndexOutOfBoundsException" ["java/lang/RuntimeException", "java/lang/Exception"]).filter goodWord)
def wsX6_finds_r1 : List Cond := [Cond.methodLink RX6 83 yX6_partyAt, Cond.instanceMethod yX6_partyAt, Cond.selects RX6 yX6_partyAt yX6_partyAt, Cond.initialized RX6, Cond.code yX6_partyAt cX6_partyAt 2 (some (.object "Dataroom$Party")), Cond.classLink RX6 143 "java/lang/IndexOutOfBoundsException", Cond.initialized "java/lang/IndexOutOfBoundsException", Cond.fieldLink RX6 16 "Dataroom" "allParties" "Ljava/util/ArrayList;", Cond.classLink RX6 72 "Dataroom$Party", Cond.methodLink RX6 40 yJx4a65c_size_8abf5, Cond.instanceMethod yJx4a65c_size_8abf5, Cond.selects RJx4a65c yJx4a65c_size_8abf5 yJx4a65c_size_8abf5, Cond.initialized RJx4a65c, Cond.code yJx4a65c_size_8abf5 cJx4a65c_size_8abf5 1 (some .int), Cond.fieldLink RJx4a65c 48 "java/util/ArrayList" "size" "I", Cond.methodLink RX6 68 yJx4a65c_get_915e3, Cond.instanceMethod yJx4a65c_get_915e3, Cond.selects RJx4a65c yJx4a65c_get_915e3 yJx4a65c_get_915e3, Cond.code yJx4a65c_get_915e3 cJx4a65c_get_915e3 2 (some (.object "java/lang/Object")), Cond.methodLink RJx4a65c 118 yJ15_checkIndex_7cf53, Cond.static yJ15_checkIndex_7cf53, Cond.initialized RJ15, Cond.code yJ15_checkIndex_7cf53 cJ15_checkIndex_7cf53 2 (some .int), Cond.methodLink RJ15 105 yJ3_checkIndex_8e157]
def wsX6_finds_r2 : List Cond := [Cond.static yJ3_checkIndex_8e157, Cond.initialized RJ3, Cond.code yJ3_checkIndex_8e157 cJ3_checkIndex_8e157 3 (some .int), Cond.methodLink RJx4a65c 123 yJx4a65c_elementData_915e3, Cond.instanceMethod yJx4a65c_elementData_915e3, Cond.selects RJx4a65c yJx4a65c_elementData_915e3 yJx4a65c_elementData_915e3, Cond.code yJx4a65c_elementData_915e3 cJx4a65c_elementData_915e3 2 (some (.object "java/lang/Object")), Cond.fieldLink RJx4a65c 9 "java/util/ArrayList" "elementData" "[Ljava/lang/Object;", Cond.methodLink RX6 90 yX6_requireFile, Cond.instanceMethod yX6_requireFile, Cond.selects RX6 yX6_requireFile yX6_requireFile, Cond.code yX6_requireFile cX6_requireFile 2 none, Cond.fieldLink RX6 10 "Dataroom" "allFiles" "Ljava/util/ArrayList;", Cond.methodLink RX6 165 yX2_knows, Cond.instanceMethod yX2_knows, Cond.selects RX2 yX2_knows yX2_knows, Cond.initialized RX2, Cond.code yX2_knows cX2_knows 4 (some .boolean), Cond.fieldLink RX2 9 "Dataroom$Knowledge" "rows" "[I", Cond.static yX6_holds, Cond.code yX6_holds cX6_holds 2 (some .boolean)]
def wsX6_finds : List Cond := .code yX6_finds cX6_finds 6 (some .int) :: ((wsX6_finds_r1 ++ wsX6_finds_r2) ++ wsX40 ++ wsX60 ++ wsJx4a65c0 ++ wsX20 ++ (vx_atS RX6 147 "java/lang/IndexOutOfBoundsException" ["java/lang/RuntimeException", "java/lang/Exception"]).filter goodWord)
def wsX6_shareKnowledge_r1 : List Cond := [Cond.fieldLink RX6 25 "Dataroom" "shared" "LDataroom$Knowledge;", Cond.fieldLink RX6 16 "Dataroom" "allParties" "Ljava/util/ArrayList;", Cond.classLink RX6 72 "Dataroom$Party", Cond.methodLink RX6 241 yX2_forget, Cond.instanceMethod yX2_forget, Cond.selects RX2 yX2_forget yX2_forget, Cond.initialized RX2, Cond.code yX2_forget cX2_forget 2 none, Cond.fieldLink RX2 9 "Dataroom$Knowledge" "rows" "[I", Cond.fieldLink RX2 15 "Dataroom$Knowledge" "learned" "I", Cond.methodLink RX6 40 yJx4a65c_size_8abf5, Cond.instanceMethod yJx4a65c_size_8abf5, Cond.selects RJx4a65c yJx4a65c_size_8abf5 yJx4a65c_size_8abf5, Cond.initialized RJx4a65c, Cond.code yJx4a65c_size_8abf5 cJx4a65c_size_8abf5 1 (some .int), Cond.fieldLink RJx4a65c 48 "java/util/ArrayList" "size" "I", Cond.methodLink RX6 68 yJx4a65c_get_915e3, Cond.instanceMethod yJx4a65c_get_915e3, Cond.selects RJx4a65c yJx4a65c_get_915e3 yJx4a65c_get_915e3, Cond.code yJx4a65c_get_915e3 cJx4a65c_get_915e3 2 (some (.object "java/lang/Object")), Cond.methodLink RJx4a65c 118 yJ15_checkIndex_7cf53, Cond.static yJ15_checkIndex_7cf53, Cond.initialized RJ15, Cond.code yJ15_checkIndex_7cf53 cJ15_checkIndex_7cf53 2 (some .int)]
def wsX6_shareKnowledge_r2 : List Cond := [Cond.methodLink RJ15 105 yJ3_checkIndex_8e157, Cond.static yJ3_checkIndex_8e157, Cond.initialized RJ3, Cond.code yJ3_checkIndex_8e157 cJ3_checkIndex_8e157 3 (some .int), Cond.methodLink RJx4a65c 123 yJx4a65c_elementData_915e3, Cond.instanceMethod yJx4a65c_elementData_915e3, Cond.selects RJx4a65c yJx4a65c_elementData_915e3 yJx4a65c_elementData_915e3, Cond.code yJx4a65c_elementData_915e3 cJx4a65c_elementData_915e3 2 (some (.object "java/lang/Object")), Cond.fieldLink RJx4a65c 9 "java/util/ArrayList" "elementData" "[Ljava/lang/Object;", Cond.methodLink RX6 205 yX6_holds, Cond.static yX6_holds, Cond.initialized RX6, Cond.code yX6_holds cX6_holds 2 (some .boolean), Cond.methodLink RX6 242 yX2_learnFrom, Cond.instanceMethod yX2_learnFrom, Cond.selects RX2 yX2_learnFrom yX2_learnFrom, Cond.code yX2_learnFrom cX2_learnFrom 3 none, Cond.methodLink RX2 23 yX2_learn, Cond.instanceMethod yX2_learn, Cond.selects RX2 yX2_learn yX2_learn, Cond.code yX2_learn cX2_learn 4 none]
def wsX6_shareKnowledge : List Cond := .code yX6_shareKnowledge cX6_shareKnowledge 5 none :: ((wsX6_shareKnowledge_r1 ++ wsX6_shareKnowledge_r2) ++ wsX60 ++ wsX40 ++ wsX20 ++ wsJx4a65c0)
def wsX6_together_r1 : List Cond := [Cond.fieldLink RX6 16 "Dataroom" "allParties" "Ljava/util/ArrayList;", Cond.fieldLink RX6 25 "Dataroom" "shared" "LDataroom$Knowledge;", Cond.methodLink RX6 90 yX6_requireFile, Cond.instanceMethod yX6_requireFile, Cond.selects RX6 yX6_requireFile yX6_requireFile, Cond.initialized RX6, Cond.code yX6_requireFile cX6_requireFile 2 none, Cond.classLink RX6 143 "java/lang/IndexOutOfBoundsException", Cond.initialized "java/lang/IndexOutOfBoundsException", Cond.fieldLink RX6 10 "Dataroom" "allFiles" "Ljava/util/ArrayList;", Cond.methodLink RX6 40 yJx4a65c_size_8abf5, Cond.instanceMethod yJx4a65c_size_8abf5, Cond.selects RJx4a65c yJx4a65c_size_8abf5 yJx4a65c_size_8abf5, Cond.initialized RJx4a65c, Cond.code yJx4a65c_size_8abf5 cJx4a65c_size_8abf5 1 (some .int), Cond.fieldLink RJx4a65c 48 "java/util/ArrayList" "size" "I", Cond.methodLink RX6 36 yX6_requireRange, Cond.static yX6_requireRange, Cond.code yX6_requireRange cX6_requireRange 3 none, Cond.classLink RX6 189 "java/lang/IllegalArgumentException", Cond.initialized "java/lang/IllegalArgumentException", Cond.methodLink RX6 169 yX6_shareKnowledge, Cond.instanceMethod yX6_shareKnowledge, Cond.selects RX6 yX6_shareKnowledge yX6_shareKnowledge]
def wsX6_together_r2 : List Cond := [Cond.code yX6_shareKnowledge cX6_shareKnowledge 5 none, Cond.classLink RX6 72 "Dataroom$Party", Cond.methodLink RX6 241 yX2_forget, Cond.instanceMethod yX2_forget, Cond.selects RX2 yX2_forget yX2_forget, Cond.initialized RX2, Cond.code yX2_forget cX2_forget 2 none, Cond.fieldLink RX2 9 "Dataroom$Knowledge" "rows" "[I", Cond.fieldLink RX2 15 "Dataroom$Knowledge" "learned" "I", Cond.methodLink RX6 68 yJx4a65c_get_915e3, Cond.instanceMethod yJx4a65c_get_915e3, Cond.selects RJx4a65c yJx4a65c_get_915e3 yJx4a65c_get_915e3, Cond.code yJx4a65c_get_915e3 cJx4a65c_get_915e3 2 (some (.object "java/lang/Object")), Cond.methodLink RJx4a65c 118 yJ15_checkIndex_7cf53, Cond.static yJ15_checkIndex_7cf53, Cond.initialized RJ15, Cond.code yJ15_checkIndex_7cf53 cJ15_checkIndex_7cf53 2 (some .int), Cond.methodLink RJ15 105 yJ3_checkIndex_8e157, Cond.static yJ3_checkIndex_8e157, Cond.initialized RJ3, Cond.code yJ3_checkIndex_8e157 cJ3_checkIndex_8e157 3 (some .int), Cond.methodLink RJx4a65c 123 yJx4a65c_elementData_915e3, Cond.instanceMethod yJx4a65c_elementData_915e3, Cond.selects RJx4a65c yJx4a65c_elementData_915e3 yJx4a65c_elementData_915e3]
def wsX6_together_r3 : List Cond := [Cond.code yJx4a65c_elementData_915e3 cJx4a65c_elementData_915e3 2 (some (.object "java/lang/Object")), Cond.fieldLink RJx4a65c 9 "java/util/ArrayList" "elementData" "[Ljava/lang/Object;", Cond.methodLink RX6 205 yX6_holds, Cond.static yX6_holds, Cond.code yX6_holds cX6_holds 2 (some .boolean), Cond.methodLink RX6 242 yX2_learnFrom, Cond.instanceMethod yX2_learnFrom, Cond.selects RX2 yX2_learnFrom yX2_learnFrom, Cond.code yX2_learnFrom cX2_learnFrom 3 none, Cond.methodLink RX2 23 yX2_learn, Cond.instanceMethod yX2_learn, Cond.selects RX2 yX2_learn yX2_learn, Cond.code yX2_learn cX2_learn 4 none, Cond.methodLink RX6 165 yX2_knows, Cond.instanceMethod yX2_knows, Cond.selects RX2 yX2_knows yX2_knows, Cond.code yX2_knows cX2_knows 4 (some .boolean)]
def wsX6_together : List Cond := .code yX6_together cX6_together 5 (some .int) :: ((wsX6_together_r1 ++ (wsX6_together_r2 ++ wsX6_together_r3)) ++ wsX60 ++ wsJx4a65c0 ++ wsX40 ++ wsX20 ++ (vx_atS RX6 147 "java/lang/IndexOutOfBoundsException" ["java/lang/RuntimeException", "java/lang/Exception"]).filter goodWord ++ (vx_atS RX6 193 "java/lang/IllegalArgumentException" ["java/lang/RuntimeException", "java/lang/Exception"]).filter goodWord)
def wsX6_rightTo_r1 : List Cond := [Cond.fieldLink RX6 108 "Dataroom" "now" "I", Cond.methodLink RX6 83 yX6_partyAt, Cond.instanceMethod yX6_partyAt, Cond.selects RX6 yX6_partyAt yX6_partyAt, Cond.initialized RX6, Cond.code yX6_partyAt cX6_partyAt 2 (some (.object "Dataroom$Party")), Cond.classLink RX6 143 "java/lang/IndexOutOfBoundsException", Cond.initialized "java/lang/IndexOutOfBoundsException", Cond.fieldLink RX6 16 "Dataroom" "allParties" "Ljava/util/ArrayList;", Cond.classLink RX6 72 "Dataroom$Party", Cond.methodLink RX6 40 yJx4a65c_size_8abf5, Cond.instanceMethod yJx4a65c_size_8abf5, Cond.selects RJx4a65c yJx4a65c_size_8abf5 yJx4a65c_size_8abf5, Cond.initialized RJx4a65c, Cond.code yJx4a65c_size_8abf5 cJx4a65c_size_8abf5 1 (some .int), Cond.fieldLink RJx4a65c 48 "java/util/ArrayList" "size" "I", Cond.methodLink RX6 68 yJx4a65c_get_915e3, Cond.instanceMethod yJx4a65c_get_915e3, Cond.selects RJx4a65c yJx4a65c_get_915e3 yJx4a65c_get_915e3, Cond.code yJx4a65c_get_915e3 cJx4a65c_get_915e3 2 (some (.object "java/lang/Object")), Cond.methodLink RJx4a65c 118 yJ15_checkIndex_7cf53, Cond.static yJ15_checkIndex_7cf53, Cond.initialized RJ15, Cond.code yJ15_checkIndex_7cf53 cJ15_checkIndex_7cf53 2 (some .int)]
def wsX6_rightTo_r2 : List Cond := [Cond.methodLink RJ15 105 yJ3_checkIndex_8e157, Cond.static yJ3_checkIndex_8e157, Cond.initialized RJ3, Cond.code yJ3_checkIndex_8e157 cJ3_checkIndex_8e157 3 (some .int), Cond.methodLink RJx4a65c 123 yJx4a65c_elementData_915e3, Cond.instanceMethod yJx4a65c_elementData_915e3, Cond.selects RJx4a65c yJx4a65c_elementData_915e3 yJx4a65c_elementData_915e3, Cond.code yJx4a65c_elementData_915e3 cJx4a65c_elementData_915e3 2 (some (.object "java/lang/Object")), Cond.fieldLink RJx4a65c 9 "java/util/ArrayList" "elementData" "[Ljava/lang/Object;", Cond.methodLink RX6 90 yX6_requireFile, Cond.instanceMethod yX6_requireFile, Cond.selects RX6 yX6_requireFile yX6_requireFile, Cond.code yX6_requireFile cX6_requireFile 2 none, Cond.fieldLink RX6 10 "Dataroom" "allFiles" "Ljava/util/ArrayList;", Cond.methodLink RX6 172 yX4_rightIn, Cond.instanceMethod yX4_rightIn, Cond.selects RX4 yX4_rightIn yX4_rightIn, Cond.initialized RX4, Cond.code yX4_rightIn cX4_rightIn 4 (some .int), Cond.methodLink RX4 35 yX4_rightFor, Cond.instanceMethod yX4_rightFor, Cond.selects RX4 yX4_rightFor yX4_rightFor, Cond.code yX4_rightFor cX4_rightFor 2 (some (.object "Dataroom$Right")), Cond.fieldLink RX4 11 "Dataroom$Party" "rights" "[LDataroom$Right;"]
def wsX6_rightTo_r3 : List Cond := [Cond.methodLink RX4 39 yX5_in, Cond.instanceMethod yX5_in, Cond.selects RX5 yX5_in yX5_in, Cond.initialized RX5, Cond.code yX5_in cX5_in 2 (some .int), Cond.fieldLink RX5 15 "Dataroom$Right" "from" "I", Cond.fieldLink RX5 18 "Dataroom$Right" "to" "I", Cond.fieldLink RX5 9 "Dataroom$Right" "kind" "I"]
def wsX6_rightTo : List Cond := .code yX6_rightTo cX6_rightTo 4 (some .int) :: ((wsX6_rightTo_r1 ++ (wsX6_rightTo_r2 ++ wsX6_rightTo_r3)) ++ wsX60 ++ wsJx4a65c0 ++ wsX40 ++ wsX50 ++ (vx_atS RX6 147 "java/lang/IndexOutOfBoundsException" ["java/lang/RuntimeException", "java/lang/Exception"]).filter goodWord)
def wsX6_isSealed_r1 : List Cond := [Cond.fieldLink RX6 108 "Dataroom" "now" "I", Cond.methodLink RX6 60 yX6_fileAt, Cond.instanceMethod yX6_fileAt, Cond.selects RX6 yX6_fileAt yX6_fileAt, Cond.initialized RX6, Cond.code yX6_fileAt cX6_fileAt 2 (some (.object "Dataroom$Card")), Cond.fieldLink RX6 10 "Dataroom" "allFiles" "Ljava/util/ArrayList;", Cond.classLink RX6 51 "Dataroom$Card", Cond.methodLink RX6 90 yX6_requireFile, Cond.instanceMethod yX6_requireFile, Cond.selects RX6 yX6_requireFile yX6_requireFile, Cond.code yX6_requireFile cX6_requireFile 2 none, Cond.classLink RX6 143 "java/lang/IndexOutOfBoundsException", Cond.initialized "java/lang/IndexOutOfBoundsException", Cond.methodLink RX6 40 yJx4a65c_size_8abf5, Cond.instanceMethod yJx4a65c_size_8abf5, Cond.selects RJx4a65c yJx4a65c_size_8abf5 yJx4a65c_size_8abf5, Cond.initialized RJx4a65c, Cond.code yJx4a65c_size_8abf5 cJx4a65c_size_8abf5 1 (some .int), Cond.fieldLink RJx4a65c 48 "java/util/ArrayList" "size" "I", Cond.methodLink RX6 68 yJx4a65c_get_915e3, Cond.instanceMethod yJx4a65c_get_915e3, Cond.selects RJx4a65c yJx4a65c_get_915e3 yJx4a65c_get_915e3, Cond.code yJx4a65c_get_915e3 cJx4a65c_get_915e3 2 (some (.object "java/lang/Object"))]
def wsX6_isSealed_r2 : List Cond := [Cond.methodLink RJx4a65c 118 yJ15_checkIndex_7cf53, Cond.static yJ15_checkIndex_7cf53, Cond.initialized RJ15, Cond.code yJ15_checkIndex_7cf53 cJ15_checkIndex_7cf53 2 (some .int), Cond.methodLink RJ15 105 yJ3_checkIndex_8e157, Cond.static yJ3_checkIndex_8e157, Cond.initialized RJ3, Cond.code yJ3_checkIndex_8e157 cJ3_checkIndex_8e157 3 (some .int), Cond.methodLink RJx4a65c 123 yJx4a65c_elementData_915e3, Cond.instanceMethod yJx4a65c_elementData_915e3, Cond.selects RJx4a65c yJx4a65c_elementData_915e3 yJx4a65c_elementData_915e3, Cond.code yJx4a65c_elementData_915e3 cJx4a65c_elementData_915e3 2 (some (.object "java/lang/Object")), Cond.fieldLink RJx4a65c 9 "java/util/ArrayList" "elementData" "[Ljava/lang/Object;", Cond.methodLink RX6 175 yX1_isClosedIn, Cond.instanceMethod yX1_isClosedIn, Cond.selects RX1 yX1_isClosedIn yX1_isClosedIn, Cond.initialized RX1, Cond.code yX1_isClosedIn cX1_isClosedIn 2 (some .boolean), Cond.fieldLink RX1 9 "Dataroom$Card" "sealedTill" "I"]
def wsX6_isSealed : List Cond := .code yX6_isSealed cX6_isSealed 2 (some .boolean) :: ((wsX6_isSealed_r1 ++ wsX6_isSealed_r2) ++ wsX60 ++ wsJx4a65c0 ++ wsX10 ++ (vx_atS RX6 147 "java/lang/IndexOutOfBoundsException" ["java/lang/RuntimeException", "java/lang/Exception"]).filter goodWord)
def wsX6_countStanding_r1 : List Cond := [Cond.fieldLink RX6 19 "Dataroom" "allAnswers" "Ljava/util/ArrayList;", Cond.classLink RX6 129 "Dataroom$Answer", Cond.methodLink RX6 40 yJx4a65c_size_8abf5, Cond.instanceMethod yJx4a65c_size_8abf5, Cond.selects RJx4a65c yJx4a65c_size_8abf5 yJx4a65c_size_8abf5, Cond.initialized RJx4a65c, Cond.code yJx4a65c_size_8abf5 cJx4a65c_size_8abf5 1 (some .int), Cond.fieldLink RJx4a65c 48 "java/util/ArrayList" "size" "I", Cond.methodLink RX6 68 yJx4a65c_get_915e3, Cond.instanceMethod yJx4a65c_get_915e3, Cond.selects RJx4a65c yJx4a65c_get_915e3 yJx4a65c_get_915e3, Cond.code yJx4a65c_get_915e3 cJx4a65c_get_915e3 2 (some (.object "java/lang/Object")), Cond.methodLink RJx4a65c 118 yJ15_checkIndex_7cf53, Cond.static yJ15_checkIndex_7cf53, Cond.initialized RJ15, Cond.code yJ15_checkIndex_7cf53 cJ15_checkIndex_7cf53 2 (some .int), Cond.methodLink RJ15 105 yJ3_checkIndex_8e157, Cond.static yJ3_checkIndex_8e157, Cond.initialized RJ3, Cond.code yJ3_checkIndex_8e157 cJ3_checkIndex_8e157 3 (some .int), Cond.methodLink RJx4a65c 123 yJx4a65c_elementData_915e3, Cond.instanceMethod yJx4a65c_elementData_915e3, Cond.selects RJx4a65c yJx4a65c_elementData_915e3 yJx4a65c_elementData_915e3, Cond.code yJx4a65c_elementData_915e3 cJx4a65c_elementData_915e3 2 (some (.object "java/lang/Object"))]
def wsX6_countStanding_r2 : List Cond := [Cond.fieldLink RJx4a65c 9 "java/util/ArrayList" "elementData" "[Ljava/lang/Object;", Cond.methodLink RX6 209 yX0_standsFor, Cond.instanceMethod yX0_standsFor, Cond.selects RX0 yX0_standsFor yX0_standsFor, Cond.initialized RX0, Cond.code yX0_standsFor cX0_standsFor 2 (some .boolean), Cond.fieldLink RX0 25 "Dataroom$Answer" "recalled" "Z", Cond.fieldLink RX0 7 "Dataroom$Answer" "party" "I"]
def wsX6_countStanding : List Cond := .code yX6_countStanding cX6_countStanding 4 (some .int) :: ((wsX6_countStanding_r1 ++ wsX6_countStanding_r2) ++ wsX60 ++ wsJx4a65c0 ++ wsX00 ++ wsX40)
def wsX6_count_r1 : List Cond := [Cond.methodLink RX6 83 yX6_partyAt, Cond.instanceMethod yX6_partyAt, Cond.selects RX6 yX6_partyAt yX6_partyAt, Cond.initialized RX6, Cond.code yX6_partyAt cX6_partyAt 2 (some (.object "Dataroom$Party")), Cond.classLink RX6 143 "java/lang/IndexOutOfBoundsException", Cond.initialized "java/lang/IndexOutOfBoundsException", Cond.fieldLink RX6 16 "Dataroom" "allParties" "Ljava/util/ArrayList;", Cond.classLink RX6 72 "Dataroom$Party", Cond.methodLink RX6 40 yJx4a65c_size_8abf5, Cond.instanceMethod yJx4a65c_size_8abf5, Cond.selects RJx4a65c yJx4a65c_size_8abf5 yJx4a65c_size_8abf5, Cond.initialized RJx4a65c, Cond.code yJx4a65c_size_8abf5 cJx4a65c_size_8abf5 1 (some .int), Cond.fieldLink RJx4a65c 48 "java/util/ArrayList" "size" "I", Cond.methodLink RX6 68 yJx4a65c_get_915e3, Cond.instanceMethod yJx4a65c_get_915e3, Cond.selects RJx4a65c yJx4a65c_get_915e3 yJx4a65c_get_915e3, Cond.code yJx4a65c_get_915e3 cJx4a65c_get_915e3 2 (some (.object "java/lang/Object")), Cond.methodLink RJx4a65c 118 yJ15_checkIndex_7cf53, Cond.static yJ15_checkIndex_7cf53, Cond.initialized RJ15, Cond.code yJ15_checkIndex_7cf53 cJ15_checkIndex_7cf53 2 (some .int), Cond.methodLink RJ15 105 yJ3_checkIndex_8e157]
def wsX6_count_r2 : List Cond := [Cond.static yJ3_checkIndex_8e157, Cond.initialized RJ3, Cond.code yJ3_checkIndex_8e157 cJ3_checkIndex_8e157 3 (some .int), Cond.methodLink RJx4a65c 123 yJx4a65c_elementData_915e3, Cond.instanceMethod yJx4a65c_elementData_915e3, Cond.selects RJx4a65c yJx4a65c_elementData_915e3 yJx4a65c_elementData_915e3, Cond.code yJx4a65c_elementData_915e3 cJx4a65c_elementData_915e3 2 (some (.object "java/lang/Object")), Cond.fieldLink RJx4a65c 9 "java/util/ArrayList" "elementData" "[Ljava/lang/Object;", Cond.methodLink RX6 36 yX6_requireRange, Cond.static yX6_requireRange, Cond.code yX6_requireRange cX6_requireRange 3 none, Cond.classLink RX6 189 "java/lang/IllegalArgumentException", Cond.initialized "java/lang/IllegalArgumentException", Cond.methodLink RX6 178 yX6_countStanding, Cond.instanceMethod yX6_countStanding, Cond.selects RX6 yX6_countStanding yX6_countStanding, Cond.code yX6_countStanding cX6_countStanding 4 (some .int), Cond.fieldLink RX6 19 "Dataroom" "allAnswers" "Ljava/util/ArrayList;", Cond.classLink RX6 129 "Dataroom$Answer", Cond.methodLink RX6 209 yX0_standsFor, Cond.instanceMethod yX0_standsFor, Cond.selects RX0 yX0_standsFor yX0_standsFor, Cond.initialized RX0, Cond.code yX0_standsFor cX0_standsFor 2 (some .boolean)]
def wsX6_count_r3 : List Cond := [Cond.fieldLink RX0 25 "Dataroom$Answer" "recalled" "Z", Cond.fieldLink RX0 7 "Dataroom$Answer" "party" "I", Cond.methodLink RX6 182 yX4_questions, Cond.instanceMethod yX4_questions, Cond.selects RX4 yX4_questions yX4_questions, Cond.initialized RX4, Cond.code yX4_questions cX4_questions 2 (some .int), Cond.fieldLink RX4 23 "Dataroom$Party" "fared" "[I"]
def wsX6_count : List Cond := .code yX6_count cX6_count 4 (some .int) :: ((wsX6_count_r1 ++ (wsX6_count_r2 ++ wsX6_count_r3)) ++ wsX60 ++ wsJx4a65c0 ++ wsX00 ++ wsX40 ++ (vx_atS RX6 147 "java/lang/IndexOutOfBoundsException" ["java/lang/RuntimeException", "java/lang/Exception"]).filter goodWord ++ (vx_atS RX6 193 "java/lang/IllegalArgumentException" ["java/lang/RuntimeException", "java/lang/Exception"]).filter goodWord)
def wsX7_init : List Cond := .code yX7_init cX7_init 1 none :: ([.methodLink RX7 1 objectInit, .instanceMethod objectInit, .code objectInit ⟨#[0xb1]⟩ 1 none, .arrayClass .int, .fieldLink RX7 7 "DataroomModel" "number" "[I", .fieldLink RX7 13 "DataroomModel" "sealedTill" "[I", .fieldLink RX7 16 "DataroomModel" "budget" "[I", .fieldLink RX7 19 "DataroomModel" "right" "[I", .fieldLink RX7 22 "DataroomModel" "from" "[I", .fieldLink RX7 25 "DataroomModel" "to" "[I", .fieldLink RX7 28 "DataroomModel" "who" "[I", .fieldLink RX7 31 "DataroomModel" "set" "[I", .fieldLink RX7 34 "DataroomModel" "bitOf" "[I", .fieldLink RX7 37 "DataroomModel" "told" "[I", .fieldLink RX7 40 "DataroomModel" "hour" "[I", .arrayClass .boolean, .fieldLink RX7 43 "DataroomModel" "isRecalled" "[Z", .fieldLink RX7 47 "DataroomModel" "counts" "[I", .fieldLink RX7 50 "DataroomModel" "rows" "[I"] ++ wsX70)
def wsX7_thrown : List Cond := .code yX7_thrown cX7_thrown 1 (some .int) :: ([.fieldLink RX7 53 "DataroomModel" "thrown" "I"] ++ wsX70)
def wsX7_goesWell : List Cond := .code yX7_goesWell cX7_goesWell 2 (some .boolean) :: ([.fieldLink RX7 53 "DataroomModel" "thrown" "I"] ++ wsX70)
def wsX7_in : List Cond := .code yX7_in cX7_in 3 (some .boolean) :: ([])
def wsX7_isFile : List Cond := .code yX7_isFile cX7_isFile 2 (some .boolean) :: ([.fieldLink RX7 57 "DataroomModel" "files" "I", .methodLink RX7 60 yX7_in, .static yX7_in, .initialized RX7, .code yX7_in cX7_in 3 (some .boolean)] ++ wsX70)
def wsX7_isParty : List Cond := .code yX7_isParty cX7_isParty 2 (some .boolean) :: ([.fieldLink RX7 64 "DataroomModel" "parties" "I", .methodLink RX7 60 yX7_in, .static yX7_in, .initialized RX7, .code yX7_in cX7_in 3 (some .boolean)] ++ wsX70)
def wsX7_file : List Cond := .code yX7_file cX7_file 3 (some .int) :: ([.fieldLink RX7 57 "DataroomModel" "files" "I", .fieldLink RX7 7 "DataroomModel" "number" "[I", .methodLink RX7 60 yX7_in, .static yX7_in, .initialized RX7, .code yX7_in cX7_in 3 (some .boolean), .methodLink RX7 67 yX7_goesWell, .instanceMethod yX7_goesWell, .selects RX7 yX7_goesWell yX7_goesWell, .code yX7_goesWell cX7_goesWell 2 (some .boolean), .fieldLink RX7 53 "DataroomModel" "thrown" "I"] ++ wsX70)
def wsX7_recall : List Cond := .code yX7_recall cX7_recall 6 (some .int) :: ([.fieldLink RX7 71 "DataroomModel" "answers" "I", .fieldLink RX7 43 "DataroomModel" "isRecalled" "[Z", .fieldLink RX7 31 "DataroomModel" "set" "[I", .fieldLink RX7 28 "DataroomModel" "who" "[I"] ++ wsX70)
def wsX7_change : List Cond := .code yX7_change cX7_change 4 (some .int) :: ([.fieldLink RX7 7 "DataroomModel" "number" "[I", .methodLink RX7 74 yX7_isFile, .instanceMethod yX7_isFile, .selects RX7 yX7_isFile yX7_isFile, .initialized RX7, .code yX7_isFile cX7_isFile 2 (some .boolean), .fieldLink RX7 57 "DataroomModel" "files" "I", .methodLink RX7 60 yX7_in, .static yX7_in, .code yX7_in cX7_in 3 (some .boolean), .methodLink RX7 67 yX7_goesWell, .instanceMethod yX7_goesWell, .selects RX7 yX7_goesWell yX7_goesWell, .code yX7_goesWell cX7_goesWell 2 (some .boolean), .fieldLink RX7 53 "DataroomModel" "thrown" "I", .methodLink RX7 77 yX7_recall, .instanceMethod yX7_recall, .selects RX7 yX7_recall yX7_recall, .code yX7_recall cX7_recall 6 (some .int), .fieldLink RX7 71 "DataroomModel" "answers" "I", .fieldLink RX7 43 "DataroomModel" "isRecalled" "[Z", .fieldLink RX7 31 "DataroomModel" "set" "[I", .fieldLink RX7 28 "DataroomModel" "who" "[I"] ++ wsX70)
def wsX7_party : List Cond := .code yX7_party cX7_party 3 (some .int) :: ([.fieldLink RX7 64 "DataroomModel" "parties" "I", .fieldLink RX7 16 "DataroomModel" "budget" "[I", .methodLink RX7 60 yX7_in, .static yX7_in, .initialized RX7, .code yX7_in cX7_in 3 (some .boolean), .methodLink RX7 67 yX7_goesWell, .instanceMethod yX7_goesWell, .selects RX7 yX7_goesWell yX7_goesWell, .code yX7_goesWell cX7_goesWell 2 (some .boolean), .fieldLink RX7 53 "DataroomModel" "thrown" "I"] ++ wsX70)
def wsX7_budget : List Cond := .code yX7_budget cX7_budget 5 (some .int) :: ([.fieldLink RX7 16 "DataroomModel" "budget" "[I", .methodLink RX7 81 yX7_isParty, .instanceMethod yX7_isParty, .selects RX7 yX7_isParty yX7_isParty, .initialized RX7, .code yX7_isParty cX7_isParty 2 (some .boolean), .fieldLink RX7 64 "DataroomModel" "parties" "I", .methodLink RX7 60 yX7_in, .static yX7_in, .code yX7_in cX7_in 3 (some .boolean), .methodLink RX7 67 yX7_goesWell, .instanceMethod yX7_goesWell, .selects RX7 yX7_goesWell yX7_goesWell, .code yX7_goesWell cX7_goesWell 2 (some .boolean), .fieldLink RX7 53 "DataroomModel" "thrown" "I"] ++ wsX70)
def wsX7_right : List Cond := .code yX7_right cX7_right 8 none :: ([.fieldLink RX7 19 "DataroomModel" "right" "[I", .fieldLink RX7 22 "DataroomModel" "from" "[I", .fieldLink RX7 25 "DataroomModel" "to" "[I", .methodLink RX7 81 yX7_isParty, .instanceMethod yX7_isParty, .selects RX7 yX7_isParty yX7_isParty, .initialized RX7, .code yX7_isParty cX7_isParty 2 (some .boolean), .fieldLink RX7 64 "DataroomModel" "parties" "I", .methodLink RX7 60 yX7_in, .static yX7_in, .code yX7_in cX7_in 3 (some .boolean), .methodLink RX7 74 yX7_isFile, .instanceMethod yX7_isFile, .selects RX7 yX7_isFile yX7_isFile, .code yX7_isFile cX7_isFile 2 (some .boolean), .fieldLink RX7 57 "DataroomModel" "files" "I", .methodLink RX7 67 yX7_goesWell, .instanceMethod yX7_goesWell, .selects RX7 yX7_goesWell yX7_goesWell, .code yX7_goesWell cX7_goesWell 2 (some .boolean), .fieldLink RX7 53 "DataroomModel" "thrown" "I"] ++ wsX70)
def wsX7_takeBack_r1 : List Cond := [Cond.fieldLink RX7 19 "DataroomModel" "right" "[I", Cond.methodLink RX7 81 yX7_isParty, Cond.instanceMethod yX7_isParty, Cond.selects RX7 yX7_isParty yX7_isParty, Cond.initialized RX7, Cond.code yX7_isParty cX7_isParty 2 (some .boolean), Cond.fieldLink RX7 64 "DataroomModel" "parties" "I", Cond.methodLink RX7 60 yX7_in, Cond.static yX7_in, Cond.code yX7_in cX7_in 3 (some .boolean), Cond.methodLink RX7 74 yX7_isFile, Cond.instanceMethod yX7_isFile, Cond.selects RX7 yX7_isFile yX7_isFile, Cond.code yX7_isFile cX7_isFile 2 (some .boolean), Cond.fieldLink RX7 57 "DataroomModel" "files" "I", Cond.methodLink RX7 67 yX7_goesWell, Cond.instanceMethod yX7_goesWell, Cond.selects RX7 yX7_goesWell yX7_goesWell, Cond.code yX7_goesWell cX7_goesWell 2 (some .boolean), Cond.fieldLink RX7 53 "DataroomModel" "thrown" "I", Cond.methodLink RX7 77 yX7_recall, Cond.instanceMethod yX7_recall, Cond.selects RX7 yX7_recall yX7_recall, Cond.code yX7_recall cX7_recall 6 (some .int)]
def wsX7_takeBack_r2 : List Cond := [Cond.fieldLink RX7 71 "DataroomModel" "answers" "I", Cond.fieldLink RX7 43 "DataroomModel" "isRecalled" "[Z", Cond.fieldLink RX7 31 "DataroomModel" "set" "[I", Cond.fieldLink RX7 28 "DataroomModel" "who" "[I"]
def wsX7_takeBack : List Cond := .code yX7_takeBack cX7_takeBack 4 (some .int) :: ((wsX7_takeBack_r1 ++ wsX7_takeBack_r2) ++ wsX70)
def wsX7_seal : List Cond := .code yX7_seal cX7_seal 4 none :: ([.fieldLink RX7 13 "DataroomModel" "sealedTill" "[I", .methodLink RX7 74 yX7_isFile, .instanceMethod yX7_isFile, .selects RX7 yX7_isFile yX7_isFile, .initialized RX7, .code yX7_isFile cX7_isFile 2 (some .boolean), .fieldLink RX7 57 "DataroomModel" "files" "I", .methodLink RX7 60 yX7_in, .static yX7_in, .code yX7_in cX7_in 3 (some .boolean), .methodLink RX7 67 yX7_goesWell, .instanceMethod yX7_goesWell, .selects RX7 yX7_goesWell yX7_goesWell, .code yX7_goesWell cX7_goesWell 2 (some .boolean), .fieldLink RX7 53 "DataroomModel" "thrown" "I"] ++ wsX70)
def wsX7_pass : List Cond := .code yX7_pass cX7_pass 3 (some .int) :: ([.fieldLink RX7 84 "DataroomModel" "now" "I", .methodLink RX7 60 yX7_in, .static yX7_in, .initialized RX7, .code yX7_in cX7_in 3 (some .boolean), .methodLink RX7 67 yX7_goesWell, .instanceMethod yX7_goesWell, .selects RX7 yX7_goesWell yX7_goesWell, .code yX7_goesWell cX7_goesWell 2 (some .boolean), .fieldLink RX7 53 "DataroomModel" "thrown" "I"] ++ wsX70)
def wsX7_rightOf : List Cond := .code yX7_rightOf cX7_rightOf 4 (some .int) :: ([.fieldLink RX7 19 "DataroomModel" "right" "[I", .fieldLink RX7 84 "DataroomModel" "now" "I", .fieldLink RX7 22 "DataroomModel" "from" "[I", .fieldLink RX7 25 "DataroomModel" "to" "[I", .methodLink RX7 60 yX7_in, .static yX7_in, .initialized RX7, .code yX7_in cX7_in 3 (some .boolean)] ++ wsX70)
def wsX7_reduce : List Cond := .code yX7_reduce cX7_reduce 4 (some .int) :: ([.fieldLink RX7 50 "DataroomModel" "rows" "[I"] ++ wsX70)
def wsX7_highest : List Cond := .code yX7_highest cX7_highest 3 (some .int) :: ([])
def wsX7_learn : List Cond := .code yX7_learn cX7_learn 3 (some .boolean) :: ([.fieldLink RX7 50 "DataroomModel" "rows" "[I", .methodLink RX7 87 yX7_reduce, .instanceMethod yX7_reduce, .selects RX7 yX7_reduce yX7_reduce, .initialized RX7, .code yX7_reduce cX7_reduce 4 (some .int), .methodLink RX7 91 yX7_highest, .static yX7_highest, .code yX7_highest cX7_highest 3 (some .int)] ++ wsX70)
def wsX7_know : List Cond := .code yX7_know cX7_know 6 (some .int) :: ([.fieldLink RX7 50 "DataroomModel" "rows" "[I", .fieldLink RX7 71 "DataroomModel" "answers" "I", .fieldLink RX7 43 "DataroomModel" "isRecalled" "[Z", .fieldLink RX7 28 "DataroomModel" "who" "[I", .fieldLink RX7 34 "DataroomModel" "bitOf" "[I", .fieldLink RX7 31 "DataroomModel" "set" "[I", .methodLink RX7 94 yX7_learn, .instanceMethod yX7_learn, .selects RX7 yX7_learn yX7_learn, .initialized RX7, .code yX7_learn cX7_learn 3 (some .boolean), .methodLink RX7 87 yX7_reduce, .instanceMethod yX7_reduce, .selects RX7 yX7_reduce yX7_reduce, .code yX7_reduce cX7_reduce 4 (some .int), .methodLink RX7 91 yX7_highest, .static yX7_highest, .code yX7_highest cX7_highest 3 (some .int)] ++ wsX70)
def wsX7_spentBy : List Cond := .code yX7_spentBy cX7_spentBy 4 (some .int) :: ([.methodLink RX7 97 yX7_know, .instanceMethod yX7_know, .selects RX7 yX7_know yX7_know, .initialized RX7, .code yX7_know cX7_know 6 (some .int), .fieldLink RX7 50 "DataroomModel" "rows" "[I", .fieldLink RX7 71 "DataroomModel" "answers" "I", .fieldLink RX7 43 "DataroomModel" "isRecalled" "[Z", .fieldLink RX7 28 "DataroomModel" "who" "[I", .fieldLink RX7 34 "DataroomModel" "bitOf" "[I", .fieldLink RX7 31 "DataroomModel" "set" "[I", .methodLink RX7 94 yX7_learn, .instanceMethod yX7_learn, .selects RX7 yX7_learn yX7_learn, .code yX7_learn cX7_learn 3 (some .boolean), .methodLink RX7 87 yX7_reduce, .instanceMethod yX7_reduce, .selects RX7 yX7_reduce yX7_reduce, .code yX7_reduce cX7_reduce 4 (some .int), .methodLink RX7 91 yX7_highest, .static yX7_highest, .code yX7_highest cX7_highest 3 (some .int)] ++ wsX70)
def wsX7_found : List Cond := .code yX7_found cX7_found 3 (some .int) :: ([.fieldLink RX7 57 "DataroomModel" "files" "I", .methodLink RX7 87 yX7_reduce, .instanceMethod yX7_reduce, .selects RX7 yX7_reduce yX7_reduce, .initialized RX7, .code yX7_reduce cX7_reduce 4 (some .int), .fieldLink RX7 50 "DataroomModel" "rows" "[I"] ++ wsX70)
def wsX7_isAsked : List Cond := .code yX7_isAsked cX7_isAsked 2 (some .boolean) :: ([])
def wsX7_costOf_r1 : List Cond := [Cond.methodLink RX7 100 yX7_isAsked, Cond.static yX7_isAsked, Cond.initialized RX7, Cond.code yX7_isAsked cX7_isAsked 2 (some .boolean), Cond.methodLink RX7 97 yX7_know, Cond.instanceMethod yX7_know, Cond.selects RX7 yX7_know yX7_know, Cond.code yX7_know cX7_know 6 (some .int), Cond.fieldLink RX7 50 "DataroomModel" "rows" "[I", Cond.fieldLink RX7 71 "DataroomModel" "answers" "I", Cond.fieldLink RX7 43 "DataroomModel" "isRecalled" "[Z", Cond.fieldLink RX7 28 "DataroomModel" "who" "[I", Cond.fieldLink RX7 34 "DataroomModel" "bitOf" "[I", Cond.fieldLink RX7 31 "DataroomModel" "set" "[I", Cond.methodLink RX7 94 yX7_learn, Cond.instanceMethod yX7_learn, Cond.selects RX7 yX7_learn yX7_learn, Cond.code yX7_learn cX7_learn 3 (some .boolean), Cond.methodLink RX7 87 yX7_reduce, Cond.instanceMethod yX7_reduce, Cond.selects RX7 yX7_reduce yX7_reduce, Cond.code yX7_reduce cX7_reduce 4 (some .int), Cond.methodLink RX7 91 yX7_highest, Cond.static yX7_highest]
def wsX7_costOf_r2 : List Cond := [Cond.code yX7_highest cX7_highest 3 (some .int)]
def wsX7_costOf : List Cond := .code yX7_costOf cX7_costOf 6 (some .int) :: ((wsX7_costOf_r1 ++ wsX7_costOf_r2) ++ wsX70)
def wsX7_wouldTell_r1 : List Cond := [Cond.fieldLink RX7 57 "DataroomModel" "files" "I", Cond.methodLink RX7 100 yX7_isAsked, Cond.static yX7_isAsked, Cond.initialized RX7, Cond.code yX7_isAsked cX7_isAsked 2 (some .boolean), Cond.methodLink RX7 97 yX7_know, Cond.instanceMethod yX7_know, Cond.selects RX7 yX7_know yX7_know, Cond.code yX7_know cX7_know 6 (some .int), Cond.fieldLink RX7 50 "DataroomModel" "rows" "[I", Cond.fieldLink RX7 71 "DataroomModel" "answers" "I", Cond.fieldLink RX7 43 "DataroomModel" "isRecalled" "[Z", Cond.fieldLink RX7 28 "DataroomModel" "who" "[I", Cond.fieldLink RX7 34 "DataroomModel" "bitOf" "[I", Cond.fieldLink RX7 31 "DataroomModel" "set" "[I", Cond.methodLink RX7 94 yX7_learn, Cond.instanceMethod yX7_learn, Cond.selects RX7 yX7_learn yX7_learn, Cond.code yX7_learn cX7_learn 3 (some .boolean), Cond.methodLink RX7 87 yX7_reduce, Cond.instanceMethod yX7_reduce, Cond.selects RX7 yX7_reduce yX7_reduce, Cond.code yX7_reduce cX7_reduce 4 (some .int), Cond.methodLink RX7 91 yX7_highest]
def wsX7_wouldTell_r2 : List Cond := [Cond.static yX7_highest, Cond.code yX7_highest cX7_highest 3 (some .int), Cond.methodLink RX7 104 yX7_found, Cond.instanceMethod yX7_found, Cond.selects RX7 yX7_found yX7_found, Cond.code yX7_found cX7_found 3 (some .int), Cond.methodLink RX7 108 yX7_rightOf, Cond.instanceMethod yX7_rightOf, Cond.selects RX7 yX7_rightOf yX7_rightOf, Cond.code yX7_rightOf cX7_rightOf 4 (some .int), Cond.fieldLink RX7 19 "DataroomModel" "right" "[I", Cond.fieldLink RX7 84 "DataroomModel" "now" "I", Cond.fieldLink RX7 22 "DataroomModel" "from" "[I", Cond.fieldLink RX7 25 "DataroomModel" "to" "[I", Cond.methodLink RX7 60 yX7_in, Cond.static yX7_in, Cond.code yX7_in cX7_in 3 (some .boolean)]
def wsX7_wouldTell : List Cond := .code yX7_wouldTell cX7_wouldTell 9 (some .boolean) :: ((wsX7_wouldTell_r1 ++ wsX7_wouldTell_r2) ++ wsX70)
def wsX7_refusal_r1 : List Cond := [Cond.fieldLink RX7 57 "DataroomModel" "files" "I", Cond.fieldLink RX7 13 "DataroomModel" "sealedTill" "[I", Cond.fieldLink RX7 84 "DataroomModel" "now" "I", Cond.fieldLink RX7 16 "DataroomModel" "budget" "[I", Cond.methodLink RX7 108 yX7_rightOf, Cond.instanceMethod yX7_rightOf, Cond.selects RX7 yX7_rightOf yX7_rightOf, Cond.initialized RX7, Cond.code yX7_rightOf cX7_rightOf 4 (some .int), Cond.fieldLink RX7 19 "DataroomModel" "right" "[I", Cond.fieldLink RX7 22 "DataroomModel" "from" "[I", Cond.fieldLink RX7 25 "DataroomModel" "to" "[I", Cond.methodLink RX7 60 yX7_in, Cond.static yX7_in, Cond.code yX7_in cX7_in 3 (some .boolean), Cond.methodLink RX7 111 yX7_wouldTell, Cond.instanceMethod yX7_wouldTell, Cond.selects RX7 yX7_wouldTell yX7_wouldTell, Cond.code yX7_wouldTell cX7_wouldTell 9 (some .boolean), Cond.methodLink RX7 100 yX7_isAsked, Cond.static yX7_isAsked, Cond.code yX7_isAsked cX7_isAsked 2 (some .boolean), Cond.methodLink RX7 97 yX7_know, Cond.instanceMethod yX7_know]
def wsX7_refusal_r2 : List Cond := [Cond.selects RX7 yX7_know yX7_know, Cond.code yX7_know cX7_know 6 (some .int), Cond.fieldLink RX7 50 "DataroomModel" "rows" "[I", Cond.fieldLink RX7 71 "DataroomModel" "answers" "I", Cond.fieldLink RX7 43 "DataroomModel" "isRecalled" "[Z", Cond.fieldLink RX7 28 "DataroomModel" "who" "[I", Cond.fieldLink RX7 34 "DataroomModel" "bitOf" "[I", Cond.fieldLink RX7 31 "DataroomModel" "set" "[I", Cond.methodLink RX7 94 yX7_learn, Cond.instanceMethod yX7_learn, Cond.selects RX7 yX7_learn yX7_learn, Cond.code yX7_learn cX7_learn 3 (some .boolean), Cond.methodLink RX7 87 yX7_reduce, Cond.instanceMethod yX7_reduce, Cond.selects RX7 yX7_reduce yX7_reduce, Cond.code yX7_reduce cX7_reduce 4 (some .int), Cond.methodLink RX7 91 yX7_highest, Cond.static yX7_highest, Cond.code yX7_highest cX7_highest 3 (some .int), Cond.methodLink RX7 104 yX7_found, Cond.instanceMethod yX7_found, Cond.selects RX7 yX7_found yX7_found, Cond.code yX7_found cX7_found 3 (some .int), Cond.methodLink RX7 114 yX7_spentBy]
def wsX7_refusal_r3 : List Cond := [Cond.instanceMethod yX7_spentBy, Cond.selects RX7 yX7_spentBy yX7_spentBy, Cond.code yX7_spentBy cX7_spentBy 4 (some .int), Cond.methodLink RX7 117 yX7_costOf, Cond.instanceMethod yX7_costOf, Cond.selects RX7 yX7_costOf yX7_costOf, Cond.code yX7_costOf cX7_costOf 6 (some .int)]
def wsX7_refusal : List Cond := .code yX7_refusal cX7_refusal 7 (some .int) :: ((wsX7_refusal_r1 ++ (wsX7_refusal_r2 ++ wsX7_refusal_r3)) ++ wsX70)
def wsX7_isQuestion : List Cond := .code yX7_isQuestion cX7_isQuestion 3 (some .boolean) :: ([.fieldLink RX7 57 "DataroomModel" "files" "I", .methodLink RX7 60 yX7_in, .static yX7_in, .initialized RX7, .code yX7_in cX7_in 3 (some .boolean)] ++ wsX70)
def wsX7_ask_r1 : List Cond := [Cond.fieldLink RX7 71 "DataroomModel" "answers" "I", Cond.fieldLink RX7 47 "DataroomModel" "counts" "[I", Cond.fieldLink RX7 57 "DataroomModel" "files" "I", Cond.fieldLink RX7 7 "DataroomModel" "number" "[I", Cond.fieldLink RX7 28 "DataroomModel" "who" "[I", Cond.fieldLink RX7 31 "DataroomModel" "set" "[I", Cond.fieldLink RX7 34 "DataroomModel" "bitOf" "[I", Cond.fieldLink RX7 37 "DataroomModel" "told" "[I", Cond.fieldLink RX7 40 "DataroomModel" "hour" "[I", Cond.fieldLink RX7 84 "DataroomModel" "now" "I", Cond.methodLink RX7 81 yX7_isParty, Cond.instanceMethod yX7_isParty, Cond.selects RX7 yX7_isParty yX7_isParty, Cond.initialized RX7, Cond.code yX7_isParty cX7_isParty 2 (some .boolean), Cond.fieldLink RX7 64 "DataroomModel" "parties" "I", Cond.methodLink RX7 60 yX7_in, Cond.static yX7_in, Cond.code yX7_in cX7_in 3 (some .boolean), Cond.methodLink RX7 121 yX7_isQuestion, Cond.instanceMethod yX7_isQuestion, Cond.selects RX7 yX7_isQuestion yX7_isQuestion, Cond.code yX7_isQuestion cX7_isQuestion 3 (some .boolean), Cond.methodLink RX7 67 yX7_goesWell]
def wsX7_ask_r2 : List Cond := [Cond.instanceMethod yX7_goesWell, Cond.selects RX7 yX7_goesWell yX7_goesWell, Cond.code yX7_goesWell cX7_goesWell 2 (some .boolean), Cond.fieldLink RX7 53 "DataroomModel" "thrown" "I", Cond.methodLink RX7 124 yX7_refusal, Cond.instanceMethod yX7_refusal, Cond.selects RX7 yX7_refusal yX7_refusal, Cond.code yX7_refusal cX7_refusal 7 (some .int), Cond.fieldLink RX7 13 "DataroomModel" "sealedTill" "[I", Cond.fieldLink RX7 16 "DataroomModel" "budget" "[I", Cond.methodLink RX7 108 yX7_rightOf, Cond.instanceMethod yX7_rightOf, Cond.selects RX7 yX7_rightOf yX7_rightOf, Cond.code yX7_rightOf cX7_rightOf 4 (some .int), Cond.fieldLink RX7 19 "DataroomModel" "right" "[I", Cond.fieldLink RX7 22 "DataroomModel" "from" "[I", Cond.fieldLink RX7 25 "DataroomModel" "to" "[I", Cond.methodLink RX7 111 yX7_wouldTell, Cond.instanceMethod yX7_wouldTell, Cond.selects RX7 yX7_wouldTell yX7_wouldTell, Cond.code yX7_wouldTell cX7_wouldTell 9 (some .boolean), Cond.methodLink RX7 100 yX7_isAsked, Cond.static yX7_isAsked, Cond.code yX7_isAsked cX7_isAsked 2 (some .boolean)]
def wsX7_ask_r3 : List Cond := [Cond.methodLink RX7 97 yX7_know, Cond.instanceMethod yX7_know, Cond.selects RX7 yX7_know yX7_know, Cond.code yX7_know cX7_know 6 (some .int), Cond.fieldLink RX7 50 "DataroomModel" "rows" "[I", Cond.fieldLink RX7 43 "DataroomModel" "isRecalled" "[Z", Cond.methodLink RX7 94 yX7_learn, Cond.instanceMethod yX7_learn, Cond.selects RX7 yX7_learn yX7_learn, Cond.code yX7_learn cX7_learn 3 (some .boolean), Cond.methodLink RX7 87 yX7_reduce, Cond.instanceMethod yX7_reduce, Cond.selects RX7 yX7_reduce yX7_reduce, Cond.code yX7_reduce cX7_reduce 4 (some .int), Cond.methodLink RX7 91 yX7_highest, Cond.static yX7_highest, Cond.code yX7_highest cX7_highest 3 (some .int), Cond.methodLink RX7 104 yX7_found, Cond.instanceMethod yX7_found, Cond.selects RX7 yX7_found yX7_found, Cond.code yX7_found cX7_found 3 (some .int), Cond.methodLink RX7 114 yX7_spentBy, Cond.instanceMethod yX7_spentBy, Cond.selects RX7 yX7_spentBy yX7_spentBy]
def wsX7_ask_r4 : List Cond := [Cond.code yX7_spentBy cX7_spentBy 4 (some .int), Cond.methodLink RX7 117 yX7_costOf, Cond.instanceMethod yX7_costOf, Cond.selects RX7 yX7_costOf yX7_costOf, Cond.code yX7_costOf cX7_costOf 6 (some .int)]
def wsX7_ask : List Cond := .code yX7_ask cX7_ask 8 (some .int) :: ((wsX7_ask_r1 ++ (wsX7_ask_r2 ++ (wsX7_ask_r3 ++ wsX7_ask_r4))) ++ wsX70)
def wsX7_cost_r1 : List Cond := [Cond.methodLink RX7 81 yX7_isParty, Cond.instanceMethod yX7_isParty, Cond.selects RX7 yX7_isParty yX7_isParty, Cond.initialized RX7, Cond.code yX7_isParty cX7_isParty 2 (some .boolean), Cond.fieldLink RX7 64 "DataroomModel" "parties" "I", Cond.methodLink RX7 60 yX7_in, Cond.static yX7_in, Cond.code yX7_in cX7_in 3 (some .boolean), Cond.methodLink RX7 121 yX7_isQuestion, Cond.instanceMethod yX7_isQuestion, Cond.selects RX7 yX7_isQuestion yX7_isQuestion, Cond.code yX7_isQuestion cX7_isQuestion 3 (some .boolean), Cond.fieldLink RX7 57 "DataroomModel" "files" "I", Cond.methodLink RX7 67 yX7_goesWell, Cond.instanceMethod yX7_goesWell, Cond.selects RX7 yX7_goesWell yX7_goesWell, Cond.code yX7_goesWell cX7_goesWell 2 (some .boolean), Cond.fieldLink RX7 53 "DataroomModel" "thrown" "I", Cond.methodLink RX7 117 yX7_costOf, Cond.instanceMethod yX7_costOf, Cond.selects RX7 yX7_costOf yX7_costOf, Cond.code yX7_costOf cX7_costOf 6 (some .int), Cond.methodLink RX7 100 yX7_isAsked]
def wsX7_cost_r2 : List Cond := [Cond.static yX7_isAsked, Cond.code yX7_isAsked cX7_isAsked 2 (some .boolean), Cond.methodLink RX7 97 yX7_know, Cond.instanceMethod yX7_know, Cond.selects RX7 yX7_know yX7_know, Cond.code yX7_know cX7_know 6 (some .int), Cond.fieldLink RX7 50 "DataroomModel" "rows" "[I", Cond.fieldLink RX7 71 "DataroomModel" "answers" "I", Cond.fieldLink RX7 43 "DataroomModel" "isRecalled" "[Z", Cond.fieldLink RX7 28 "DataroomModel" "who" "[I", Cond.fieldLink RX7 34 "DataroomModel" "bitOf" "[I", Cond.fieldLink RX7 31 "DataroomModel" "set" "[I", Cond.methodLink RX7 94 yX7_learn, Cond.instanceMethod yX7_learn, Cond.selects RX7 yX7_learn yX7_learn, Cond.code yX7_learn cX7_learn 3 (some .boolean), Cond.methodLink RX7 87 yX7_reduce, Cond.instanceMethod yX7_reduce, Cond.selects RX7 yX7_reduce yX7_reduce, Cond.code yX7_reduce cX7_reduce 4 (some .int), Cond.methodLink RX7 91 yX7_highest, Cond.static yX7_highest, Cond.code yX7_highest cX7_highest 3 (some .int)]
def wsX7_cost : List Cond := .code yX7_cost cX7_cost 5 (some .int) :: ((wsX7_cost_r1 ++ wsX7_cost_r2) ++ wsX70)
def wsX7_answer : List Cond := .code yX7_answer cX7_answer 4 (some .int) :: ([.fieldLink RX7 71 "DataroomModel" "answers" "I", .fieldLink RX7 28 "DataroomModel" "who" "[I", .fieldLink RX7 31 "DataroomModel" "set" "[I", .fieldLink RX7 34 "DataroomModel" "bitOf" "[I", .fieldLink RX7 37 "DataroomModel" "told" "[I", .fieldLink RX7 43 "DataroomModel" "isRecalled" "[Z", .fieldLink RX7 40 "DataroomModel" "hour" "[I", .methodLink RX7 60 yX7_in, .static yX7_in, .initialized RX7, .code yX7_in cX7_in 3 (some .boolean), .methodLink RX7 67 yX7_goesWell, .instanceMethod yX7_goesWell, .selects RX7 yX7_goesWell yX7_goesWell, .code yX7_goesWell cX7_goesWell 2 (some .boolean), .fieldLink RX7 53 "DataroomModel" "thrown" "I"] ++ wsX70)
def wsX7_spent_r1 : List Cond := [Cond.methodLink RX7 81 yX7_isParty, Cond.instanceMethod yX7_isParty, Cond.selects RX7 yX7_isParty yX7_isParty, Cond.initialized RX7, Cond.code yX7_isParty cX7_isParty 2 (some .boolean), Cond.fieldLink RX7 64 "DataroomModel" "parties" "I", Cond.methodLink RX7 60 yX7_in, Cond.static yX7_in, Cond.code yX7_in cX7_in 3 (some .boolean), Cond.methodLink RX7 67 yX7_goesWell, Cond.instanceMethod yX7_goesWell, Cond.selects RX7 yX7_goesWell yX7_goesWell, Cond.code yX7_goesWell cX7_goesWell 2 (some .boolean), Cond.fieldLink RX7 53 "DataroomModel" "thrown" "I", Cond.methodLink RX7 114 yX7_spentBy, Cond.instanceMethod yX7_spentBy, Cond.selects RX7 yX7_spentBy yX7_spentBy, Cond.code yX7_spentBy cX7_spentBy 4 (some .int), Cond.methodLink RX7 97 yX7_know, Cond.instanceMethod yX7_know, Cond.selects RX7 yX7_know yX7_know, Cond.code yX7_know cX7_know 6 (some .int), Cond.fieldLink RX7 50 "DataroomModel" "rows" "[I", Cond.fieldLink RX7 71 "DataroomModel" "answers" "I"]
def wsX7_spent_r2 : List Cond := [Cond.fieldLink RX7 43 "DataroomModel" "isRecalled" "[Z", Cond.fieldLink RX7 28 "DataroomModel" "who" "[I", Cond.fieldLink RX7 34 "DataroomModel" "bitOf" "[I", Cond.fieldLink RX7 31 "DataroomModel" "set" "[I", Cond.methodLink RX7 94 yX7_learn, Cond.instanceMethod yX7_learn, Cond.selects RX7 yX7_learn yX7_learn, Cond.code yX7_learn cX7_learn 3 (some .boolean), Cond.methodLink RX7 87 yX7_reduce, Cond.instanceMethod yX7_reduce, Cond.selects RX7 yX7_reduce yX7_reduce, Cond.code yX7_reduce cX7_reduce 4 (some .int), Cond.methodLink RX7 91 yX7_highest, Cond.static yX7_highest, Cond.code yX7_highest cX7_highest 3 (some .int)]
def wsX7_spent : List Cond := .code yX7_spent cX7_spent 2 (some .int) :: ((wsX7_spent_r1 ++ wsX7_spent_r2) ++ wsX70)
def wsX7_spentAnew_r1 : List Cond := [Cond.methodLink RX7 81 yX7_isParty, Cond.instanceMethod yX7_isParty, Cond.selects RX7 yX7_isParty yX7_isParty, Cond.initialized RX7, Cond.code yX7_isParty cX7_isParty 2 (some .boolean), Cond.fieldLink RX7 64 "DataroomModel" "parties" "I", Cond.methodLink RX7 60 yX7_in, Cond.static yX7_in, Cond.code yX7_in cX7_in 3 (some .boolean), Cond.methodLink RX7 67 yX7_goesWell, Cond.instanceMethod yX7_goesWell, Cond.selects RX7 yX7_goesWell yX7_goesWell, Cond.code yX7_goesWell cX7_goesWell 2 (some .boolean), Cond.fieldLink RX7 53 "DataroomModel" "thrown" "I", Cond.methodLink RX7 114 yX7_spentBy, Cond.instanceMethod yX7_spentBy, Cond.selects RX7 yX7_spentBy yX7_spentBy, Cond.code yX7_spentBy cX7_spentBy 4 (some .int), Cond.methodLink RX7 97 yX7_know, Cond.instanceMethod yX7_know, Cond.selects RX7 yX7_know yX7_know, Cond.code yX7_know cX7_know 6 (some .int), Cond.fieldLink RX7 50 "DataroomModel" "rows" "[I", Cond.fieldLink RX7 71 "DataroomModel" "answers" "I"]
def wsX7_spentAnew_r2 : List Cond := [Cond.fieldLink RX7 43 "DataroomModel" "isRecalled" "[Z", Cond.fieldLink RX7 28 "DataroomModel" "who" "[I", Cond.fieldLink RX7 34 "DataroomModel" "bitOf" "[I", Cond.fieldLink RX7 31 "DataroomModel" "set" "[I", Cond.methodLink RX7 94 yX7_learn, Cond.instanceMethod yX7_learn, Cond.selects RX7 yX7_learn yX7_learn, Cond.code yX7_learn cX7_learn 3 (some .boolean), Cond.methodLink RX7 87 yX7_reduce, Cond.instanceMethod yX7_reduce, Cond.selects RX7 yX7_reduce yX7_reduce, Cond.code yX7_reduce cX7_reduce 4 (some .int), Cond.methodLink RX7 91 yX7_highest, Cond.static yX7_highest, Cond.code yX7_highest cX7_highest 3 (some .int)]
def wsX7_spentAnew : List Cond := .code yX7_spentAnew cX7_spentAnew 2 (some .int) :: ((wsX7_spentAnew_r1 ++ wsX7_spentAnew_r2) ++ wsX70)
def wsX7_findsBy : List Cond := .code yX7_findsBy cX7_findsBy 5 (some .int) :: ([.methodLink RX7 97 yX7_know, .instanceMethod yX7_know, .selects RX7 yX7_know yX7_know, .initialized RX7, .code yX7_know cX7_know 6 (some .int), .fieldLink RX7 50 "DataroomModel" "rows" "[I", .fieldLink RX7 71 "DataroomModel" "answers" "I", .fieldLink RX7 43 "DataroomModel" "isRecalled" "[Z", .fieldLink RX7 28 "DataroomModel" "who" "[I", .fieldLink RX7 34 "DataroomModel" "bitOf" "[I", .fieldLink RX7 31 "DataroomModel" "set" "[I", .methodLink RX7 94 yX7_learn, .instanceMethod yX7_learn, .selects RX7 yX7_learn yX7_learn, .code yX7_learn cX7_learn 3 (some .boolean), .methodLink RX7 87 yX7_reduce, .instanceMethod yX7_reduce, .selects RX7 yX7_reduce yX7_reduce, .code yX7_reduce cX7_reduce 4 (some .int), .methodLink RX7 91 yX7_highest, .static yX7_highest, .code yX7_highest cX7_highest 3 (some .int)] ++ wsX70)
def wsX7_finds_r1 : List Cond := [Cond.methodLink RX7 81 yX7_isParty, Cond.instanceMethod yX7_isParty, Cond.selects RX7 yX7_isParty yX7_isParty, Cond.initialized RX7, Cond.code yX7_isParty cX7_isParty 2 (some .boolean), Cond.fieldLink RX7 64 "DataroomModel" "parties" "I", Cond.methodLink RX7 60 yX7_in, Cond.static yX7_in, Cond.code yX7_in cX7_in 3 (some .boolean), Cond.methodLink RX7 74 yX7_isFile, Cond.instanceMethod yX7_isFile, Cond.selects RX7 yX7_isFile yX7_isFile, Cond.code yX7_isFile cX7_isFile 2 (some .boolean), Cond.fieldLink RX7 57 "DataroomModel" "files" "I", Cond.methodLink RX7 67 yX7_goesWell, Cond.instanceMethod yX7_goesWell, Cond.selects RX7 yX7_goesWell yX7_goesWell, Cond.code yX7_goesWell cX7_goesWell 2 (some .boolean), Cond.fieldLink RX7 53 "DataroomModel" "thrown" "I", Cond.methodLink RX7 127 yX7_findsBy, Cond.instanceMethod yX7_findsBy, Cond.selects RX7 yX7_findsBy yX7_findsBy, Cond.code yX7_findsBy cX7_findsBy 5 (some .int), Cond.methodLink RX7 97 yX7_know]
def wsX7_finds_r2 : List Cond := [Cond.instanceMethod yX7_know, Cond.selects RX7 yX7_know yX7_know, Cond.code yX7_know cX7_know 6 (some .int), Cond.fieldLink RX7 50 "DataroomModel" "rows" "[I", Cond.fieldLink RX7 71 "DataroomModel" "answers" "I", Cond.fieldLink RX7 43 "DataroomModel" "isRecalled" "[Z", Cond.fieldLink RX7 28 "DataroomModel" "who" "[I", Cond.fieldLink RX7 34 "DataroomModel" "bitOf" "[I", Cond.fieldLink RX7 31 "DataroomModel" "set" "[I", Cond.methodLink RX7 94 yX7_learn, Cond.instanceMethod yX7_learn, Cond.selects RX7 yX7_learn yX7_learn, Cond.code yX7_learn cX7_learn 3 (some .boolean), Cond.methodLink RX7 87 yX7_reduce, Cond.instanceMethod yX7_reduce, Cond.selects RX7 yX7_reduce yX7_reduce, Cond.code yX7_reduce cX7_reduce 4 (some .int), Cond.methodLink RX7 91 yX7_highest, Cond.static yX7_highest, Cond.code yX7_highest cX7_highest 3 (some .int)]
def wsX7_finds : List Cond := .code yX7_finds cX7_finds 3 (some .int) :: ((wsX7_finds_r1 ++ wsX7_finds_r2) ++ wsX70)
def wsX7_together_r1 : List Cond := [Cond.fieldLink RX7 64 "DataroomModel" "parties" "I", Cond.methodLink RX7 74 yX7_isFile, Cond.instanceMethod yX7_isFile, Cond.selects RX7 yX7_isFile yX7_isFile, Cond.initialized RX7, Cond.code yX7_isFile cX7_isFile 2 (some .boolean), Cond.fieldLink RX7 57 "DataroomModel" "files" "I", Cond.methodLink RX7 60 yX7_in, Cond.static yX7_in, Cond.code yX7_in cX7_in 3 (some .boolean), Cond.methodLink RX7 67 yX7_goesWell, Cond.instanceMethod yX7_goesWell, Cond.selects RX7 yX7_goesWell yX7_goesWell, Cond.code yX7_goesWell cX7_goesWell 2 (some .boolean), Cond.fieldLink RX7 53 "DataroomModel" "thrown" "I", Cond.methodLink RX7 127 yX7_findsBy, Cond.instanceMethod yX7_findsBy, Cond.selects RX7 yX7_findsBy yX7_findsBy, Cond.code yX7_findsBy cX7_findsBy 5 (some .int), Cond.methodLink RX7 97 yX7_know, Cond.instanceMethod yX7_know, Cond.selects RX7 yX7_know yX7_know, Cond.code yX7_know cX7_know 6 (some .int), Cond.fieldLink RX7 50 "DataroomModel" "rows" "[I"]
def wsX7_together_r2 : List Cond := [Cond.fieldLink RX7 71 "DataroomModel" "answers" "I", Cond.fieldLink RX7 43 "DataroomModel" "isRecalled" "[Z", Cond.fieldLink RX7 28 "DataroomModel" "who" "[I", Cond.fieldLink RX7 34 "DataroomModel" "bitOf" "[I", Cond.fieldLink RX7 31 "DataroomModel" "set" "[I", Cond.methodLink RX7 94 yX7_learn, Cond.instanceMethod yX7_learn, Cond.selects RX7 yX7_learn yX7_learn, Cond.code yX7_learn cX7_learn 3 (some .boolean), Cond.methodLink RX7 87 yX7_reduce, Cond.instanceMethod yX7_reduce, Cond.selects RX7 yX7_reduce yX7_reduce, Cond.code yX7_reduce cX7_reduce 4 (some .int), Cond.methodLink RX7 91 yX7_highest, Cond.static yX7_highest, Cond.code yX7_highest cX7_highest 3 (some .int)]
def wsX7_together : List Cond := .code yX7_together cX7_together 4 (some .int) :: ((wsX7_together_r1 ++ wsX7_together_r2) ++ wsX70)
def wsX7_rightTo_r1 : List Cond := [Cond.methodLink RX7 81 yX7_isParty, Cond.instanceMethod yX7_isParty, Cond.selects RX7 yX7_isParty yX7_isParty, Cond.initialized RX7, Cond.code yX7_isParty cX7_isParty 2 (some .boolean), Cond.fieldLink RX7 64 "DataroomModel" "parties" "I", Cond.methodLink RX7 60 yX7_in, Cond.static yX7_in, Cond.code yX7_in cX7_in 3 (some .boolean), Cond.methodLink RX7 74 yX7_isFile, Cond.instanceMethod yX7_isFile, Cond.selects RX7 yX7_isFile yX7_isFile, Cond.code yX7_isFile cX7_isFile 2 (some .boolean), Cond.fieldLink RX7 57 "DataroomModel" "files" "I", Cond.methodLink RX7 67 yX7_goesWell, Cond.instanceMethod yX7_goesWell, Cond.selects RX7 yX7_goesWell yX7_goesWell, Cond.code yX7_goesWell cX7_goesWell 2 (some .boolean), Cond.fieldLink RX7 53 "DataroomModel" "thrown" "I", Cond.methodLink RX7 108 yX7_rightOf, Cond.instanceMethod yX7_rightOf, Cond.selects RX7 yX7_rightOf yX7_rightOf, Cond.code yX7_rightOf cX7_rightOf 4 (some .int), Cond.fieldLink RX7 19 "DataroomModel" "right" "[I"]
def wsX7_rightTo_r2 : List Cond := [Cond.fieldLink RX7 84 "DataroomModel" "now" "I", Cond.fieldLink RX7 22 "DataroomModel" "from" "[I", Cond.fieldLink RX7 25 "DataroomModel" "to" "[I"]
def wsX7_rightTo : List Cond := .code yX7_rightTo cX7_rightTo 3 (some .int) :: ((wsX7_rightTo_r1 ++ wsX7_rightTo_r2) ++ wsX70)
def wsX7_isSealed : List Cond := .code yX7_isSealed cX7_isSealed 2 (some .boolean) :: ([.fieldLink RX7 13 "DataroomModel" "sealedTill" "[I", .fieldLink RX7 84 "DataroomModel" "now" "I", .methodLink RX7 74 yX7_isFile, .instanceMethod yX7_isFile, .selects RX7 yX7_isFile yX7_isFile, .initialized RX7, .code yX7_isFile cX7_isFile 2 (some .boolean), .fieldLink RX7 57 "DataroomModel" "files" "I", .methodLink RX7 60 yX7_in, .static yX7_in, .code yX7_in cX7_in 3 (some .boolean), .methodLink RX7 67 yX7_goesWell, .instanceMethod yX7_goesWell, .selects RX7 yX7_goesWell yX7_goesWell, .code yX7_goesWell cX7_goesWell 2 (some .boolean), .fieldLink RX7 53 "DataroomModel" "thrown" "I"] ++ wsX70)
def wsX7_count : List Cond := .code yX7_count cX7_count 6 (some .int) :: ([.fieldLink RX7 71 "DataroomModel" "answers" "I", .fieldLink RX7 28 "DataroomModel" "who" "[I", .fieldLink RX7 43 "DataroomModel" "isRecalled" "[Z", .fieldLink RX7 47 "DataroomModel" "counts" "[I", .methodLink RX7 81 yX7_isParty, .instanceMethod yX7_isParty, .selects RX7 yX7_isParty yX7_isParty, .initialized RX7, .code yX7_isParty cX7_isParty 2 (some .boolean), .fieldLink RX7 64 "DataroomModel" "parties" "I", .methodLink RX7 60 yX7_in, .static yX7_in, .code yX7_in cX7_in 3 (some .boolean), .methodLink RX7 67 yX7_goesWell, .instanceMethod yX7_goesWell, .selects RX7 yX7_goesWell yX7_goesWell, .code yX7_goesWell cX7_goesWell 2 (some .boolean), .fieldLink RX7 53 "DataroomModel" "thrown" "I"] ++ wsX70)
def wsJ9_max_7cf53 : List Cond := .code yJ9_max_7cf53 cJ9_max_7cf53 2 (some .int) :: ([])
def wsJ9_min_7cf53 : List Cond := .code yJ9_min_7cf53 cJ9_min_7cf53 2 (some .int) :: ([])
def wsL_file_r1 : List Cond := [Cond.classLink RL 13 "java/lang/IllegalArgumentException", Cond.classLink RL 15 "java/lang/IllegalStateException", Cond.methodLink RL 7 yX6_file, Cond.instanceMethod yX6_file, Cond.selects RX6 yX6_file yX6_file, Cond.initialized RX6, Cond.code yX6_file cX6_file 2 (some .int), Cond.classLink RX6 44 "java/lang/IllegalStateException", Cond.initialized "java/lang/IllegalStateException", Cond.fieldLink RX6 10 "Dataroom" "allFiles" "Ljava/util/ArrayList;", Cond.classLink RX6 51 RX1, Cond.instantiable RX1 2, Cond.initialized RX1, Cond.methodLink RX6 36 yX6_requireRange, Cond.static yX6_requireRange, Cond.code yX6_requireRange cX6_requireRange 3 none, Cond.classLink RX6 189 "java/lang/IllegalArgumentException", Cond.initialized "java/lang/IllegalArgumentException", Cond.methodLink RX6 40 yJx4a65c_size_8abf5, Cond.instanceMethod yJx4a65c_size_8abf5, Cond.selects RJx4a65c yJx4a65c_size_8abf5 yJx4a65c_size_8abf5, Cond.initialized RJx4a65c, Cond.code yJx4a65c_size_8abf5 cJx4a65c_size_8abf5 1 (some .int), Cond.fieldLink RJx4a65c 48 "java/util/ArrayList" "size" "I"]
def wsL_file_r2 : List Cond := [Cond.methodLink RX6 53 yX1_init, Cond.instanceMethod yX1_init, Cond.code yX1_init cX1_init 2 none, Cond.methodLink RX1 3 objectInit, Cond.instanceMethod objectInit, Cond.code objectInit ⟨#[0xb1]⟩ 1 none, Cond.fieldLink RX1 9 "Dataroom$Card" "sealedTill" "I", Cond.fieldLink RX1 15 "Dataroom$Card" "number" "I", Cond.methodLink RX6 56 yJx4a65c_add_9ea2d, Cond.instanceMethod yJx4a65c_add_9ea2d, Cond.selects RJx4a65c yJx4a65c_add_9ea2d yJx4a65c_add_9ea2d, Cond.code yJx4a65c_add_9ea2d cJx4a65c_add_9ea2d 2 (some .boolean), Cond.fieldLink RJx4a65c 63 "java/util/ArrayList" "modCount" "I", Cond.sameField "java/util/ArrayList" "java/util/AbstractList" "modCount" "I", Cond.fieldLink RJx4a65c 9 "java/util/ArrayList" "elementData" "[Ljava/lang/Object;", Cond.methodLink RJx4a65c 131 yJx4a65c_add_72be8, Cond.instanceMethod yJx4a65c_add_72be8, Cond.selects RJx4a65c yJx4a65c_add_72be8 yJx4a65c_add_72be8, Cond.code yJx4a65c_add_72be8 cJx4a65c_add_72be8 4 none, Cond.methodLink RJx4a65c 129 yJx4a65c_grow_d5877, Cond.instanceMethod yJx4a65c_grow_d5877, Cond.selects RJx4a65c yJx4a65c_grow_d5877 yJx4a65c_grow_d5877, Cond.code yJx4a65c_grow_d5877 cJx4a65c_grow_d5877 1 (some (.array (.object "java/lang/Object"))), Cond.methodLink RJx4a65c 69 yJx4a65c_grow_92f84]
def wsL_file_r3 : List Cond := [Cond.instanceMethod yJx4a65c_grow_92f84, Cond.selects RJx4a65c yJx4a65c_grow_92f84 yJx4a65c_grow_92f84, Cond.code yJx4a65c_grow_92f84 cJx4a65c_grow_92f84 4 (some (.array (.object "java/lang/Object"))), Cond.fieldLink RJx4a65c 39 "java/util/ArrayList" "DEFAULTCAPACITY_EMPTY_ELEMENTDATA" "[Ljava/lang/Object;", Cond.methodLink RJx4a65c 79 Lib.Math.max.name, Cond.static Lib.Math.max.name, Cond.initialized "java/lang/Math", Cond.code Lib.Math.max.name Lib.Math.max.code 2 (some .int), Cond.classLink RJx4a65c 7 "java/lang/Object", Cond.methodLink RJx4a65c 73 yJ8_newLength_cabcc, Cond.static yJ8_newLength_cabcc, Cond.initialized RJ8, Cond.code yJ8_newLength_cabcc cJ8_newLength_cabcc 4 (some .int), Cond.methodLink RJ8 194 Lib.Math.max.name, Cond.constant RJ8 200 (2147483639), Cond.methodLink RJ8 201 yJ8_hugeLength_7cf53, Cond.static yJ8_hugeLength_7cf53, Cond.code yJ8_hugeLength_7cf53 cJ8_hugeLength_7cf53 3 (some .int), Cond.methodLink RJx4a65c 66 yJ7_copyOf_1904c, Cond.static yJ7_copyOf_1904c, Cond.initialized RJ7, Cond.code yJ7_copyOf_1904c cJ7_copyOf_1904c 2 (some (.array (.object "java/lang/Object"))), Cond.methodLink RJ7 86 ⟨"java/lang/Object", "getClass", "()Ljava/lang/Class;"⟩, Cond.selects "[Ljava/lang/Object;" ⟨"java/lang/Object", "getClass", "()Ljava/lang/Class;"⟩ ⟨"java/lang/Object", "getClass", "()Ljava/lang/Class;"⟩]
def wsL_file_r4 : List Cond := [Cond.instanceMethod ⟨"java/lang/Object", "getClass", "()Ljava/lang/Class;"⟩, Cond.native ⟨"java/lang/Object", "getClass", "()Ljava/lang/Class;"⟩, Cond.methodLink RJ7 300 yJ7_copyOf_6403c, Cond.static yJ7_copyOf_6403c, Cond.code yJ7_copyOf_6403c cJ7_copyOf_6403c 4 (some (.array (.object "java/lang/Object"))), Cond.classLink RJ7 110 "[Ljava/lang/Object;", Cond.classLink RJ7 2 "java/lang/Object", Cond.methodLink RJ7 304 Lib.Math.min.name, Cond.static Lib.Math.min.name, Cond.code Lib.Math.min.name Lib.Math.min.code 2 (some .int), Cond.methodLink RJ7 150 arraycopyName, Cond.native arraycopyName, Cond.static arraycopyName, Cond.initialized "java/lang/System"]
def wsL_file : List Cond := .codeWith yL_file cL_file 4 (some .int) [(0, 9, 12, 13), (0, 9, 15, 15)] :: ((wsL_file_r1 ++ (wsL_file_r2 ++ (wsL_file_r3 ++ wsL_file_r4))) ++ wsX60 ++ wsX10 ++ wsJx4a65c0 ++ (vx_atS RX6 48 "java/lang/IllegalStateException" ["java/lang/RuntimeException", "java/lang/Exception"]).filter goodWord ++ (vx_atS RX6 193 "java/lang/IllegalArgumentException" ["java/lang/RuntimeException", "java/lang/Exception"]).filter goodWord)
def wsL_change_r1 : List Cond := [Cond.classLink RL 21 "java/lang/IndexOutOfBoundsException", Cond.classLink RL 13 "java/lang/IllegalArgumentException", Cond.methodLink RL 17 yX6_change, Cond.instanceMethod yX6_change, Cond.selects RX6 yX6_change yX6_change, Cond.initialized RX6, Cond.code yX6_change cX6_change 6 (some .int), Cond.fieldLink RX6 16 "Dataroom" "allParties" "Ljava/util/ArrayList;", Cond.classLink RX6 72 "Dataroom$Party", Cond.methodLink RX6 60 yX6_fileAt, Cond.instanceMethod yX6_fileAt, Cond.selects RX6 yX6_fileAt yX6_fileAt, Cond.code yX6_fileAt cX6_fileAt 2 (some (.object "Dataroom$Card")), Cond.fieldLink RX6 10 "Dataroom" "allFiles" "Ljava/util/ArrayList;", Cond.classLink RX6 51 "Dataroom$Card", Cond.methodLink RX6 90 yX6_requireFile, Cond.instanceMethod yX6_requireFile, Cond.selects RX6 yX6_requireFile yX6_requireFile, Cond.code yX6_requireFile cX6_requireFile 2 none, Cond.classLink RX6 143 "java/lang/IndexOutOfBoundsException", Cond.initialized "java/lang/IndexOutOfBoundsException", Cond.methodLink RX6 40 yJx4a65c_size_8abf5, Cond.instanceMethod yJx4a65c_size_8abf5, Cond.selects RJx4a65c yJx4a65c_size_8abf5 yJx4a65c_size_8abf5]
def wsL_change_r2 : List Cond := [Cond.initialized RJx4a65c, Cond.code yJx4a65c_size_8abf5 cJx4a65c_size_8abf5 1 (some .int), Cond.fieldLink RJx4a65c 48 "java/util/ArrayList" "size" "I", Cond.methodLink RX6 68 yJx4a65c_get_915e3, Cond.instanceMethod yJx4a65c_get_915e3, Cond.selects RJx4a65c yJx4a65c_get_915e3 yJx4a65c_get_915e3, Cond.code yJx4a65c_get_915e3 cJx4a65c_get_915e3 2 (some (.object "java/lang/Object")), Cond.methodLink RJx4a65c 118 yJ15_checkIndex_7cf53, Cond.static yJ15_checkIndex_7cf53, Cond.initialized RJ15, Cond.code yJ15_checkIndex_7cf53 cJ15_checkIndex_7cf53 2 (some .int), Cond.methodLink RJ15 105 yJ3_checkIndex_8e157, Cond.static yJ3_checkIndex_8e157, Cond.initialized RJ3, Cond.code yJ3_checkIndex_8e157 cJ3_checkIndex_8e157 3 (some .int), Cond.methodLink RJx4a65c 123 yJx4a65c_elementData_915e3, Cond.instanceMethod yJx4a65c_elementData_915e3, Cond.selects RJx4a65c yJx4a65c_elementData_915e3 yJx4a65c_elementData_915e3, Cond.code yJx4a65c_elementData_915e3 cJx4a65c_elementData_915e3 2 (some (.object "java/lang/Object")), Cond.fieldLink RJx4a65c 9 "java/util/ArrayList" "elementData" "[Ljava/lang/Object;", Cond.methodLink RX6 36 yX6_requireRange, Cond.static yX6_requireRange, Cond.code yX6_requireRange cX6_requireRange 3 none, Cond.classLink RX6 189 "java/lang/IllegalArgumentException"]
def wsL_change_r3 : List Cond := [Cond.initialized "java/lang/IllegalArgumentException", Cond.methodLink RX6 74 yX6_recall, Cond.instanceMethod yX6_recall, Cond.selects RX6 yX6_recall yX6_recall, Cond.code yX6_recall cX6_recall 6 (some .int), Cond.fieldLink RX6 19 "Dataroom" "allAnswers" "Ljava/util/ArrayList;", Cond.classLink RX6 129 "Dataroom$Answer", Cond.methodLink RX6 209 yX0_standsFor, Cond.instanceMethod yX0_standsFor, Cond.selects RX0 yX0_standsFor yX0_standsFor, Cond.initialized RX0, Cond.code yX0_standsFor cX0_standsFor 2 (some .boolean), Cond.fieldLink RX0 25 "Dataroom$Answer" "recalled" "Z", Cond.fieldLink RX0 7 "Dataroom$Answer" "party" "I", Cond.methodLink RX6 205 yX6_holds, Cond.static yX6_holds, Cond.code yX6_holds cX6_holds 2 (some .boolean), Cond.methodLink RX6 220 yX6_learnAnew, Cond.instanceMethod yX6_learnAnew, Cond.selects RX6 yX6_learnAnew yX6_learnAnew, Cond.code yX6_learnAnew cX6_learnAnew 4 none, Cond.methodLink RX6 224 yX4_forget, Cond.instanceMethod yX4_forget, Cond.selects RX4 yX4_forget yX4_forget]
def wsL_change_r4 : List Cond := [Cond.initialized RX4, Cond.code yX4_forget cX4_forget 2 none, Cond.fieldLink RX4 19 "Dataroom$Party" "known" "[LDataroom$Knowledge;", Cond.methodLink RX4 51 yX2_forget, Cond.instanceMethod yX2_forget, Cond.selects RX2 yX2_forget yX2_forget, Cond.initialized RX2, Cond.code yX2_forget cX2_forget 2 none, Cond.fieldLink RX2 9 "Dataroom$Knowledge" "rows" "[I", Cond.fieldLink RX2 15 "Dataroom$Knowledge" "learned" "I", Cond.methodLink RX6 137 yX4_learn, Cond.instanceMethod yX4_learn, Cond.selects RX4 yX4_learn yX4_learn, Cond.code yX4_learn cX4_learn 4 none, Cond.static yX6_covers, Cond.code yX6_covers cX6_covers 2 (some .boolean), Cond.methodLink RX4 47 yX2_learn, Cond.instanceMethod yX2_learn, Cond.selects RX2 yX2_learn yX2_learn, Cond.code yX2_learn cX2_learn 4 none]
def wsL_change : List Cond := .codeWith yL_change cL_change 5 (some .int) [(0, 10, 13, 21), (0, 10, 17, 13)] :: ((wsL_change_r1 ++ (wsL_change_r2 ++ (wsL_change_r3 ++ wsL_change_r4))) ++ wsX10 ++ wsX60 ++ wsJx4a65c0 ++ wsX00 ++ wsX40 ++ wsX20 ++ (vx_atS RX6 147 "java/lang/IndexOutOfBoundsException" ["java/lang/RuntimeException", "java/lang/Exception"]).filter goodWord ++ (vx_atS RX6 193 "java/lang/IllegalArgumentException" ["java/lang/RuntimeException", "java/lang/Exception"]).filter goodWord)
def wsL_party_r1 : List Cond := [Cond.classLink RL 13 "java/lang/IllegalArgumentException", Cond.classLink RL 15 "java/lang/IllegalStateException", Cond.methodLink RL 23 yX6_party, Cond.instanceMethod yX6_party, Cond.selects RX6 yX6_party yX6_party, Cond.initialized RX6, Cond.code yX6_party cX6_party 3 (some .int), Cond.classLink RX6 44 "java/lang/IllegalStateException", Cond.initialized "java/lang/IllegalStateException", Cond.fieldLink RX6 16 "Dataroom" "allParties" "Ljava/util/ArrayList;", Cond.classLink RX6 72 RX4, Cond.instantiable RX4 5, Cond.initialized RX4, Cond.methodLink RX6 36 yX6_requireRange, Cond.static yX6_requireRange, Cond.code yX6_requireRange cX6_requireRange 3 none, Cond.classLink RX6 189 "java/lang/IllegalArgumentException", Cond.initialized "java/lang/IllegalArgumentException", Cond.methodLink RX6 40 yJx4a65c_size_8abf5, Cond.instanceMethod yJx4a65c_size_8abf5, Cond.selects RJx4a65c yJx4a65c_size_8abf5 yJx4a65c_size_8abf5, Cond.initialized RJx4a65c, Cond.code yJx4a65c_size_8abf5 cJx4a65c_size_8abf5 1 (some .int), Cond.fieldLink RJx4a65c 48 "java/util/ArrayList" "size" "I"]
def wsL_party_r2 : List Cond := [Cond.methodLink RX6 80 yX4_init, Cond.instanceMethod yX4_init, Cond.code yX4_init cX4_init 4 none, Cond.methodLink RX4 3 objectInit, Cond.instanceMethod objectInit, Cond.code objectInit ⟨#[0xb1]⟩ 1 none, Cond.classLink RX4 9 RX5, Cond.fieldLink RX4 11 "Dataroom$Party" "rights" "[LDataroom$Right;", Cond.classLink RX4 17 RX2, Cond.fieldLink RX4 19 "Dataroom$Party" "known" "[LDataroom$Knowledge;", Cond.arrayClass .int, Cond.fieldLink RX4 23 "Dataroom$Party" "fared" "[I", Cond.fieldLink RX4 27 "Dataroom$Party" "place" "I", Cond.fieldLink RX4 31 "Dataroom$Party" "budget" "I", Cond.instantiable RX2 2, Cond.initialized RX2, Cond.instanceMethod yX2_init, Cond.code yX2_init cX2_init 1 none, Cond.methodLink RX2 3 objectInit, Cond.fieldLink RX2 9 "Dataroom$Knowledge" "rows" "[I", Cond.methodLink RX6 56 yJx4a65c_add_9ea2d, Cond.instanceMethod yJx4a65c_add_9ea2d, Cond.selects RJx4a65c yJx4a65c_add_9ea2d yJx4a65c_add_9ea2d, Cond.code yJx4a65c_add_9ea2d cJx4a65c_add_9ea2d 2 (some .boolean)]
def wsL_party_r3 : List Cond := [Cond.fieldLink RJx4a65c 63 "java/util/ArrayList" "modCount" "I", Cond.sameField "java/util/ArrayList" "java/util/AbstractList" "modCount" "I", Cond.fieldLink RJx4a65c 9 "java/util/ArrayList" "elementData" "[Ljava/lang/Object;", Cond.methodLink RJx4a65c 131 yJx4a65c_add_72be8, Cond.instanceMethod yJx4a65c_add_72be8, Cond.selects RJx4a65c yJx4a65c_add_72be8 yJx4a65c_add_72be8, Cond.code yJx4a65c_add_72be8 cJx4a65c_add_72be8 4 none, Cond.methodLink RJx4a65c 129 yJx4a65c_grow_d5877, Cond.instanceMethod yJx4a65c_grow_d5877, Cond.selects RJx4a65c yJx4a65c_grow_d5877 yJx4a65c_grow_d5877, Cond.code yJx4a65c_grow_d5877 cJx4a65c_grow_d5877 1 (some (.array (.object "java/lang/Object"))), Cond.methodLink RJx4a65c 69 yJx4a65c_grow_92f84, Cond.instanceMethod yJx4a65c_grow_92f84, Cond.selects RJx4a65c yJx4a65c_grow_92f84 yJx4a65c_grow_92f84, Cond.code yJx4a65c_grow_92f84 cJx4a65c_grow_92f84 4 (some (.array (.object "java/lang/Object"))), Cond.fieldLink RJx4a65c 39 "java/util/ArrayList" "DEFAULTCAPACITY_EMPTY_ELEMENTDATA" "[Ljava/lang/Object;", Cond.methodLink RJx4a65c 79 Lib.Math.max.name, Cond.static Lib.Math.max.name, Cond.initialized "java/lang/Math", Cond.code Lib.Math.max.name Lib.Math.max.code 2 (some .int), Cond.classLink RJx4a65c 7 "java/lang/Object", Cond.methodLink RJx4a65c 73 yJ8_newLength_cabcc, Cond.static yJ8_newLength_cabcc, Cond.initialized RJ8]
def wsL_party_r4 : List Cond := [Cond.code yJ8_newLength_cabcc cJ8_newLength_cabcc 4 (some .int), Cond.methodLink RJ8 194 Lib.Math.max.name, Cond.constant RJ8 200 (2147483639), Cond.methodLink RJ8 201 yJ8_hugeLength_7cf53, Cond.static yJ8_hugeLength_7cf53, Cond.code yJ8_hugeLength_7cf53 cJ8_hugeLength_7cf53 3 (some .int), Cond.methodLink RJx4a65c 66 yJ7_copyOf_1904c, Cond.static yJ7_copyOf_1904c, Cond.initialized RJ7, Cond.code yJ7_copyOf_1904c cJ7_copyOf_1904c 2 (some (.array (.object "java/lang/Object"))), Cond.methodLink RJ7 86 ⟨"java/lang/Object", "getClass", "()Ljava/lang/Class;"⟩, Cond.selects "[Ljava/lang/Object;" ⟨"java/lang/Object", "getClass", "()Ljava/lang/Class;"⟩ ⟨"java/lang/Object", "getClass", "()Ljava/lang/Class;"⟩, Cond.instanceMethod ⟨"java/lang/Object", "getClass", "()Ljava/lang/Class;"⟩, Cond.native ⟨"java/lang/Object", "getClass", "()Ljava/lang/Class;"⟩, Cond.methodLink RJ7 300 yJ7_copyOf_6403c, Cond.static yJ7_copyOf_6403c, Cond.code yJ7_copyOf_6403c cJ7_copyOf_6403c 4 (some (.array (.object "java/lang/Object"))), Cond.classLink RJ7 110 "[Ljava/lang/Object;", Cond.classLink RJ7 2 "java/lang/Object", Cond.methodLink RJ7 304 Lib.Math.min.name, Cond.static Lib.Math.min.name, Cond.code Lib.Math.min.name Lib.Math.min.code 2 (some .int), Cond.methodLink RJ7 150 arraycopyName, Cond.native arraycopyName]
def wsL_party_r5 : List Cond := [Cond.static arraycopyName, Cond.initialized "java/lang/System"]
def wsL_party : List Cond := .codeWith yL_party cL_party 4 (some .int) [(0, 9, 12, 13), (0, 9, 15, 15)] :: ((wsL_party_r1 ++ (wsL_party_r2 ++ (wsL_party_r3 ++ (wsL_party_r4 ++ wsL_party_r5)))) ++ wsX60 ++ wsX40 ++ wsJx4a65c0 ++ wsX20 ++ (vx_atS RX6 48 "java/lang/IllegalStateException" ["java/lang/RuntimeException", "java/lang/Exception"]).filter goodWord ++ (vx_atS RX6 193 "java/lang/IllegalArgumentException" ["java/lang/RuntimeException", "java/lang/Exception"]).filter goodWord)
def wsL_budget_r1 : List Cond := [Cond.classLink RL 21 "java/lang/IndexOutOfBoundsException", Cond.classLink RL 13 "java/lang/IllegalArgumentException", Cond.methodLink RL 26 yX6_budget, Cond.instanceMethod yX6_budget, Cond.selects RX6 yX6_budget yX6_budget, Cond.initialized RX6, Cond.code yX6_budget cX6_budget 5 (some .int), Cond.methodLink RX6 83 yX6_partyAt, Cond.instanceMethod yX6_partyAt, Cond.selects RX6 yX6_partyAt yX6_partyAt, Cond.code yX6_partyAt cX6_partyAt 2 (some (.object "Dataroom$Party")), Cond.classLink RX6 143 "java/lang/IndexOutOfBoundsException", Cond.initialized "java/lang/IndexOutOfBoundsException", Cond.fieldLink RX6 16 "Dataroom" "allParties" "Ljava/util/ArrayList;", Cond.classLink RX6 72 "Dataroom$Party", Cond.methodLink RX6 40 yJx4a65c_size_8abf5, Cond.instanceMethod yJx4a65c_size_8abf5, Cond.selects RJx4a65c yJx4a65c_size_8abf5 yJx4a65c_size_8abf5, Cond.initialized RJx4a65c, Cond.code yJx4a65c_size_8abf5 cJx4a65c_size_8abf5 1 (some .int), Cond.fieldLink RJx4a65c 48 "java/util/ArrayList" "size" "I", Cond.methodLink RX6 68 yJx4a65c_get_915e3, Cond.instanceMethod yJx4a65c_get_915e3, Cond.selects RJx4a65c yJx4a65c_get_915e3 yJx4a65c_get_915e3]
def wsL_budget_r2 : List Cond := [Cond.code yJx4a65c_get_915e3 cJx4a65c_get_915e3 2 (some (.object "java/lang/Object")), Cond.methodLink RJx4a65c 118 yJ15_checkIndex_7cf53, Cond.static yJ15_checkIndex_7cf53, Cond.initialized RJ15, Cond.code yJ15_checkIndex_7cf53 cJ15_checkIndex_7cf53 2 (some .int), Cond.methodLink RJ15 105 yJ3_checkIndex_8e157, Cond.static yJ3_checkIndex_8e157, Cond.initialized RJ3, Cond.code yJ3_checkIndex_8e157 cJ3_checkIndex_8e157 3 (some .int), Cond.methodLink RJx4a65c 123 yJx4a65c_elementData_915e3, Cond.instanceMethod yJx4a65c_elementData_915e3, Cond.selects RJx4a65c yJx4a65c_elementData_915e3 yJx4a65c_elementData_915e3, Cond.code yJx4a65c_elementData_915e3 cJx4a65c_elementData_915e3 2 (some (.object "java/lang/Object")), Cond.fieldLink RJx4a65c 9 "java/util/ArrayList" "elementData" "[Ljava/lang/Object;", Cond.methodLink RX6 36 yX6_requireRange, Cond.static yX6_requireRange, Cond.code yX6_requireRange cX6_requireRange 3 none, Cond.classLink RX6 189 "java/lang/IllegalArgumentException", Cond.initialized "java/lang/IllegalArgumentException"]
def wsL_budget : List Cond := .codeWith yL_budget cL_budget 5 (some .int) [(0, 10, 13, 21), (0, 10, 17, 13)] :: ((wsL_budget_r1 ++ wsL_budget_r2) ++ wsX40 ++ wsX60 ++ wsJx4a65c0 ++ (vx_atS RX6 147 "java/lang/IndexOutOfBoundsException" ["java/lang/RuntimeException", "java/lang/Exception"]).filter goodWord ++ (vx_atS RX6 193 "java/lang/IllegalArgumentException" ["java/lang/RuntimeException", "java/lang/Exception"]).filter goodWord)
def wsL_right_r1 : List Cond := [Cond.classLink RL 21 "java/lang/IndexOutOfBoundsException", Cond.classLink RL 13 "java/lang/IllegalArgumentException", Cond.methodLink RL 29 yX6_right, Cond.instanceMethod yX6_right, Cond.selects RX6 yX6_right yX6_right, Cond.initialized RX6, Cond.code yX6_right cX6_right 7 none, Cond.classLink RX6 93 RX5, Cond.instantiable RX5 3, Cond.initialized RX5, Cond.methodLink RX6 83 yX6_partyAt, Cond.instanceMethod yX6_partyAt, Cond.selects RX6 yX6_partyAt yX6_partyAt, Cond.code yX6_partyAt cX6_partyAt 2 (some (.object "Dataroom$Party")), Cond.classLink RX6 143 "java/lang/IndexOutOfBoundsException", Cond.initialized "java/lang/IndexOutOfBoundsException", Cond.fieldLink RX6 16 "Dataroom" "allParties" "Ljava/util/ArrayList;", Cond.classLink RX6 72 "Dataroom$Party", Cond.methodLink RX6 40 yJx4a65c_size_8abf5, Cond.instanceMethod yJx4a65c_size_8abf5, Cond.selects RJx4a65c yJx4a65c_size_8abf5 yJx4a65c_size_8abf5, Cond.initialized RJx4a65c, Cond.code yJx4a65c_size_8abf5 cJx4a65c_size_8abf5 1 (some .int), Cond.fieldLink RJx4a65c 48 "java/util/ArrayList" "size" "I"]
def wsL_right_r2 : List Cond := [Cond.methodLink RX6 68 yJx4a65c_get_915e3, Cond.instanceMethod yJx4a65c_get_915e3, Cond.selects RJx4a65c yJx4a65c_get_915e3 yJx4a65c_get_915e3, Cond.code yJx4a65c_get_915e3 cJx4a65c_get_915e3 2 (some (.object "java/lang/Object")), Cond.methodLink RJx4a65c 118 yJ15_checkIndex_7cf53, Cond.static yJ15_checkIndex_7cf53, Cond.initialized RJ15, Cond.code yJ15_checkIndex_7cf53 cJ15_checkIndex_7cf53 2 (some .int), Cond.methodLink RJ15 105 yJ3_checkIndex_8e157, Cond.static yJ3_checkIndex_8e157, Cond.initialized RJ3, Cond.code yJ3_checkIndex_8e157 cJ3_checkIndex_8e157 3 (some .int), Cond.methodLink RJx4a65c 123 yJx4a65c_elementData_915e3, Cond.instanceMethod yJx4a65c_elementData_915e3, Cond.selects RJx4a65c yJx4a65c_elementData_915e3 yJx4a65c_elementData_915e3, Cond.code yJx4a65c_elementData_915e3 cJx4a65c_elementData_915e3 2 (some (.object "java/lang/Object")), Cond.fieldLink RJx4a65c 9 "java/util/ArrayList" "elementData" "[Ljava/lang/Object;", Cond.methodLink RX6 90 yX6_requireFile, Cond.instanceMethod yX6_requireFile, Cond.selects RX6 yX6_requireFile yX6_requireFile, Cond.code yX6_requireFile cX6_requireFile 2 none, Cond.fieldLink RX6 10 "Dataroom" "allFiles" "Ljava/util/ArrayList;", Cond.methodLink RX6 36 yX6_requireRange, Cond.static yX6_requireRange]
def wsL_right_r3 : List Cond := [Cond.code yX6_requireRange cX6_requireRange 3 none, Cond.classLink RX6 189 "java/lang/IllegalArgumentException", Cond.initialized "java/lang/IllegalArgumentException", Cond.methodLink RX6 95 yX5_init, Cond.instanceMethod yX5_init, Cond.code yX5_init cX5_init 4 none, Cond.methodLink RX5 3 objectInit, Cond.instanceMethod objectInit, Cond.code objectInit ⟨#[0xb1]⟩ 1 none, Cond.fieldLink RX5 9 "Dataroom$Right" "kind" "I", Cond.fieldLink RX5 15 "Dataroom$Right" "from" "I", Cond.fieldLink RX5 18 "Dataroom$Right" "to" "I", Cond.methodLink RX6 97 yX4_setRight, Cond.instanceMethod yX4_setRight, Cond.selects RX4 yX4_setRight yX4_setRight, Cond.initialized RX4, Cond.code yX4_setRight cX4_setRight 3 none, Cond.fieldLink RX4 11 "Dataroom$Party" "rights" "[LDataroom$Right;"]
def wsL_right : List Cond := .codeWith yL_right cL_right 7 (some .int) [(0, 11, 14, 21), (0, 11, 18, 13)] :: ((wsL_right_r1 ++ (wsL_right_r2 ++ wsL_right_r3)) ++ wsX50 ++ wsX60 ++ wsJx4a65c0 ++ wsX40 ++ (vx_atS RX6 147 "java/lang/IndexOutOfBoundsException" ["java/lang/RuntimeException", "java/lang/Exception"]).filter goodWord ++ (vx_atS RX6 193 "java/lang/IllegalArgumentException" ["java/lang/RuntimeException", "java/lang/Exception"]).filter goodWord)
def wsL_takeBack_r1 : List Cond := [Cond.classLink RL 21 "java/lang/IndexOutOfBoundsException", Cond.methodLink RL 33 yX6_takeBack, Cond.instanceMethod yX6_takeBack, Cond.selects RX6 yX6_takeBack yX6_takeBack, Cond.initialized RX6, Cond.code yX6_takeBack cX6_takeBack 4 (some .int), Cond.methodLink RX6 83 yX6_partyAt, Cond.instanceMethod yX6_partyAt, Cond.selects RX6 yX6_partyAt yX6_partyAt, Cond.code yX6_partyAt cX6_partyAt 2 (some (.object "Dataroom$Party")), Cond.classLink RX6 143 "java/lang/IndexOutOfBoundsException", Cond.initialized "java/lang/IndexOutOfBoundsException", Cond.fieldLink RX6 16 "Dataroom" "allParties" "Ljava/util/ArrayList;", Cond.classLink RX6 72 "Dataroom$Party", Cond.methodLink RX6 40 yJx4a65c_size_8abf5, Cond.instanceMethod yJx4a65c_size_8abf5, Cond.selects RJx4a65c yJx4a65c_size_8abf5 yJx4a65c_size_8abf5, Cond.initialized RJx4a65c, Cond.code yJx4a65c_size_8abf5 cJx4a65c_size_8abf5 1 (some .int), Cond.fieldLink RJx4a65c 48 "java/util/ArrayList" "size" "I", Cond.methodLink RX6 68 yJx4a65c_get_915e3, Cond.instanceMethod yJx4a65c_get_915e3, Cond.selects RJx4a65c yJx4a65c_get_915e3 yJx4a65c_get_915e3, Cond.code yJx4a65c_get_915e3 cJx4a65c_get_915e3 2 (some (.object "java/lang/Object"))]
def wsL_takeBack_r2 : List Cond := [Cond.methodLink RJx4a65c 118 yJ15_checkIndex_7cf53, Cond.static yJ15_checkIndex_7cf53, Cond.initialized RJ15, Cond.code yJ15_checkIndex_7cf53 cJ15_checkIndex_7cf53 2 (some .int), Cond.methodLink RJ15 105 yJ3_checkIndex_8e157, Cond.static yJ3_checkIndex_8e157, Cond.initialized RJ3, Cond.code yJ3_checkIndex_8e157 cJ3_checkIndex_8e157 3 (some .int), Cond.methodLink RJx4a65c 123 yJx4a65c_elementData_915e3, Cond.instanceMethod yJx4a65c_elementData_915e3, Cond.selects RJx4a65c yJx4a65c_elementData_915e3 yJx4a65c_elementData_915e3, Cond.code yJx4a65c_elementData_915e3 cJx4a65c_elementData_915e3 2 (some (.object "java/lang/Object")), Cond.fieldLink RJx4a65c 9 "java/util/ArrayList" "elementData" "[Ljava/lang/Object;", Cond.methodLink RX6 90 yX6_requireFile, Cond.instanceMethod yX6_requireFile, Cond.selects RX6 yX6_requireFile yX6_requireFile, Cond.code yX6_requireFile cX6_requireFile 2 none, Cond.fieldLink RX6 10 "Dataroom" "allFiles" "Ljava/util/ArrayList;", Cond.methodLink RX6 101 yX4_rightFor, Cond.instanceMethod yX4_rightFor, Cond.selects RX4 yX4_rightFor yX4_rightFor, Cond.initialized RX4, Cond.code yX4_rightFor cX4_rightFor 2 (some (.object "Dataroom$Right")), Cond.fieldLink RX4 11 "Dataroom$Party" "rights" "[LDataroom$Right;"]
def wsL_takeBack_r3 : List Cond := [Cond.methodLink RX6 97 yX4_setRight, Cond.instanceMethod yX4_setRight, Cond.selects RX4 yX4_setRight yX4_setRight, Cond.code yX4_setRight cX4_setRight 3 none, Cond.methodLink RX6 74 yX6_recall, Cond.instanceMethod yX6_recall, Cond.selects RX6 yX6_recall yX6_recall, Cond.code yX6_recall cX6_recall 6 (some .int), Cond.fieldLink RX6 19 "Dataroom" "allAnswers" "Ljava/util/ArrayList;", Cond.classLink RX6 129 "Dataroom$Answer", Cond.methodLink RX6 209 yX0_standsFor, Cond.instanceMethod yX0_standsFor, Cond.selects RX0 yX0_standsFor yX0_standsFor, Cond.initialized RX0, Cond.code yX0_standsFor cX0_standsFor 2 (some .boolean), Cond.fieldLink RX0 25 "Dataroom$Answer" "recalled" "Z", Cond.fieldLink RX0 7 "Dataroom$Answer" "party" "I", Cond.methodLink RX6 205 yX6_holds, Cond.static yX6_holds, Cond.code yX6_holds cX6_holds 2 (some .boolean), Cond.methodLink RX6 220 yX6_learnAnew, Cond.instanceMethod yX6_learnAnew, Cond.selects RX6 yX6_learnAnew yX6_learnAnew, Cond.code yX6_learnAnew cX6_learnAnew 4 none]
def wsL_takeBack_r4 : List Cond := [Cond.methodLink RX6 224 yX4_forget, Cond.instanceMethod yX4_forget, Cond.selects RX4 yX4_forget yX4_forget, Cond.code yX4_forget cX4_forget 2 none, Cond.fieldLink RX4 19 "Dataroom$Party" "known" "[LDataroom$Knowledge;", Cond.methodLink RX4 51 yX2_forget, Cond.instanceMethod yX2_forget, Cond.selects RX2 yX2_forget yX2_forget, Cond.initialized RX2, Cond.code yX2_forget cX2_forget 2 none, Cond.fieldLink RX2 9 "Dataroom$Knowledge" "rows" "[I", Cond.fieldLink RX2 15 "Dataroom$Knowledge" "learned" "I", Cond.methodLink RX6 137 yX4_learn, Cond.instanceMethod yX4_learn, Cond.selects RX4 yX4_learn yX4_learn, Cond.code yX4_learn cX4_learn 4 none, Cond.static yX6_covers, Cond.code yX6_covers cX6_covers 2 (some .boolean), Cond.methodLink RX4 47 yX2_learn, Cond.instanceMethod yX2_learn, Cond.selects RX2 yX2_learn yX2_learn, Cond.code yX2_learn cX2_learn 4 none]
def wsL_takeBack : List Cond := .codeWith yL_takeBack cL_takeBack 5 (some .int) [(0, 10, 13, 21)] :: ((wsL_takeBack_r1 ++ (wsL_takeBack_r2 ++ (wsL_takeBack_r3 ++ wsL_takeBack_r4))) ++ wsX60 ++ wsJx4a65c0 ++ wsX40 ++ wsX00 ++ wsX20 ++ (vx_atS RX6 147 "java/lang/IndexOutOfBoundsException" ["java/lang/RuntimeException", "java/lang/Exception"]).filter goodWord)
def wsL_seal_r1 : List Cond := [Cond.classLink RL 21 "java/lang/IndexOutOfBoundsException", Cond.classLink RL 13 "java/lang/IllegalArgumentException", Cond.methodLink RL 36 yX6_seal, Cond.instanceMethod yX6_seal, Cond.selects RX6 yX6_seal yX6_seal, Cond.initialized RX6, Cond.code yX6_seal cX6_seal 4 none, Cond.methodLink RX6 60 yX6_fileAt, Cond.instanceMethod yX6_fileAt, Cond.selects RX6 yX6_fileAt yX6_fileAt, Cond.code yX6_fileAt cX6_fileAt 2 (some (.object "Dataroom$Card")), Cond.fieldLink RX6 10 "Dataroom" "allFiles" "Ljava/util/ArrayList;", Cond.classLink RX6 51 "Dataroom$Card", Cond.methodLink RX6 90 yX6_requireFile, Cond.instanceMethod yX6_requireFile, Cond.selects RX6 yX6_requireFile yX6_requireFile, Cond.code yX6_requireFile cX6_requireFile 2 none, Cond.classLink RX6 143 "java/lang/IndexOutOfBoundsException", Cond.initialized "java/lang/IndexOutOfBoundsException", Cond.methodLink RX6 40 yJx4a65c_size_8abf5, Cond.instanceMethod yJx4a65c_size_8abf5, Cond.selects RJx4a65c yJx4a65c_size_8abf5 yJx4a65c_size_8abf5, Cond.initialized RJx4a65c, Cond.code yJx4a65c_size_8abf5 cJx4a65c_size_8abf5 1 (some .int)]
def wsL_seal_r2 : List Cond := [Cond.fieldLink RJx4a65c 48 "java/util/ArrayList" "size" "I", Cond.methodLink RX6 68 yJx4a65c_get_915e3, Cond.instanceMethod yJx4a65c_get_915e3, Cond.selects RJx4a65c yJx4a65c_get_915e3 yJx4a65c_get_915e3, Cond.code yJx4a65c_get_915e3 cJx4a65c_get_915e3 2 (some (.object "java/lang/Object")), Cond.methodLink RJx4a65c 118 yJ15_checkIndex_7cf53, Cond.static yJ15_checkIndex_7cf53, Cond.initialized RJ15, Cond.code yJ15_checkIndex_7cf53 cJ15_checkIndex_7cf53 2 (some .int), Cond.methodLink RJ15 105 yJ3_checkIndex_8e157, Cond.static yJ3_checkIndex_8e157, Cond.initialized RJ3, Cond.code yJ3_checkIndex_8e157 cJ3_checkIndex_8e157 3 (some .int), Cond.methodLink RJx4a65c 123 yJx4a65c_elementData_915e3, Cond.instanceMethod yJx4a65c_elementData_915e3, Cond.selects RJx4a65c yJx4a65c_elementData_915e3 yJx4a65c_elementData_915e3, Cond.code yJx4a65c_elementData_915e3 cJx4a65c_elementData_915e3 2 (some (.object "java/lang/Object")), Cond.fieldLink RJx4a65c 9 "java/util/ArrayList" "elementData" "[Ljava/lang/Object;", Cond.methodLink RX6 36 yX6_requireRange, Cond.static yX6_requireRange, Cond.code yX6_requireRange cX6_requireRange 3 none, Cond.classLink RX6 189 "java/lang/IllegalArgumentException", Cond.initialized "java/lang/IllegalArgumentException"]
def wsL_seal : List Cond := .codeWith yL_seal cL_seal 4 (some .int) [(0, 6, 9, 21), (0, 6, 12, 13)] :: ((wsL_seal_r1 ++ wsL_seal_r2) ++ wsX10 ++ wsX60 ++ wsJx4a65c0 ++ (vx_atS RX6 147 "java/lang/IndexOutOfBoundsException" ["java/lang/RuntimeException", "java/lang/Exception"]).filter goodWord ++ (vx_atS RX6 193 "java/lang/IllegalArgumentException" ["java/lang/RuntimeException", "java/lang/Exception"]).filter goodWord)
def wsL_pass : List Cond := .codeWith yL_pass cL_pass 4 (some .int) [(0, 9, 12, 13), (0, 9, 15, 15)] :: ([.classLink RL 13 "java/lang/IllegalArgumentException", .classLink RL 15 "java/lang/IllegalStateException", .methodLink RL 40 yX6_pass, .instanceMethod yX6_pass, .selects RX6 yX6_pass yX6_pass, .initialized RX6, .code yX6_pass cX6_pass 2 (some .int), .classLink RX6 44 "java/lang/IllegalStateException", .initialized "java/lang/IllegalStateException", .fieldLink RX6 108 "Dataroom" "now" "I", .methodLink RX6 36 yX6_requireRange, .static yX6_requireRange, .code yX6_requireRange cX6_requireRange 3 none, .classLink RX6 189 "java/lang/IllegalArgumentException", .initialized "java/lang/IllegalArgumentException"] ++ wsX60 ++ (vx_atS RX6 48 "java/lang/IllegalStateException" ["java/lang/RuntimeException", "java/lang/Exception"]).filter goodWord ++ (vx_atS RX6 193 "java/lang/IllegalArgumentException" ["java/lang/RuntimeException", "java/lang/Exception"]).filter goodWord)
def wsL_ask_r1 : List Cond := [Cond.classLink RL 21 "java/lang/IndexOutOfBoundsException", Cond.classLink RL 13 "java/lang/IllegalArgumentException", Cond.classLink RL 15 "java/lang/IllegalStateException", Cond.methodLink RL 43 yX6_ask, Cond.instanceMethod yX6_ask, Cond.selects RX6 yX6_ask yX6_ask, Cond.initialized RX6, Cond.code yX6_ask cX6_ask 7 (some .int), Cond.classLink RX6 44 "java/lang/IllegalStateException", Cond.initialized "java/lang/IllegalStateException", Cond.fieldLink RX6 19 "Dataroom" "allAnswers" "Ljava/util/ArrayList;", Cond.classLink RX6 129 RX0, Cond.instantiable RX0 6, Cond.initialized RX0, Cond.fieldLink RX6 108 "Dataroom" "now" "I", Cond.methodLink RX6 83 yX6_partyAt, Cond.instanceMethod yX6_partyAt, Cond.selects RX6 yX6_partyAt yX6_partyAt, Cond.code yX6_partyAt cX6_partyAt 2 (some (.object "Dataroom$Party")), Cond.classLink RX6 143 "java/lang/IndexOutOfBoundsException", Cond.initialized "java/lang/IndexOutOfBoundsException", Cond.fieldLink RX6 16 "Dataroom" "allParties" "Ljava/util/ArrayList;", Cond.classLink RX6 72 "Dataroom$Party", Cond.methodLink RX6 40 yJx4a65c_size_8abf5]
def wsL_ask_r2 : List Cond := [Cond.instanceMethod yJx4a65c_size_8abf5, Cond.selects RJx4a65c yJx4a65c_size_8abf5 yJx4a65c_size_8abf5, Cond.initialized RJx4a65c, Cond.code yJx4a65c_size_8abf5 cJx4a65c_size_8abf5 1 (some .int), Cond.fieldLink RJx4a65c 48 "java/util/ArrayList" "size" "I", Cond.methodLink RX6 68 yJx4a65c_get_915e3, Cond.instanceMethod yJx4a65c_get_915e3, Cond.selects RJx4a65c yJx4a65c_get_915e3 yJx4a65c_get_915e3, Cond.code yJx4a65c_get_915e3 cJx4a65c_get_915e3 2 (some (.object "java/lang/Object")), Cond.methodLink RJx4a65c 118 yJ15_checkIndex_7cf53, Cond.static yJ15_checkIndex_7cf53, Cond.initialized RJ15, Cond.code yJ15_checkIndex_7cf53 cJ15_checkIndex_7cf53 2 (some .int), Cond.methodLink RJ15 105 yJ3_checkIndex_8e157, Cond.static yJ3_checkIndex_8e157, Cond.initialized RJ3, Cond.code yJ3_checkIndex_8e157 cJ3_checkIndex_8e157 3 (some .int), Cond.methodLink RJx4a65c 123 yJx4a65c_elementData_915e3, Cond.instanceMethod yJx4a65c_elementData_915e3, Cond.selects RJx4a65c yJx4a65c_elementData_915e3 yJx4a65c_elementData_915e3, Cond.code yJx4a65c_elementData_915e3 cJx4a65c_elementData_915e3 2 (some (.object "java/lang/Object")), Cond.fieldLink RJx4a65c 9 "java/util/ArrayList" "elementData" "[Ljava/lang/Object;", Cond.methodLink RX6 113 yX6_requireQuestion, Cond.instanceMethod yX6_requireQuestion]
def wsL_ask_r3 : List Cond := [Cond.selects RX6 yX6_requireQuestion yX6_requireQuestion, Cond.code yX6_requireQuestion cX6_requireQuestion 3 none, Cond.fieldLink RX6 10 "Dataroom" "allFiles" "Ljava/util/ArrayList;", Cond.methodLink RX6 36 yX6_requireRange, Cond.static yX6_requireRange, Cond.code yX6_requireRange cX6_requireRange 3 none, Cond.classLink RX6 189 "java/lang/IllegalArgumentException", Cond.initialized "java/lang/IllegalArgumentException", Cond.methodLink RX6 118 yX6_refusalOf, Cond.instanceMethod yX6_refusalOf, Cond.selects RX6 yX6_refusalOf yX6_refusalOf, Cond.code yX6_refusalOf cX6_refusalOf 4 (some .int), Cond.methodLink RX6 194 yX6_lacksRight, Cond.instanceMethod yX6_lacksRight, Cond.selects RX6 yX6_lacksRight yX6_lacksRight, Cond.code yX6_lacksRight cX6_lacksRight 4 (some .boolean), Cond.methodLink RX6 205 yX6_holds, Cond.static yX6_holds, Cond.code yX6_holds cX6_holds 2 (some .boolean), Cond.methodLink RX6 172 yX4_rightIn, Cond.instanceMethod yX4_rightIn, Cond.selects RX4 yX4_rightIn yX4_rightIn, Cond.initialized RX4, Cond.code yX4_rightIn cX4_rightIn 4 (some .int)]
def wsL_ask_r4 : List Cond := [Cond.methodLink RX4 35 yX4_rightFor, Cond.instanceMethod yX4_rightFor, Cond.selects RX4 yX4_rightFor yX4_rightFor, Cond.code yX4_rightFor cX4_rightFor 2 (some (.object "Dataroom$Right")), Cond.fieldLink RX4 11 "Dataroom$Party" "rights" "[LDataroom$Right;", Cond.methodLink RX4 39 yX5_in, Cond.instanceMethod yX5_in, Cond.selects RX5 yX5_in yX5_in, Cond.initialized RX5, Cond.code yX5_in cX5_in 2 (some .int), Cond.fieldLink RX5 15 "Dataroom$Right" "from" "I", Cond.fieldLink RX5 18 "Dataroom$Right" "to" "I", Cond.fieldLink RX5 9 "Dataroom$Right" "kind" "I", Cond.methodLink RX6 198 yX6_hasSealed, Cond.instanceMethod yX6_hasSealed, Cond.selects RX6 yX6_hasSealed yX6_hasSealed, Cond.code yX6_hasSealed cX6_hasSealed 3 (some .boolean), Cond.classLink RX6 51 "Dataroom$Card", Cond.methodLink RX6 175 yX1_isClosedIn, Cond.instanceMethod yX1_isClosedIn, Cond.selects RX1 yX1_isClosedIn yX1_isClosedIn, Cond.initialized RX1, Cond.code yX1_isClosedIn cX1_isClosedIn 2 (some .boolean), Cond.fieldLink RX1 9 "Dataroom$Card" "sealedTill" "I"]
def wsL_ask_r5 : List Cond := [Cond.methodLink RX6 201 yX4_wouldFindUnread, Cond.instanceMethod yX4_wouldFindUnread, Cond.selects RX4 yX4_wouldFindUnread yX4_wouldFindUnread, Cond.code yX4_wouldFindUnread cX4_wouldFindUnread 5 (some .boolean), Cond.methodLink RX4 61 yX4_rightIn, Cond.methodLink RX4 65 yX4_wouldFind, Cond.instanceMethod yX4_wouldFind, Cond.selects RX4 yX4_wouldFind yX4_wouldFind, Cond.code yX4_wouldFind cX4_wouldFind 5 (some .boolean), Cond.fieldLink RX4 19 "Dataroom$Party" "known" "[LDataroom$Knowledge;", Cond.static yX6_covers, Cond.code yX6_covers cX6_covers 2 (some .boolean), Cond.methodLink RX4 69 yX2_wouldReach, Cond.instanceMethod yX2_wouldReach, Cond.selects RX2 yX2_wouldReach yX2_wouldReach, Cond.initialized RX2, Cond.code yX2_wouldReach cX2_wouldReach 3 (some .boolean), Cond.methodLink RX2 27 yX2_knows, Cond.instanceMethod yX2_knows, Cond.selects RX2 yX2_knows yX2_knows, Cond.code yX2_knows cX2_knows 4 (some .boolean), Cond.fieldLink RX2 9 "Dataroom$Knowledge" "rows" "[I", Cond.methodLink RX6 152 yX4_learnedInAll, Cond.instanceMethod yX4_learnedInAll]
def wsL_ask_r6 : List Cond := [Cond.selects RX4 yX4_learnedInAll yX4_learnedInAll, Cond.code yX4_learnedInAll cX4_learnedInAll 3 (some .int), Cond.methodLink RX6 140 yX4_costOf, Cond.instanceMethod yX4_costOf, Cond.selects RX4 yX4_costOf yX4_costOf, Cond.code yX4_costOf cX4_costOf 5 (some .int), Cond.methodLink RX4 57 yX2_knows, Cond.methodLink RX6 122 yX4_countQuestion, Cond.instanceMethod yX4_countQuestion, Cond.selects RX4 yX4_countQuestion yX4_countQuestion, Cond.code yX4_countQuestion cX4_countQuestion 3 none, Cond.fieldLink RX4 23 "Dataroom$Party" "fared" "[I", Cond.methodLink RX6 125 yX6_sumOf, Cond.instanceMethod yX6_sumOf, Cond.selects RX6 yX6_sumOf yX6_sumOf, Cond.code yX6_sumOf cX6_sumOf 5 (some .int), Cond.methodLink RX6 134 yX0_init, Cond.instanceMethod yX0_init, Cond.code yX0_init cX0_init 6 none, Cond.methodLink RX0 1 objectInit, Cond.instanceMethod objectInit, Cond.code objectInit ⟨#[0xb1]⟩ 1 none, Cond.fieldLink RX0 7 "Dataroom$Answer" "party" "I", Cond.fieldLink RX0 13 "Dataroom$Answer" "files" "I"]
def wsL_ask_r7 : List Cond := [Cond.fieldLink RX0 16 "Dataroom$Answer" "bit" "I", Cond.fieldLink RX0 19 "Dataroom$Answer" "given" "I", Cond.fieldLink RX0 22 "Dataroom$Answer" "hour" "I", Cond.methodLink RX6 56 yJx4a65c_add_9ea2d, Cond.instanceMethod yJx4a65c_add_9ea2d, Cond.selects RJx4a65c yJx4a65c_add_9ea2d yJx4a65c_add_9ea2d, Cond.code yJx4a65c_add_9ea2d cJx4a65c_add_9ea2d 2 (some .boolean), Cond.fieldLink RJx4a65c 63 "java/util/ArrayList" "modCount" "I", Cond.sameField "java/util/ArrayList" "java/util/AbstractList" "modCount" "I", Cond.methodLink RJx4a65c 131 yJx4a65c_add_72be8, Cond.instanceMethod yJx4a65c_add_72be8, Cond.selects RJx4a65c yJx4a65c_add_72be8 yJx4a65c_add_72be8, Cond.code yJx4a65c_add_72be8 cJx4a65c_add_72be8 4 none, Cond.methodLink RJx4a65c 129 yJx4a65c_grow_d5877, Cond.instanceMethod yJx4a65c_grow_d5877, Cond.selects RJx4a65c yJx4a65c_grow_d5877 yJx4a65c_grow_d5877, Cond.code yJx4a65c_grow_d5877 cJx4a65c_grow_d5877 1 (some (.array (.object "java/lang/Object"))), Cond.methodLink RJx4a65c 69 yJx4a65c_grow_92f84, Cond.instanceMethod yJx4a65c_grow_92f84, Cond.selects RJx4a65c yJx4a65c_grow_92f84 yJx4a65c_grow_92f84, Cond.code yJx4a65c_grow_92f84 cJx4a65c_grow_92f84 4 (some (.array (.object "java/lang/Object"))), Cond.fieldLink RJx4a65c 39 "java/util/ArrayList" "DEFAULTCAPACITY_EMPTY_ELEMENTDATA" "[Ljava/lang/Object;", Cond.methodLink RJx4a65c 79 Lib.Math.max.name, Cond.static Lib.Math.max.name]
def wsL_ask_r8 : List Cond := [Cond.initialized "java/lang/Math", Cond.code Lib.Math.max.name Lib.Math.max.code 2 (some .int), Cond.classLink RJx4a65c 7 "java/lang/Object", Cond.methodLink RJx4a65c 73 yJ8_newLength_cabcc, Cond.static yJ8_newLength_cabcc, Cond.initialized RJ8, Cond.code yJ8_newLength_cabcc cJ8_newLength_cabcc 4 (some .int), Cond.methodLink RJ8 194 Lib.Math.max.name, Cond.constant RJ8 200 (2147483639), Cond.methodLink RJ8 201 yJ8_hugeLength_7cf53, Cond.static yJ8_hugeLength_7cf53, Cond.code yJ8_hugeLength_7cf53 cJ8_hugeLength_7cf53 3 (some .int), Cond.methodLink RJx4a65c 66 yJ7_copyOf_1904c, Cond.static yJ7_copyOf_1904c, Cond.initialized RJ7, Cond.code yJ7_copyOf_1904c cJ7_copyOf_1904c 2 (some (.array (.object "java/lang/Object"))), Cond.methodLink RJ7 86 ⟨"java/lang/Object", "getClass", "()Ljava/lang/Class;"⟩, Cond.selects "[Ljava/lang/Object;" ⟨"java/lang/Object", "getClass", "()Ljava/lang/Class;"⟩ ⟨"java/lang/Object", "getClass", "()Ljava/lang/Class;"⟩, Cond.instanceMethod ⟨"java/lang/Object", "getClass", "()Ljava/lang/Class;"⟩, Cond.native ⟨"java/lang/Object", "getClass", "()Ljava/lang/Class;"⟩, Cond.methodLink RJ7 300 yJ7_copyOf_6403c, Cond.static yJ7_copyOf_6403c, Cond.code yJ7_copyOf_6403c cJ7_copyOf_6403c 4 (some (.array (.object "java/lang/Object"))), Cond.classLink RJ7 110 "[Ljava/lang/Object;"]
def wsL_ask_r9 : List Cond := [Cond.classLink RJ7 2 "java/lang/Object", Cond.methodLink RJ7 304 Lib.Math.min.name, Cond.static Lib.Math.min.name, Cond.code Lib.Math.min.name Lib.Math.min.code 2 (some .int), Cond.methodLink RJ7 150 arraycopyName, Cond.native arraycopyName, Cond.static arraycopyName, Cond.initialized "java/lang/System", Cond.methodLink RX6 137 yX4_learn, Cond.instanceMethod yX4_learn, Cond.selects RX4 yX4_learn yX4_learn, Cond.code yX4_learn cX4_learn 4 none, Cond.methodLink RX4 47 yX2_learn, Cond.instanceMethod yX2_learn, Cond.selects RX2 yX2_learn yX2_learn, Cond.code yX2_learn cX2_learn 4 none, Cond.fieldLink RX2 15 "Dataroom$Knowledge" "learned" "I"]
def wsL_ask : List Cond := .codeWith yL_ask cL_ask 6 (some .int) [(0, 12, 15, 21), (0, 12, 19, 13), (0, 12, 23, 15)] :: ((wsL_ask_r1 ++ (wsL_ask_r2 ++ (wsL_ask_r3 ++ (wsL_ask_r4 ++ (wsL_ask_r5 ++ (wsL_ask_r6 ++ (wsL_ask_r7 ++ (wsL_ask_r8 ++ wsL_ask_r9)))))))) ++ wsX60 ++ wsX00 ++ wsX40 ++ wsJx4a65c0 ++ wsX50 ++ wsX10 ++ wsX20 ++ (vx_atS RX6 48 "java/lang/IllegalStateException" ["java/lang/RuntimeException", "java/lang/Exception"]).filter goodWord ++ (vx_atS RX6 147 "java/lang/IndexOutOfBoundsException" ["java/lang/RuntimeException", "java/lang/Exception"]).filter goodWord ++ (vx_atS RX6 193 "java/lang/IllegalArgumentException" ["java/lang/RuntimeException", "java/lang/Exception"]).filter goodWord)
def wsL_cost_r1 : List Cond := [Cond.classLink RL 21 "java/lang/IndexOutOfBoundsException", Cond.classLink RL 13 "java/lang/IllegalArgumentException", Cond.methodLink RL 47 yX6_cost, Cond.instanceMethod yX6_cost, Cond.selects RX6 yX6_cost yX6_cost, Cond.initialized RX6, Cond.code yX6_cost cX6_cost 5 (some .int), Cond.methodLink RX6 83 yX6_partyAt, Cond.instanceMethod yX6_partyAt, Cond.selects RX6 yX6_partyAt yX6_partyAt, Cond.code yX6_partyAt cX6_partyAt 2 (some (.object "Dataroom$Party")), Cond.classLink RX6 143 "java/lang/IndexOutOfBoundsException", Cond.initialized "java/lang/IndexOutOfBoundsException", Cond.fieldLink RX6 16 "Dataroom" "allParties" "Ljava/util/ArrayList;", Cond.classLink RX6 72 "Dataroom$Party", Cond.methodLink RX6 40 yJx4a65c_size_8abf5, Cond.instanceMethod yJx4a65c_size_8abf5, Cond.selects RJx4a65c yJx4a65c_size_8abf5 yJx4a65c_size_8abf5, Cond.initialized RJx4a65c, Cond.code yJx4a65c_size_8abf5 cJx4a65c_size_8abf5 1 (some .int), Cond.fieldLink RJx4a65c 48 "java/util/ArrayList" "size" "I", Cond.methodLink RX6 68 yJx4a65c_get_915e3, Cond.instanceMethod yJx4a65c_get_915e3, Cond.selects RJx4a65c yJx4a65c_get_915e3 yJx4a65c_get_915e3]
def wsL_cost_r2 : List Cond := [Cond.code yJx4a65c_get_915e3 cJx4a65c_get_915e3 2 (some (.object "java/lang/Object")), Cond.methodLink RJx4a65c 118 yJ15_checkIndex_7cf53, Cond.static yJ15_checkIndex_7cf53, Cond.initialized RJ15, Cond.code yJ15_checkIndex_7cf53 cJ15_checkIndex_7cf53 2 (some .int), Cond.methodLink RJ15 105 yJ3_checkIndex_8e157, Cond.static yJ3_checkIndex_8e157, Cond.initialized RJ3, Cond.code yJ3_checkIndex_8e157 cJ3_checkIndex_8e157 3 (some .int), Cond.methodLink RJx4a65c 123 yJx4a65c_elementData_915e3, Cond.instanceMethod yJx4a65c_elementData_915e3, Cond.selects RJx4a65c yJx4a65c_elementData_915e3 yJx4a65c_elementData_915e3, Cond.code yJx4a65c_elementData_915e3 cJx4a65c_elementData_915e3 2 (some (.object "java/lang/Object")), Cond.fieldLink RJx4a65c 9 "java/util/ArrayList" "elementData" "[Ljava/lang/Object;", Cond.methodLink RX6 113 yX6_requireQuestion, Cond.instanceMethod yX6_requireQuestion, Cond.selects RX6 yX6_requireQuestion yX6_requireQuestion, Cond.code yX6_requireQuestion cX6_requireQuestion 3 none, Cond.fieldLink RX6 10 "Dataroom" "allFiles" "Ljava/util/ArrayList;", Cond.methodLink RX6 36 yX6_requireRange, Cond.static yX6_requireRange, Cond.code yX6_requireRange cX6_requireRange 3 none, Cond.classLink RX6 189 "java/lang/IllegalArgumentException", Cond.initialized "java/lang/IllegalArgumentException"]
def wsL_cost_r3 : List Cond := [Cond.methodLink RX6 140 yX4_costOf, Cond.instanceMethod yX4_costOf, Cond.selects RX4 yX4_costOf yX4_costOf, Cond.initialized RX4, Cond.code yX4_costOf cX4_costOf 5 (some .int), Cond.fieldLink RX4 19 "Dataroom$Party" "known" "[LDataroom$Knowledge;", Cond.static yX6_covers, Cond.code yX6_covers cX6_covers 2 (some .boolean), Cond.methodLink RX4 57 yX2_knows, Cond.instanceMethod yX2_knows, Cond.selects RX2 yX2_knows yX2_knows, Cond.initialized RX2, Cond.code yX2_knows cX2_knows 4 (some .boolean), Cond.fieldLink RX2 9 "Dataroom$Knowledge" "rows" "[I", Cond.static yX6_holds, Cond.code yX6_holds cX6_holds 2 (some .boolean)]
def wsL_cost : List Cond := .codeWith yL_cost cL_cost 6 (some .int) [(0, 12, 15, 21), (0, 12, 19, 13)] :: ((wsL_cost_r1 ++ (wsL_cost_r2 ++ wsL_cost_r3)) ++ wsX60 ++ wsJx4a65c0 ++ wsX40 ++ wsX20 ++ (vx_atS RX6 147 "java/lang/IndexOutOfBoundsException" ["java/lang/RuntimeException", "java/lang/Exception"]).filter goodWord ++ (vx_atS RX6 193 "java/lang/IllegalArgumentException" ["java/lang/RuntimeException", "java/lang/Exception"]).filter goodWord)
def wsL_answer_r1 : List Cond := [Cond.classLink RL 21 "java/lang/IndexOutOfBoundsException", Cond.classLink RL 13 "java/lang/IllegalArgumentException", Cond.methodLink RL 50 yX6_answer, Cond.instanceMethod yX6_answer, Cond.selects RX6 yX6_answer yX6_answer, Cond.initialized RX6, Cond.code yX6_answer cX6_answer 3 (some .int), Cond.classLink RX6 143 "java/lang/IndexOutOfBoundsException", Cond.initialized "java/lang/IndexOutOfBoundsException", Cond.fieldLink RX6 19 "Dataroom" "allAnswers" "Ljava/util/ArrayList;", Cond.classLink RX6 129 "Dataroom$Answer", Cond.methodLink RX6 40 yJx4a65c_size_8abf5, Cond.instanceMethod yJx4a65c_size_8abf5, Cond.selects RJx4a65c yJx4a65c_size_8abf5 yJx4a65c_size_8abf5, Cond.initialized RJx4a65c, Cond.code yJx4a65c_size_8abf5 cJx4a65c_size_8abf5 1 (some .int), Cond.fieldLink RJx4a65c 48 "java/util/ArrayList" "size" "I", Cond.methodLink RX6 36 yX6_requireRange, Cond.static yX6_requireRange, Cond.code yX6_requireRange cX6_requireRange 3 none, Cond.classLink RX6 189 "java/lang/IllegalArgumentException", Cond.initialized "java/lang/IllegalArgumentException", Cond.methodLink RX6 68 yJx4a65c_get_915e3, Cond.instanceMethod yJx4a65c_get_915e3]
def wsL_answer_r2 : List Cond := [Cond.selects RJx4a65c yJx4a65c_get_915e3 yJx4a65c_get_915e3, Cond.code yJx4a65c_get_915e3 cJx4a65c_get_915e3 2 (some (.object "java/lang/Object")), Cond.methodLink RJx4a65c 118 yJ15_checkIndex_7cf53, Cond.static yJ15_checkIndex_7cf53, Cond.initialized RJ15, Cond.code yJ15_checkIndex_7cf53 cJ15_checkIndex_7cf53 2 (some .int), Cond.methodLink RJ15 105 yJ3_checkIndex_8e157, Cond.static yJ3_checkIndex_8e157, Cond.initialized RJ3, Cond.code yJ3_checkIndex_8e157 cJ3_checkIndex_8e157 3 (some .int), Cond.methodLink RJx4a65c 123 yJx4a65c_elementData_915e3, Cond.instanceMethod yJx4a65c_elementData_915e3, Cond.selects RJx4a65c yJx4a65c_elementData_915e3 yJx4a65c_elementData_915e3, Cond.code yJx4a65c_elementData_915e3 cJx4a65c_elementData_915e3 2 (some (.object "java/lang/Object")), Cond.fieldLink RJx4a65c 9 "java/util/ArrayList" "elementData" "[Ljava/lang/Object;", Cond.methodLink RX6 148 yX0_tell, Cond.instanceMethod yX0_tell, Cond.selects RX0 yX0_tell yX0_tell, Cond.initialized RX0, Cond.code yX0_tell cX0_tell 2 (some .int), Cond.fieldLink RX0 7 "Dataroom$Answer" "party" "I", Cond.fieldLink RX0 13 "Dataroom$Answer" "files" "I", Cond.fieldLink RX0 16 "Dataroom$Answer" "bit" "I", Cond.fieldLink RX0 19 "Dataroom$Answer" "given" "I"]
def wsL_answer_r3 : List Cond := [Cond.fieldLink RX0 25 "Dataroom$Answer" "recalled" "Z", Cond.fieldLink RX0 22 "Dataroom$Answer" "hour" "I"]
def wsL_answer : List Cond := .codeWith yL_answer cL_answer 5 (some .int) [(0, 10, 13, 21), (0, 10, 17, 13)] :: ((wsL_answer_r1 ++ (wsL_answer_r2 ++ wsL_answer_r3)) ++ wsX60 ++ wsJx4a65c0 ++ wsX00 ++ (vx_atS RX6 147 "java/lang/IndexOutOfBoundsException" ["java/lang/RuntimeException", "java/lang/Exception"]).filter goodWord ++ (vx_atS RX6 193 "java/lang/IllegalArgumentException" ["java/lang/RuntimeException", "java/lang/Exception"]).filter goodWord)
def wsL_spent_r1 : List Cond := [Cond.classLink RL 21 "java/lang/IndexOutOfBoundsException", Cond.methodLink RL 53 yX6_spent, Cond.instanceMethod yX6_spent, Cond.selects RX6 yX6_spent yX6_spent, Cond.initialized RX6, Cond.code yX6_spent cX6_spent 2 (some .int), Cond.methodLink RX6 83 yX6_partyAt, Cond.instanceMethod yX6_partyAt, Cond.selects RX6 yX6_partyAt yX6_partyAt, Cond.code yX6_partyAt cX6_partyAt 2 (some (.object "Dataroom$Party")), Cond.classLink RX6 143 "java/lang/IndexOutOfBoundsException", Cond.initialized "java/lang/IndexOutOfBoundsException", Cond.fieldLink RX6 16 "Dataroom" "allParties" "Ljava/util/ArrayList;", Cond.classLink RX6 72 "Dataroom$Party", Cond.methodLink RX6 40 yJx4a65c_size_8abf5, Cond.instanceMethod yJx4a65c_size_8abf5, Cond.selects RJx4a65c yJx4a65c_size_8abf5 yJx4a65c_size_8abf5, Cond.initialized RJx4a65c, Cond.code yJx4a65c_size_8abf5 cJx4a65c_size_8abf5 1 (some .int), Cond.fieldLink RJx4a65c 48 "java/util/ArrayList" "size" "I", Cond.methodLink RX6 68 yJx4a65c_get_915e3, Cond.instanceMethod yJx4a65c_get_915e3, Cond.selects RJx4a65c yJx4a65c_get_915e3 yJx4a65c_get_915e3, Cond.code yJx4a65c_get_915e3 cJx4a65c_get_915e3 2 (some (.object "java/lang/Object"))]
def wsL_spent_r2 : List Cond := [Cond.methodLink RJx4a65c 118 yJ15_checkIndex_7cf53, Cond.static yJ15_checkIndex_7cf53, Cond.initialized RJ15, Cond.code yJ15_checkIndex_7cf53 cJ15_checkIndex_7cf53 2 (some .int), Cond.methodLink RJ15 105 yJ3_checkIndex_8e157, Cond.static yJ3_checkIndex_8e157, Cond.initialized RJ3, Cond.code yJ3_checkIndex_8e157 cJ3_checkIndex_8e157 3 (some .int), Cond.methodLink RJx4a65c 123 yJx4a65c_elementData_915e3, Cond.instanceMethod yJx4a65c_elementData_915e3, Cond.selects RJx4a65c yJx4a65c_elementData_915e3 yJx4a65c_elementData_915e3, Cond.code yJx4a65c_elementData_915e3 cJx4a65c_elementData_915e3 2 (some (.object "java/lang/Object")), Cond.fieldLink RJx4a65c 9 "java/util/ArrayList" "elementData" "[Ljava/lang/Object;", Cond.methodLink RX6 152 yX4_learnedInAll, Cond.instanceMethod yX4_learnedInAll, Cond.selects RX4 yX4_learnedInAll yX4_learnedInAll, Cond.initialized RX4, Cond.code yX4_learnedInAll cX4_learnedInAll 3 (some .int), Cond.fieldLink RX4 19 "Dataroom$Party" "known" "[LDataroom$Knowledge;"]
def wsL_spent : List Cond := .codeWith yL_spent cL_spent 4 (some .int) [(0, 9, 12, 21)] :: ((wsL_spent_r1 ++ wsL_spent_r2) ++ wsX60 ++ wsJx4a65c0 ++ wsX40 ++ wsX20 ++ (vx_atS RX6 147 "java/lang/IndexOutOfBoundsException" ["java/lang/RuntimeException", "java/lang/Exception"]).filter goodWord)
def wsL_spentAnew_r1 : List Cond := [Cond.classLink RL 21 "java/lang/IndexOutOfBoundsException", Cond.methodLink RL 56 yX6_spentAnew, Cond.instanceMethod yX6_spentAnew, Cond.selects RX6 yX6_spentAnew yX6_spentAnew, Cond.initialized RX6, Cond.code yX6_spentAnew cX6_spentAnew 5 (some .int), Cond.methodLink RX6 83 yX6_partyAt, Cond.instanceMethod yX6_partyAt, Cond.selects RX6 yX6_partyAt yX6_partyAt, Cond.code yX6_partyAt cX6_partyAt 2 (some (.object "Dataroom$Party")), Cond.classLink RX6 143 "java/lang/IndexOutOfBoundsException", Cond.initialized "java/lang/IndexOutOfBoundsException", Cond.fieldLink RX6 16 "Dataroom" "allParties" "Ljava/util/ArrayList;", Cond.classLink RX6 72 "Dataroom$Party", Cond.methodLink RX6 40 yJx4a65c_size_8abf5, Cond.instanceMethod yJx4a65c_size_8abf5, Cond.selects RJx4a65c yJx4a65c_size_8abf5 yJx4a65c_size_8abf5, Cond.initialized RJx4a65c, Cond.code yJx4a65c_size_8abf5 cJx4a65c_size_8abf5 1 (some .int), Cond.fieldLink RJx4a65c 48 "java/util/ArrayList" "size" "I", Cond.methodLink RX6 68 yJx4a65c_get_915e3, Cond.instanceMethod yJx4a65c_get_915e3, Cond.selects RJx4a65c yJx4a65c_get_915e3 yJx4a65c_get_915e3, Cond.code yJx4a65c_get_915e3 cJx4a65c_get_915e3 2 (some (.object "java/lang/Object"))]
def wsL_spentAnew_r2 : List Cond := [Cond.methodLink RJx4a65c 118 yJ15_checkIndex_7cf53, Cond.static yJ15_checkIndex_7cf53, Cond.initialized RJ15, Cond.code yJ15_checkIndex_7cf53 cJ15_checkIndex_7cf53 2 (some .int), Cond.methodLink RJ15 105 yJ3_checkIndex_8e157, Cond.static yJ3_checkIndex_8e157, Cond.initialized RJ3, Cond.code yJ3_checkIndex_8e157 cJ3_checkIndex_8e157 3 (some .int), Cond.methodLink RJx4a65c 123 yJx4a65c_elementData_915e3, Cond.instanceMethod yJx4a65c_elementData_915e3, Cond.selects RJx4a65c yJx4a65c_elementData_915e3 yJx4a65c_elementData_915e3, Cond.code yJx4a65c_elementData_915e3 cJx4a65c_elementData_915e3 2 (some (.object "java/lang/Object")), Cond.fieldLink RJx4a65c 9 "java/util/ArrayList" "elementData" "[Ljava/lang/Object;", Cond.methodLink RX6 155 yX6_countKnownSets, Cond.instanceMethod yX6_countKnownSets, Cond.selects RX6 yX6_countKnownSets yX6_countKnownSets, Cond.code yX6_countKnownSets cX6_countKnownSets 5 (some .int), Cond.fieldLink RX6 32 "Dataroom" "marks" "LDataroom$Marks;", Cond.fieldLink RX6 10 "Dataroom" "allFiles" "Ljava/util/ArrayList;", Cond.fieldLink RX6 19 "Dataroom" "allAnswers" "Ljava/util/ArrayList;", Cond.classLink RX6 129 "Dataroom$Answer", Cond.methodLink RX6 230 yX3_begin, Cond.instanceMethod yX3_begin, Cond.selects RX3 yX3_begin yX3_begin]
def wsL_spentAnew_r3 : List Cond := [Cond.initialized RX3, Cond.code yX3_begin cX3_begin 3 none, Cond.fieldLink RX3 11 "Dataroom$Marks" "words" "[J", Cond.methodLink RX3 15 Lib.Math.max.name, Cond.static Lib.Math.max.name, Cond.initialized "java/lang/Math", Cond.code Lib.Math.max.name Lib.Math.max.code 2 (some .int), Cond.methodLink RX3 21 Lib.Math.min.name, Cond.static Lib.Math.min.name, Cond.code Lib.Math.min.name Lib.Math.min.code 2 (some .int), Cond.fieldLink RX3 24 "Dataroom$Marks" "used" "I", Cond.methodLink RX6 209 yX0_standsFor, Cond.instanceMethod yX0_standsFor, Cond.selects RX0 yX0_standsFor yX0_standsFor, Cond.initialized RX0, Cond.code yX0_standsFor cX0_standsFor 2 (some .boolean), Cond.fieldLink RX0 25 "Dataroom$Answer" "recalled" "Z", Cond.fieldLink RX0 7 "Dataroom$Answer" "party" "I", Cond.methodLink RX6 233 yX6_covers, Cond.static yX6_covers, Cond.code yX6_covers cX6_covers 2 (some .boolean), Cond.methodLink RX6 236 yX3_add, Cond.instanceMethod yX3_add, Cond.selects RX3 yX3_add yX3_add]
def wsL_spentAnew_r4 : List Cond := [Cond.code yX3_add cX3_add 4 none, Cond.methodLink RX3 28 yX3_isMarked, Cond.instanceMethod yX3_isMarked, Cond.selects RX3 yX3_isMarked yX3_isMarked, Cond.code yX3_isMarked cX3_isMarked 3 (some .boolean), Cond.methodLink RX3 32 yX3_crossed, Cond.static yX3_crossed, Cond.code yX3_crossed cX3_crossed 7 (some .long), Cond.fieldLink RX3 42 "Dataroom$Marks" "LACKING" "[J", Cond.static yX6_holds, Cond.code yX6_holds cX6_holds 2 (some .boolean), Cond.methodLink RX6 238 yX3_sets, Cond.instanceMethod yX3_sets, Cond.selects RX3 yX3_sets yX3_sets, Cond.code yX3_sets cX3_sets 3 (some .int), Cond.methodLink RX3 36 yJ13_bitCount_95d88, Cond.static yJ13_bitCount_95d88, Cond.initialized RJ13, Cond.code yJ13_bitCount_95d88 cJ13_bitCount_95d88 2 (some .int), Cond.constantLong RJ13 314 (6148914691236517205), Cond.constantLong RJ13 316 (3689348814741910323), Cond.constantLong RJ13 318 (1085102592571150095), Cond.methodLink RX6 158 yX6_generatorsOf, Cond.static yX6_generatorsOf]
def wsL_spentAnew_r5 : List Cond := [Cond.code yX6_generatorsOf cX6_generatorsOf 3 (some .int)]
def wsL_spentAnew : List Cond := .codeWith yL_spentAnew cL_spentAnew 4 (some .int) [(0, 9, 12, 21)] :: ((wsL_spentAnew_r1 ++ (wsL_spentAnew_r2 ++ (wsL_spentAnew_r3 ++ (wsL_spentAnew_r4 ++ wsL_spentAnew_r5)))) ++ wsX60 ++ wsJx4a65c0 ++ wsX00 ++ wsX30 ++ wsX40 ++ (vx_atS RX6 147 "java/lang/IndexOutOfBoundsException" ["java/lang/RuntimeException", "java/lang/Exception"]).filter goodWord)
def wsL_finds_r1 : List Cond := [Cond.classLink RL 21 "java/lang/IndexOutOfBoundsException", Cond.methodLink RL 59 yX6_finds, Cond.instanceMethod yX6_finds, Cond.selects RX6 yX6_finds yX6_finds, Cond.initialized RX6, Cond.code yX6_finds cX6_finds 6 (some .int), Cond.methodLink RX6 83 yX6_partyAt, Cond.instanceMethod yX6_partyAt, Cond.selects RX6 yX6_partyAt yX6_partyAt, Cond.code yX6_partyAt cX6_partyAt 2 (some (.object "Dataroom$Party")), Cond.classLink RX6 143 "java/lang/IndexOutOfBoundsException", Cond.initialized "java/lang/IndexOutOfBoundsException", Cond.fieldLink RX6 16 "Dataroom" "allParties" "Ljava/util/ArrayList;", Cond.classLink RX6 72 "Dataroom$Party", Cond.methodLink RX6 40 yJx4a65c_size_8abf5, Cond.instanceMethod yJx4a65c_size_8abf5, Cond.selects RJx4a65c yJx4a65c_size_8abf5 yJx4a65c_size_8abf5, Cond.initialized RJx4a65c, Cond.code yJx4a65c_size_8abf5 cJx4a65c_size_8abf5 1 (some .int), Cond.fieldLink RJx4a65c 48 "java/util/ArrayList" "size" "I", Cond.methodLink RX6 68 yJx4a65c_get_915e3, Cond.instanceMethod yJx4a65c_get_915e3, Cond.selects RJx4a65c yJx4a65c_get_915e3 yJx4a65c_get_915e3, Cond.code yJx4a65c_get_915e3 cJx4a65c_get_915e3 2 (some (.object "java/lang/Object"))]
def wsL_finds_r2 : List Cond := [Cond.methodLink RJx4a65c 118 yJ15_checkIndex_7cf53, Cond.static yJ15_checkIndex_7cf53, Cond.initialized RJ15, Cond.code yJ15_checkIndex_7cf53 cJ15_checkIndex_7cf53 2 (some .int), Cond.methodLink RJ15 105 yJ3_checkIndex_8e157, Cond.static yJ3_checkIndex_8e157, Cond.initialized RJ3, Cond.code yJ3_checkIndex_8e157 cJ3_checkIndex_8e157 3 (some .int), Cond.methodLink RJx4a65c 123 yJx4a65c_elementData_915e3, Cond.instanceMethod yJx4a65c_elementData_915e3, Cond.selects RJx4a65c yJx4a65c_elementData_915e3 yJx4a65c_elementData_915e3, Cond.code yJx4a65c_elementData_915e3 cJx4a65c_elementData_915e3 2 (some (.object "java/lang/Object")), Cond.fieldLink RJx4a65c 9 "java/util/ArrayList" "elementData" "[Ljava/lang/Object;", Cond.methodLink RX6 90 yX6_requireFile, Cond.instanceMethod yX6_requireFile, Cond.selects RX6 yX6_requireFile yX6_requireFile, Cond.code yX6_requireFile cX6_requireFile 2 none, Cond.fieldLink RX6 10 "Dataroom" "allFiles" "Ljava/util/ArrayList;", Cond.methodLink RX6 165 yX2_knows, Cond.instanceMethod yX2_knows, Cond.selects RX2 yX2_knows yX2_knows, Cond.initialized RX2, Cond.code yX2_knows cX2_knows 4 (some .boolean), Cond.fieldLink RX2 9 "Dataroom$Knowledge" "rows" "[I"]
def wsL_finds_r3 : List Cond := [Cond.static yX6_holds, Cond.code yX6_holds cX6_holds 2 (some .boolean)]
def wsL_finds : List Cond := .codeWith yL_finds cL_finds 5 (some .int) [(0, 10, 13, 21)] :: ((wsL_finds_r1 ++ (wsL_finds_r2 ++ wsL_finds_r3)) ++ wsX40 ++ wsX60 ++ wsJx4a65c0 ++ wsX20 ++ (vx_atS RX6 147 "java/lang/IndexOutOfBoundsException" ["java/lang/RuntimeException", "java/lang/Exception"]).filter goodWord)
def wsL_together_r1 : List Cond := [Cond.classLink RL 21 "java/lang/IndexOutOfBoundsException", Cond.classLink RL 13 "java/lang/IllegalArgumentException", Cond.methodLink RL 62 yX6_together, Cond.instanceMethod yX6_together, Cond.selects RX6 yX6_together yX6_together, Cond.initialized RX6, Cond.code yX6_together cX6_together 5 (some .int), Cond.fieldLink RX6 16 "Dataroom" "allParties" "Ljava/util/ArrayList;", Cond.fieldLink RX6 25 "Dataroom" "shared" "LDataroom$Knowledge;", Cond.methodLink RX6 90 yX6_requireFile, Cond.instanceMethod yX6_requireFile, Cond.selects RX6 yX6_requireFile yX6_requireFile, Cond.code yX6_requireFile cX6_requireFile 2 none, Cond.classLink RX6 143 "java/lang/IndexOutOfBoundsException", Cond.initialized "java/lang/IndexOutOfBoundsException", Cond.fieldLink RX6 10 "Dataroom" "allFiles" "Ljava/util/ArrayList;", Cond.methodLink RX6 40 yJx4a65c_size_8abf5, Cond.instanceMethod yJx4a65c_size_8abf5, Cond.selects RJx4a65c yJx4a65c_size_8abf5 yJx4a65c_size_8abf5, Cond.initialized RJx4a65c, Cond.code yJx4a65c_size_8abf5 cJx4a65c_size_8abf5 1 (some .int), Cond.fieldLink RJx4a65c 48 "java/util/ArrayList" "size" "I", Cond.methodLink RX6 36 yX6_requireRange, Cond.static yX6_requireRange]
def wsL_together_r2 : List Cond := [Cond.code yX6_requireRange cX6_requireRange 3 none, Cond.classLink RX6 189 "java/lang/IllegalArgumentException", Cond.initialized "java/lang/IllegalArgumentException", Cond.methodLink RX6 169 yX6_shareKnowledge, Cond.instanceMethod yX6_shareKnowledge, Cond.selects RX6 yX6_shareKnowledge yX6_shareKnowledge, Cond.code yX6_shareKnowledge cX6_shareKnowledge 5 none, Cond.classLink RX6 72 "Dataroom$Party", Cond.methodLink RX6 241 yX2_forget, Cond.instanceMethod yX2_forget, Cond.selects RX2 yX2_forget yX2_forget, Cond.initialized RX2, Cond.code yX2_forget cX2_forget 2 none, Cond.fieldLink RX2 9 "Dataroom$Knowledge" "rows" "[I", Cond.fieldLink RX2 15 "Dataroom$Knowledge" "learned" "I", Cond.methodLink RX6 68 yJx4a65c_get_915e3, Cond.instanceMethod yJx4a65c_get_915e3, Cond.selects RJx4a65c yJx4a65c_get_915e3 yJx4a65c_get_915e3, Cond.code yJx4a65c_get_915e3 cJx4a65c_get_915e3 2 (some (.object "java/lang/Object")), Cond.methodLink RJx4a65c 118 yJ15_checkIndex_7cf53, Cond.static yJ15_checkIndex_7cf53, Cond.initialized RJ15, Cond.code yJ15_checkIndex_7cf53 cJ15_checkIndex_7cf53 2 (some .int), Cond.methodLink RJ15 105 yJ3_checkIndex_8e157]
def wsL_together_r3 : List Cond := [Cond.static yJ3_checkIndex_8e157, Cond.initialized RJ3, Cond.code yJ3_checkIndex_8e157 cJ3_checkIndex_8e157 3 (some .int), Cond.methodLink RJx4a65c 123 yJx4a65c_elementData_915e3, Cond.instanceMethod yJx4a65c_elementData_915e3, Cond.selects RJx4a65c yJx4a65c_elementData_915e3 yJx4a65c_elementData_915e3, Cond.code yJx4a65c_elementData_915e3 cJx4a65c_elementData_915e3 2 (some (.object "java/lang/Object")), Cond.fieldLink RJx4a65c 9 "java/util/ArrayList" "elementData" "[Ljava/lang/Object;", Cond.methodLink RX6 205 yX6_holds, Cond.static yX6_holds, Cond.code yX6_holds cX6_holds 2 (some .boolean), Cond.methodLink RX6 242 yX2_learnFrom, Cond.instanceMethod yX2_learnFrom, Cond.selects RX2 yX2_learnFrom yX2_learnFrom, Cond.code yX2_learnFrom cX2_learnFrom 3 none, Cond.methodLink RX2 23 yX2_learn, Cond.instanceMethod yX2_learn, Cond.selects RX2 yX2_learn yX2_learn, Cond.code yX2_learn cX2_learn 4 none, Cond.methodLink RX6 165 yX2_knows, Cond.instanceMethod yX2_knows, Cond.selects RX2 yX2_knows yX2_knows, Cond.code yX2_knows cX2_knows 4 (some .boolean)]
def wsL_together : List Cond := .codeWith yL_together cL_together 5 (some .int) [(0, 10, 13, 21), (0, 10, 17, 13)] :: ((wsL_together_r1 ++ (wsL_together_r2 ++ wsL_together_r3)) ++ wsX60 ++ wsJx4a65c0 ++ wsX40 ++ wsX20 ++ (vx_atS RX6 147 "java/lang/IndexOutOfBoundsException" ["java/lang/RuntimeException", "java/lang/Exception"]).filter goodWord ++ (vx_atS RX6 193 "java/lang/IllegalArgumentException" ["java/lang/RuntimeException", "java/lang/Exception"]).filter goodWord)
def wsL_rightTo_r1 : List Cond := [Cond.classLink RL 21 "java/lang/IndexOutOfBoundsException", Cond.methodLink RL 65 yX6_rightTo, Cond.instanceMethod yX6_rightTo, Cond.selects RX6 yX6_rightTo yX6_rightTo, Cond.initialized RX6, Cond.code yX6_rightTo cX6_rightTo 4 (some .int), Cond.fieldLink RX6 108 "Dataroom" "now" "I", Cond.methodLink RX6 83 yX6_partyAt, Cond.instanceMethod yX6_partyAt, Cond.selects RX6 yX6_partyAt yX6_partyAt, Cond.code yX6_partyAt cX6_partyAt 2 (some (.object "Dataroom$Party")), Cond.classLink RX6 143 "java/lang/IndexOutOfBoundsException", Cond.initialized "java/lang/IndexOutOfBoundsException", Cond.fieldLink RX6 16 "Dataroom" "allParties" "Ljava/util/ArrayList;", Cond.classLink RX6 72 "Dataroom$Party", Cond.methodLink RX6 40 yJx4a65c_size_8abf5, Cond.instanceMethod yJx4a65c_size_8abf5, Cond.selects RJx4a65c yJx4a65c_size_8abf5 yJx4a65c_size_8abf5, Cond.initialized RJx4a65c, Cond.code yJx4a65c_size_8abf5 cJx4a65c_size_8abf5 1 (some .int), Cond.fieldLink RJx4a65c 48 "java/util/ArrayList" "size" "I", Cond.methodLink RX6 68 yJx4a65c_get_915e3, Cond.instanceMethod yJx4a65c_get_915e3, Cond.selects RJx4a65c yJx4a65c_get_915e3 yJx4a65c_get_915e3]
def wsL_rightTo_r2 : List Cond := [Cond.code yJx4a65c_get_915e3 cJx4a65c_get_915e3 2 (some (.object "java/lang/Object")), Cond.methodLink RJx4a65c 118 yJ15_checkIndex_7cf53, Cond.static yJ15_checkIndex_7cf53, Cond.initialized RJ15, Cond.code yJ15_checkIndex_7cf53 cJ15_checkIndex_7cf53 2 (some .int), Cond.methodLink RJ15 105 yJ3_checkIndex_8e157, Cond.static yJ3_checkIndex_8e157, Cond.initialized RJ3, Cond.code yJ3_checkIndex_8e157 cJ3_checkIndex_8e157 3 (some .int), Cond.methodLink RJx4a65c 123 yJx4a65c_elementData_915e3, Cond.instanceMethod yJx4a65c_elementData_915e3, Cond.selects RJx4a65c yJx4a65c_elementData_915e3 yJx4a65c_elementData_915e3, Cond.code yJx4a65c_elementData_915e3 cJx4a65c_elementData_915e3 2 (some (.object "java/lang/Object")), Cond.fieldLink RJx4a65c 9 "java/util/ArrayList" "elementData" "[Ljava/lang/Object;", Cond.methodLink RX6 90 yX6_requireFile, Cond.instanceMethod yX6_requireFile, Cond.selects RX6 yX6_requireFile yX6_requireFile, Cond.code yX6_requireFile cX6_requireFile 2 none, Cond.fieldLink RX6 10 "Dataroom" "allFiles" "Ljava/util/ArrayList;", Cond.methodLink RX6 172 yX4_rightIn, Cond.instanceMethod yX4_rightIn, Cond.selects RX4 yX4_rightIn yX4_rightIn, Cond.initialized RX4, Cond.code yX4_rightIn cX4_rightIn 4 (some .int)]
def wsL_rightTo_r3 : List Cond := [Cond.methodLink RX4 35 yX4_rightFor, Cond.instanceMethod yX4_rightFor, Cond.selects RX4 yX4_rightFor yX4_rightFor, Cond.code yX4_rightFor cX4_rightFor 2 (some (.object "Dataroom$Right")), Cond.fieldLink RX4 11 "Dataroom$Party" "rights" "[LDataroom$Right;", Cond.methodLink RX4 39 yX5_in, Cond.instanceMethod yX5_in, Cond.selects RX5 yX5_in yX5_in, Cond.initialized RX5, Cond.code yX5_in cX5_in 2 (some .int), Cond.fieldLink RX5 15 "Dataroom$Right" "from" "I", Cond.fieldLink RX5 18 "Dataroom$Right" "to" "I", Cond.fieldLink RX5 9 "Dataroom$Right" "kind" "I"]
def wsL_rightTo : List Cond := .codeWith yL_rightTo cL_rightTo 5 (some .int) [(0, 10, 13, 21)] :: ((wsL_rightTo_r1 ++ (wsL_rightTo_r2 ++ wsL_rightTo_r3)) ++ wsX60 ++ wsJx4a65c0 ++ wsX40 ++ wsX50 ++ (vx_atS RX6 147 "java/lang/IndexOutOfBoundsException" ["java/lang/RuntimeException", "java/lang/Exception"]).filter goodWord)
def wsL_isSealed_r1 : List Cond := [Cond.classLink RL 21 "java/lang/IndexOutOfBoundsException", Cond.methodLink RL 68 yX6_isSealed, Cond.instanceMethod yX6_isSealed, Cond.selects RX6 yX6_isSealed yX6_isSealed, Cond.initialized RX6, Cond.code yX6_isSealed cX6_isSealed 2 (some .boolean), Cond.fieldLink RX6 108 "Dataroom" "now" "I", Cond.methodLink RX6 60 yX6_fileAt, Cond.instanceMethod yX6_fileAt, Cond.selects RX6 yX6_fileAt yX6_fileAt, Cond.code yX6_fileAt cX6_fileAt 2 (some (.object "Dataroom$Card")), Cond.fieldLink RX6 10 "Dataroom" "allFiles" "Ljava/util/ArrayList;", Cond.classLink RX6 51 "Dataroom$Card", Cond.methodLink RX6 90 yX6_requireFile, Cond.instanceMethod yX6_requireFile, Cond.selects RX6 yX6_requireFile yX6_requireFile, Cond.code yX6_requireFile cX6_requireFile 2 none, Cond.classLink RX6 143 "java/lang/IndexOutOfBoundsException", Cond.initialized "java/lang/IndexOutOfBoundsException", Cond.methodLink RX6 40 yJx4a65c_size_8abf5, Cond.instanceMethod yJx4a65c_size_8abf5, Cond.selects RJx4a65c yJx4a65c_size_8abf5 yJx4a65c_size_8abf5, Cond.initialized RJx4a65c, Cond.code yJx4a65c_size_8abf5 cJx4a65c_size_8abf5 1 (some .int)]
def wsL_isSealed_r2 : List Cond := [Cond.fieldLink RJx4a65c 48 "java/util/ArrayList" "size" "I", Cond.methodLink RX6 68 yJx4a65c_get_915e3, Cond.instanceMethod yJx4a65c_get_915e3, Cond.selects RJx4a65c yJx4a65c_get_915e3 yJx4a65c_get_915e3, Cond.code yJx4a65c_get_915e3 cJx4a65c_get_915e3 2 (some (.object "java/lang/Object")), Cond.methodLink RJx4a65c 118 yJ15_checkIndex_7cf53, Cond.static yJ15_checkIndex_7cf53, Cond.initialized RJ15, Cond.code yJ15_checkIndex_7cf53 cJ15_checkIndex_7cf53 2 (some .int), Cond.methodLink RJ15 105 yJ3_checkIndex_8e157, Cond.static yJ3_checkIndex_8e157, Cond.initialized RJ3, Cond.code yJ3_checkIndex_8e157 cJ3_checkIndex_8e157 3 (some .int), Cond.methodLink RJx4a65c 123 yJx4a65c_elementData_915e3, Cond.instanceMethod yJx4a65c_elementData_915e3, Cond.selects RJx4a65c yJx4a65c_elementData_915e3 yJx4a65c_elementData_915e3, Cond.code yJx4a65c_elementData_915e3 cJx4a65c_elementData_915e3 2 (some (.object "java/lang/Object")), Cond.fieldLink RJx4a65c 9 "java/util/ArrayList" "elementData" "[Ljava/lang/Object;", Cond.methodLink RX6 175 yX1_isClosedIn, Cond.instanceMethod yX1_isClosedIn, Cond.selects RX1 yX1_isClosedIn yX1_isClosedIn, Cond.initialized RX1, Cond.code yX1_isClosedIn cX1_isClosedIn 2 (some .boolean), Cond.fieldLink RX1 9 "Dataroom$Card" "sealedTill" "I"]
def wsL_isSealed : List Cond := .codeWith yL_isSealed cL_isSealed 4 (some .int) [(0, 16, 19, 21)] :: ((wsL_isSealed_r1 ++ wsL_isSealed_r2) ++ wsX60 ++ wsJx4a65c0 ++ wsX10 ++ (vx_atS RX6 147 "java/lang/IndexOutOfBoundsException" ["java/lang/RuntimeException", "java/lang/Exception"]).filter goodWord)
def wsL_count_r1 : List Cond := [Cond.classLink RL 21 "java/lang/IndexOutOfBoundsException", Cond.classLink RL 13 "java/lang/IllegalArgumentException", Cond.methodLink RL 72 yX6_count, Cond.instanceMethod yX6_count, Cond.selects RX6 yX6_count yX6_count, Cond.initialized RX6, Cond.code yX6_count cX6_count 4 (some .int), Cond.methodLink RX6 83 yX6_partyAt, Cond.instanceMethod yX6_partyAt, Cond.selects RX6 yX6_partyAt yX6_partyAt, Cond.code yX6_partyAt cX6_partyAt 2 (some (.object "Dataroom$Party")), Cond.classLink RX6 143 "java/lang/IndexOutOfBoundsException", Cond.initialized "java/lang/IndexOutOfBoundsException", Cond.fieldLink RX6 16 "Dataroom" "allParties" "Ljava/util/ArrayList;", Cond.classLink RX6 72 "Dataroom$Party", Cond.methodLink RX6 40 yJx4a65c_size_8abf5, Cond.instanceMethod yJx4a65c_size_8abf5, Cond.selects RJx4a65c yJx4a65c_size_8abf5 yJx4a65c_size_8abf5, Cond.initialized RJx4a65c, Cond.code yJx4a65c_size_8abf5 cJx4a65c_size_8abf5 1 (some .int), Cond.fieldLink RJx4a65c 48 "java/util/ArrayList" "size" "I", Cond.methodLink RX6 68 yJx4a65c_get_915e3, Cond.instanceMethod yJx4a65c_get_915e3, Cond.selects RJx4a65c yJx4a65c_get_915e3 yJx4a65c_get_915e3]
def wsL_count_r2 : List Cond := [Cond.code yJx4a65c_get_915e3 cJx4a65c_get_915e3 2 (some (.object "java/lang/Object")), Cond.methodLink RJx4a65c 118 yJ15_checkIndex_7cf53, Cond.static yJ15_checkIndex_7cf53, Cond.initialized RJ15, Cond.code yJ15_checkIndex_7cf53 cJ15_checkIndex_7cf53 2 (some .int), Cond.methodLink RJ15 105 yJ3_checkIndex_8e157, Cond.static yJ3_checkIndex_8e157, Cond.initialized RJ3, Cond.code yJ3_checkIndex_8e157 cJ3_checkIndex_8e157 3 (some .int), Cond.methodLink RJx4a65c 123 yJx4a65c_elementData_915e3, Cond.instanceMethod yJx4a65c_elementData_915e3, Cond.selects RJx4a65c yJx4a65c_elementData_915e3 yJx4a65c_elementData_915e3, Cond.code yJx4a65c_elementData_915e3 cJx4a65c_elementData_915e3 2 (some (.object "java/lang/Object")), Cond.fieldLink RJx4a65c 9 "java/util/ArrayList" "elementData" "[Ljava/lang/Object;", Cond.methodLink RX6 36 yX6_requireRange, Cond.static yX6_requireRange, Cond.code yX6_requireRange cX6_requireRange 3 none, Cond.classLink RX6 189 "java/lang/IllegalArgumentException", Cond.initialized "java/lang/IllegalArgumentException", Cond.methodLink RX6 178 yX6_countStanding, Cond.instanceMethod yX6_countStanding, Cond.selects RX6 yX6_countStanding yX6_countStanding, Cond.code yX6_countStanding cX6_countStanding 4 (some .int), Cond.fieldLink RX6 19 "Dataroom" "allAnswers" "Ljava/util/ArrayList;"]
def wsL_count_r3 : List Cond := [Cond.classLink RX6 129 "Dataroom$Answer", Cond.methodLink RX6 209 yX0_standsFor, Cond.instanceMethod yX0_standsFor, Cond.selects RX0 yX0_standsFor yX0_standsFor, Cond.initialized RX0, Cond.code yX0_standsFor cX0_standsFor 2 (some .boolean), Cond.fieldLink RX0 25 "Dataroom$Answer" "recalled" "Z", Cond.fieldLink RX0 7 "Dataroom$Answer" "party" "I", Cond.methodLink RX6 182 yX4_questions, Cond.instanceMethod yX4_questions, Cond.selects RX4 yX4_questions yX4_questions, Cond.initialized RX4, Cond.code yX4_questions cX4_questions 2 (some .int), Cond.fieldLink RX4 23 "Dataroom$Party" "fared" "[I"]
def wsL_count : List Cond := .codeWith yL_count cL_count 5 (some .int) [(0, 10, 13, 21), (0, 10, 17, 13)] :: ((wsL_count_r1 ++ (wsL_count_r2 ++ wsL_count_r3)) ++ wsX60 ++ wsJx4a65c0 ++ wsX00 ++ wsX40 ++ (vx_atS RX6 147 "java/lang/IndexOutOfBoundsException" ["java/lang/RuntimeException", "java/lang/Exception"]).filter goodWord ++ (vx_atS RX6 193 "java/lang/IllegalArgumentException" ["java/lang/RuntimeException", "java/lang/Exception"]).filter goodWord)
def wsL_law0_r1 : List Cond := [Cond.classLink RL 8 RX6, Cond.instantiable RX6 6, Cond.initialized RX6, Cond.classLink RL 76 RX7, Cond.instantiable RX7 19, Cond.initialized RX7, Cond.arrayClass .long, Cond.methodLink RL 75 yX6_init, Cond.instanceMethod yX6_init, Cond.code yX6_init cX6_init 1 none, Cond.methodLink RX6 1 objectInit, Cond.instanceMethod objectInit, Cond.code objectInit ⟨#[0xb1]⟩ 1 none, Cond.classLink RX6 7 RJx4a65c, Cond.instantiable RJx4a65c 3, Cond.initialized RJx4a65c, Cond.fieldLink RX6 10 "Dataroom" "allFiles" "Ljava/util/ArrayList;", Cond.fieldLink RX6 16 "Dataroom" "allParties" "Ljava/util/ArrayList;", Cond.fieldLink RX6 19 "Dataroom" "allAnswers" "Ljava/util/ArrayList;", Cond.classLink RX6 22 RX2, Cond.instantiable RX2 2, Cond.initialized RX2, Cond.fieldLink RX6 25 "Dataroom" "shared" "LDataroom$Knowledge;", Cond.classLink RX6 29 RX3]
def wsL_law0_r2 : List Cond := [Cond.instantiable RX3 2, Cond.initialized RX3, Cond.fieldLink RX6 32 "Dataroom" "marks" "LDataroom$Marks;", Cond.methodLink RX6 9 yJx4a65c_init_da8c8, Cond.instanceMethod yJx4a65c_init_da8c8, Cond.code yJx4a65c_init_da8c8 cJx4a65c_init_da8c8 1 none, Cond.fieldLink RJx4a65c 39 "java/util/ArrayList" "DEFAULTCAPACITY_EMPTY_ELEMENTDATA" "[Ljava/lang/Object;", Cond.fieldLink RJx4a65c 9 "java/util/ArrayList" "elementData" "[Ljava/lang/Object;", Cond.methodLink RJx4a65c 1 yJxc12de_init_da8c8, Cond.instanceMethod yJxc12de_init_da8c8, Cond.initialized RJxc12de, Cond.code yJxc12de_init_da8c8 cJxc12de_init_da8c8 1 none, Cond.fieldLink RJxc12de 7 "java/util/AbstractList" "modCount" "I", Cond.methodLink RJxc12de 1 yJxa1e45_init_da8c8, Cond.instanceMethod yJxa1e45_init_da8c8, Cond.initialized RJxa1e45, Cond.code yJxa1e45_init_da8c8 cJxa1e45_init_da8c8 1 none, Cond.methodLink RJxa1e45 1 objectInit, Cond.instanceMethod yX2_init, Cond.code yX2_init cX2_init 1 none, Cond.methodLink RX2 3 objectInit, Cond.arrayClass .int, Cond.fieldLink RX2 9 "Dataroom$Knowledge" "rows" "[I", Cond.instanceMethod yX3_init]
def wsL_law0_r3 : List Cond := [Cond.code yX3_init cX3_init 1 none, Cond.methodLink RX3 3 objectInit, Cond.fieldLink RX3 11 "Dataroom$Marks" "words" "[J", Cond.methodLink RL 78 yX7_init, Cond.instanceMethod yX7_init, Cond.code yX7_init cX7_init 1 none, Cond.methodLink RX7 1 objectInit, Cond.fieldLink RX7 7 "DataroomModel" "number" "[I", Cond.fieldLink RX7 13 "DataroomModel" "sealedTill" "[I", Cond.fieldLink RX7 16 "DataroomModel" "budget" "[I", Cond.fieldLink RX7 19 "DataroomModel" "right" "[I", Cond.fieldLink RX7 22 "DataroomModel" "from" "[I", Cond.fieldLink RX7 25 "DataroomModel" "to" "[I", Cond.fieldLink RX7 28 "DataroomModel" "who" "[I", Cond.fieldLink RX7 31 "DataroomModel" "set" "[I", Cond.fieldLink RX7 34 "DataroomModel" "bitOf" "[I", Cond.fieldLink RX7 37 "DataroomModel" "told" "[I", Cond.fieldLink RX7 40 "DataroomModel" "hour" "[I", Cond.arrayClass .boolean, Cond.fieldLink RX7 43 "DataroomModel" "isRecalled" "[Z", Cond.fieldLink RX7 47 "DataroomModel" "counts" "[I", Cond.fieldLink RX7 50 "DataroomModel" "rows" "[I", Cond.methodLink RL 79 yL_file, Cond.static yL_file]
def wsL_law0_r4 : List Cond := [Cond.initialized RL, Cond.codeWith yL_file cL_file 4 (some .int) [(0, 9, 12, 13), (0, 9, 15, 15)], Cond.classLink RL 13 "java/lang/IllegalArgumentException", Cond.classLink RL 15 "java/lang/IllegalStateException", Cond.methodLink RL 7 yX6_file, Cond.instanceMethod yX6_file, Cond.selects RX6 yX6_file yX6_file, Cond.code yX6_file cX6_file 2 (some .int), Cond.classLink RX6 44 "java/lang/IllegalStateException", Cond.initialized "java/lang/IllegalStateException", Cond.classLink RX6 51 RX1, Cond.instantiable RX1 2, Cond.initialized RX1, Cond.methodLink RX6 36 yX6_requireRange, Cond.static yX6_requireRange, Cond.code yX6_requireRange cX6_requireRange 3 none, Cond.classLink RX6 189 "java/lang/IllegalArgumentException", Cond.initialized "java/lang/IllegalArgumentException", Cond.methodLink RX6 40 yJx4a65c_size_8abf5, Cond.instanceMethod yJx4a65c_size_8abf5, Cond.selects RJx4a65c yJx4a65c_size_8abf5 yJx4a65c_size_8abf5, Cond.code yJx4a65c_size_8abf5 cJx4a65c_size_8abf5 1 (some .int), Cond.fieldLink RJx4a65c 48 "java/util/ArrayList" "size" "I", Cond.methodLink RX6 53 yX1_init]
def wsL_law0_r5 : List Cond := [Cond.instanceMethod yX1_init, Cond.code yX1_init cX1_init 2 none, Cond.methodLink RX1 3 objectInit, Cond.fieldLink RX1 9 "Dataroom$Card" "sealedTill" "I", Cond.fieldLink RX1 15 "Dataroom$Card" "number" "I", Cond.methodLink RX6 56 yJx4a65c_add_9ea2d, Cond.instanceMethod yJx4a65c_add_9ea2d, Cond.selects RJx4a65c yJx4a65c_add_9ea2d yJx4a65c_add_9ea2d, Cond.code yJx4a65c_add_9ea2d cJx4a65c_add_9ea2d 2 (some .boolean), Cond.fieldLink RJx4a65c 63 "java/util/ArrayList" "modCount" "I", Cond.sameField "java/util/ArrayList" "java/util/AbstractList" "modCount" "I", Cond.methodLink RJx4a65c 131 yJx4a65c_add_72be8, Cond.instanceMethod yJx4a65c_add_72be8, Cond.selects RJx4a65c yJx4a65c_add_72be8 yJx4a65c_add_72be8, Cond.code yJx4a65c_add_72be8 cJx4a65c_add_72be8 4 none, Cond.methodLink RJx4a65c 129 yJx4a65c_grow_d5877, Cond.instanceMethod yJx4a65c_grow_d5877, Cond.selects RJx4a65c yJx4a65c_grow_d5877 yJx4a65c_grow_d5877, Cond.code yJx4a65c_grow_d5877 cJx4a65c_grow_d5877 1 (some (.array (.object "java/lang/Object"))), Cond.methodLink RJx4a65c 69 yJx4a65c_grow_92f84, Cond.instanceMethod yJx4a65c_grow_92f84, Cond.selects RJx4a65c yJx4a65c_grow_92f84 yJx4a65c_grow_92f84, Cond.code yJx4a65c_grow_92f84 cJx4a65c_grow_92f84 4 (some (.array (.object "java/lang/Object"))), Cond.methodLink RJx4a65c 79 Lib.Math.max.name]
def wsL_law0_r6 : List Cond := [Cond.static Lib.Math.max.name, Cond.initialized "java/lang/Math", Cond.code Lib.Math.max.name Lib.Math.max.code 2 (some .int), Cond.classLink RJx4a65c 7 "java/lang/Object", Cond.methodLink RJx4a65c 73 yJ8_newLength_cabcc, Cond.static yJ8_newLength_cabcc, Cond.initialized RJ8, Cond.code yJ8_newLength_cabcc cJ8_newLength_cabcc 4 (some .int), Cond.methodLink RJ8 194 Lib.Math.max.name, Cond.constant RJ8 200 (2147483639), Cond.methodLink RJ8 201 yJ8_hugeLength_7cf53, Cond.static yJ8_hugeLength_7cf53, Cond.code yJ8_hugeLength_7cf53 cJ8_hugeLength_7cf53 3 (some .int), Cond.methodLink RJx4a65c 66 yJ7_copyOf_1904c, Cond.static yJ7_copyOf_1904c, Cond.initialized RJ7, Cond.code yJ7_copyOf_1904c cJ7_copyOf_1904c 2 (some (.array (.object "java/lang/Object"))), Cond.methodLink RJ7 86 ⟨"java/lang/Object", "getClass", "()Ljava/lang/Class;"⟩, Cond.selects "[Ljava/lang/Object;" ⟨"java/lang/Object", "getClass", "()Ljava/lang/Class;"⟩ ⟨"java/lang/Object", "getClass", "()Ljava/lang/Class;"⟩, Cond.instanceMethod ⟨"java/lang/Object", "getClass", "()Ljava/lang/Class;"⟩, Cond.native ⟨"java/lang/Object", "getClass", "()Ljava/lang/Class;"⟩, Cond.methodLink RJ7 300 yJ7_copyOf_6403c, Cond.static yJ7_copyOf_6403c, Cond.code yJ7_copyOf_6403c cJ7_copyOf_6403c 4 (some (.array (.object "java/lang/Object")))]
def wsL_law0_r7 : List Cond := [Cond.classLink RJ7 110 "[Ljava/lang/Object;", Cond.classLink RJ7 2 "java/lang/Object", Cond.methodLink RJ7 304 Lib.Math.min.name, Cond.static Lib.Math.min.name, Cond.code Lib.Math.min.name Lib.Math.min.code 2 (some .int), Cond.methodLink RJ7 150 arraycopyName, Cond.native arraycopyName, Cond.static arraycopyName, Cond.initialized "java/lang/System", Cond.methodLink RL 84 yX7_file, Cond.instanceMethod yX7_file, Cond.selects RX7 yX7_file yX7_file, Cond.code yX7_file cX7_file 3 (some .int), Cond.fieldLink RX7 57 "DataroomModel" "files" "I", Cond.methodLink RX7 60 yX7_in, Cond.static yX7_in, Cond.code yX7_in cX7_in 3 (some .boolean), Cond.methodLink RX7 67 yX7_goesWell, Cond.instanceMethod yX7_goesWell, Cond.selects RX7 yX7_goesWell yX7_goesWell, Cond.code yX7_goesWell cX7_goesWell 2 (some .boolean), Cond.fieldLink RX7 53 "DataroomModel" "thrown" "I", Cond.methodLink RL 85 yX7_thrown, Cond.instanceMethod yX7_thrown]
def wsL_law0_r8 : List Cond := [Cond.selects RX7 yX7_thrown yX7_thrown, Cond.code yX7_thrown cX7_thrown 1 (some .int), Cond.methodLink RL 89 yL_change, Cond.static yL_change, Cond.codeWith yL_change cL_change 5 (some .int) [(0, 10, 13, 21), (0, 10, 17, 13)], Cond.classLink RL 21 "java/lang/IndexOutOfBoundsException", Cond.methodLink RL 17 yX6_change, Cond.instanceMethod yX6_change, Cond.selects RX6 yX6_change yX6_change, Cond.code yX6_change cX6_change 6 (some .int), Cond.classLink RX6 72 "Dataroom$Party", Cond.methodLink RX6 60 yX6_fileAt, Cond.instanceMethod yX6_fileAt, Cond.selects RX6 yX6_fileAt yX6_fileAt, Cond.code yX6_fileAt cX6_fileAt 2 (some (.object "Dataroom$Card")), Cond.classLink RX6 51 "Dataroom$Card", Cond.methodLink RX6 90 yX6_requireFile, Cond.instanceMethod yX6_requireFile, Cond.selects RX6 yX6_requireFile yX6_requireFile, Cond.code yX6_requireFile cX6_requireFile 2 none, Cond.classLink RX6 143 "java/lang/IndexOutOfBoundsException", Cond.initialized "java/lang/IndexOutOfBoundsException", Cond.methodLink RX6 68 yJx4a65c_get_915e3, Cond.instanceMethod yJx4a65c_get_915e3]
def wsL_law0_r9 : List Cond := [Cond.selects RJx4a65c yJx4a65c_get_915e3 yJx4a65c_get_915e3, Cond.code yJx4a65c_get_915e3 cJx4a65c_get_915e3 2 (some (.object "java/lang/Object")), Cond.methodLink RJx4a65c 118 yJ15_checkIndex_7cf53, Cond.static yJ15_checkIndex_7cf53, Cond.initialized RJ15, Cond.code yJ15_checkIndex_7cf53 cJ15_checkIndex_7cf53 2 (some .int), Cond.methodLink RJ15 105 yJ3_checkIndex_8e157, Cond.static yJ3_checkIndex_8e157, Cond.initialized RJ3, Cond.code yJ3_checkIndex_8e157 cJ3_checkIndex_8e157 3 (some .int), Cond.methodLink RJx4a65c 123 yJx4a65c_elementData_915e3, Cond.instanceMethod yJx4a65c_elementData_915e3, Cond.selects RJx4a65c yJx4a65c_elementData_915e3 yJx4a65c_elementData_915e3, Cond.code yJx4a65c_elementData_915e3 cJx4a65c_elementData_915e3 2 (some (.object "java/lang/Object")), Cond.methodLink RX6 74 yX6_recall, Cond.instanceMethod yX6_recall, Cond.selects RX6 yX6_recall yX6_recall, Cond.code yX6_recall cX6_recall 6 (some .int), Cond.classLink RX6 129 "Dataroom$Answer", Cond.methodLink RX6 209 yX0_standsFor, Cond.instanceMethod yX0_standsFor, Cond.selects RX0 yX0_standsFor yX0_standsFor, Cond.initialized RX0, Cond.code yX0_standsFor cX0_standsFor 2 (some .boolean)]
def wsL_law0_r10 : List Cond := [Cond.fieldLink RX0 25 "Dataroom$Answer" "recalled" "Z", Cond.fieldLink RX0 7 "Dataroom$Answer" "party" "I", Cond.methodLink RX6 205 yX6_holds, Cond.static yX6_holds, Cond.code yX6_holds cX6_holds 2 (some .boolean), Cond.methodLink RX6 220 yX6_learnAnew, Cond.instanceMethod yX6_learnAnew, Cond.selects RX6 yX6_learnAnew yX6_learnAnew, Cond.code yX6_learnAnew cX6_learnAnew 4 none, Cond.methodLink RX6 224 yX4_forget, Cond.instanceMethod yX4_forget, Cond.selects RX4 yX4_forget yX4_forget, Cond.initialized RX4, Cond.code yX4_forget cX4_forget 2 none, Cond.fieldLink RX4 19 "Dataroom$Party" "known" "[LDataroom$Knowledge;", Cond.methodLink RX4 51 yX2_forget, Cond.instanceMethod yX2_forget, Cond.selects RX2 yX2_forget yX2_forget, Cond.code yX2_forget cX2_forget 2 none, Cond.fieldLink RX2 15 "Dataroom$Knowledge" "learned" "I", Cond.methodLink RX6 137 yX4_learn, Cond.instanceMethod yX4_learn, Cond.selects RX4 yX4_learn yX4_learn, Cond.code yX4_learn cX4_learn 4 none]
def wsL_law0_r11 : List Cond := [Cond.static yX6_covers, Cond.code yX6_covers cX6_covers 2 (some .boolean), Cond.methodLink RX4 47 yX2_learn, Cond.instanceMethod yX2_learn, Cond.selects RX2 yX2_learn yX2_learn, Cond.code yX2_learn cX2_learn 4 none, Cond.methodLink RL 92 yX7_change, Cond.instanceMethod yX7_change, Cond.selects RX7 yX7_change yX7_change, Cond.code yX7_change cX7_change 4 (some .int), Cond.methodLink RX7 74 yX7_isFile, Cond.instanceMethod yX7_isFile, Cond.selects RX7 yX7_isFile yX7_isFile, Cond.code yX7_isFile cX7_isFile 2 (some .boolean), Cond.methodLink RX7 77 yX7_recall, Cond.instanceMethod yX7_recall, Cond.selects RX7 yX7_recall yX7_recall, Cond.code yX7_recall cX7_recall 6 (some .int), Cond.fieldLink RX7 71 "DataroomModel" "answers" "I", Cond.methodLink RL 93 yL_party, Cond.static yL_party, Cond.codeWith yL_party cL_party 4 (some .int) [(0, 9, 12, 13), (0, 9, 15, 15)], Cond.methodLink RL 23 yX6_party, Cond.instanceMethod yX6_party]
def wsL_law0_r12 : List Cond := [Cond.selects RX6 yX6_party yX6_party, Cond.code yX6_party cX6_party 3 (some .int), Cond.classLink RX6 72 RX4, Cond.instantiable RX4 5, Cond.methodLink RX6 80 yX4_init, Cond.instanceMethod yX4_init, Cond.code yX4_init cX4_init 4 none, Cond.methodLink RX4 3 objectInit, Cond.classLink RX4 9 RX5, Cond.fieldLink RX4 11 "Dataroom$Party" "rights" "[LDataroom$Right;", Cond.classLink RX4 17 RX2, Cond.fieldLink RX4 23 "Dataroom$Party" "fared" "[I", Cond.fieldLink RX4 27 "Dataroom$Party" "place" "I", Cond.fieldLink RX4 31 "Dataroom$Party" "budget" "I", Cond.methodLink RL 95 yX7_party, Cond.instanceMethod yX7_party, Cond.selects RX7 yX7_party yX7_party, Cond.code yX7_party cX7_party 3 (some .int), Cond.fieldLink RX7 64 "DataroomModel" "parties" "I", Cond.methodLink RL 96 yL_budget, Cond.static yL_budget, Cond.codeWith yL_budget cL_budget 5 (some .int) [(0, 10, 13, 21), (0, 10, 17, 13)], Cond.methodLink RL 26 yX6_budget, Cond.instanceMethod yX6_budget]
def wsL_law0_r13 : List Cond := [Cond.selects RX6 yX6_budget yX6_budget, Cond.code yX6_budget cX6_budget 5 (some .int), Cond.methodLink RX6 83 yX6_partyAt, Cond.instanceMethod yX6_partyAt, Cond.selects RX6 yX6_partyAt yX6_partyAt, Cond.code yX6_partyAt cX6_partyAt 2 (some (.object "Dataroom$Party")), Cond.methodLink RL 98 yX7_budget, Cond.instanceMethod yX7_budget, Cond.selects RX7 yX7_budget yX7_budget, Cond.code yX7_budget cX7_budget 5 (some .int), Cond.methodLink RX7 81 yX7_isParty, Cond.instanceMethod yX7_isParty, Cond.selects RX7 yX7_isParty yX7_isParty, Cond.code yX7_isParty cX7_isParty 2 (some .boolean), Cond.methodLink RL 99 yL_right, Cond.static yL_right, Cond.codeWith yL_right cL_right 7 (some .int) [(0, 11, 14, 21), (0, 11, 18, 13)], Cond.methodLink RL 29 yX6_right, Cond.instanceMethod yX6_right, Cond.selects RX6 yX6_right yX6_right, Cond.code yX6_right cX6_right 7 none, Cond.classLink RX6 93 RX5, Cond.instantiable RX5 3, Cond.initialized RX5]
def wsL_law0_r14 : List Cond := [Cond.methodLink RX6 95 yX5_init, Cond.instanceMethod yX5_init, Cond.code yX5_init cX5_init 4 none, Cond.methodLink RX5 3 objectInit, Cond.fieldLink RX5 9 "Dataroom$Right" "kind" "I", Cond.fieldLink RX5 15 "Dataroom$Right" "from" "I", Cond.fieldLink RX5 18 "Dataroom$Right" "to" "I", Cond.methodLink RX6 97 yX4_setRight, Cond.instanceMethod yX4_setRight, Cond.selects RX4 yX4_setRight yX4_setRight, Cond.code yX4_setRight cX4_setRight 3 none, Cond.methodLink RL 102 yX7_right, Cond.instanceMethod yX7_right, Cond.selects RX7 yX7_right yX7_right, Cond.code yX7_right cX7_right 8 none, Cond.methodLink RL 103 yL_takeBack, Cond.static yL_takeBack, Cond.codeWith yL_takeBack cL_takeBack 5 (some .int) [(0, 10, 13, 21)], Cond.methodLink RL 33 yX6_takeBack, Cond.instanceMethod yX6_takeBack, Cond.selects RX6 yX6_takeBack yX6_takeBack, Cond.code yX6_takeBack cX6_takeBack 4 (some .int), Cond.methodLink RX6 101 yX4_rightFor, Cond.instanceMethod yX4_rightFor]
def wsL_law0_r15 : List Cond := [Cond.selects RX4 yX4_rightFor yX4_rightFor, Cond.code yX4_rightFor cX4_rightFor 2 (some (.object "Dataroom$Right")), Cond.methodLink RL 105 yX7_takeBack, Cond.instanceMethod yX7_takeBack, Cond.selects RX7 yX7_takeBack yX7_takeBack, Cond.code yX7_takeBack cX7_takeBack 4 (some .int), Cond.methodLink RL 106 yL_seal, Cond.static yL_seal, Cond.codeWith yL_seal cL_seal 4 (some .int) [(0, 6, 9, 21), (0, 6, 12, 13)], Cond.methodLink RL 36 yX6_seal, Cond.instanceMethod yX6_seal, Cond.selects RX6 yX6_seal yX6_seal, Cond.code yX6_seal cX6_seal 4 none, Cond.methodLink RL 109 yX7_seal, Cond.instanceMethod yX7_seal, Cond.selects RX7 yX7_seal yX7_seal, Cond.code yX7_seal cX7_seal 4 none, Cond.methodLink RL 110 yL_pass, Cond.static yL_pass, Cond.codeWith yL_pass cL_pass 4 (some .int) [(0, 9, 12, 13), (0, 9, 15, 15)], Cond.methodLink RL 40 yX6_pass, Cond.instanceMethod yX6_pass, Cond.selects RX6 yX6_pass yX6_pass, Cond.code yX6_pass cX6_pass 2 (some .int)]
def wsL_law0_r16 : List Cond := [Cond.fieldLink RX6 108 "Dataroom" "now" "I", Cond.methodLink RL 112 yX7_pass, Cond.instanceMethod yX7_pass, Cond.selects RX7 yX7_pass yX7_pass, Cond.code yX7_pass cX7_pass 3 (some .int), Cond.fieldLink RX7 84 "DataroomModel" "now" "I", Cond.methodLink RL 113 yL_ask, Cond.static yL_ask, Cond.codeWith yL_ask cL_ask 6 (some .int) [(0, 12, 15, 21), (0, 12, 19, 13), (0, 12, 23, 15)], Cond.methodLink RL 43 yX6_ask, Cond.instanceMethod yX6_ask, Cond.selects RX6 yX6_ask yX6_ask, Cond.code yX6_ask cX6_ask 7 (some .int), Cond.classLink RX6 129 RX0, Cond.instantiable RX0 6, Cond.methodLink RX6 113 yX6_requireQuestion, Cond.instanceMethod yX6_requireQuestion, Cond.selects RX6 yX6_requireQuestion yX6_requireQuestion, Cond.code yX6_requireQuestion cX6_requireQuestion 3 none, Cond.methodLink RX6 118 yX6_refusalOf, Cond.instanceMethod yX6_refusalOf, Cond.selects RX6 yX6_refusalOf yX6_refusalOf, Cond.code yX6_refusalOf cX6_refusalOf 4 (some .int), Cond.methodLink RX6 194 yX6_lacksRight]
def wsL_law0_r17 : List Cond := [Cond.instanceMethod yX6_lacksRight, Cond.selects RX6 yX6_lacksRight yX6_lacksRight, Cond.code yX6_lacksRight cX6_lacksRight 4 (some .boolean), Cond.methodLink RX6 172 yX4_rightIn, Cond.instanceMethod yX4_rightIn, Cond.selects RX4 yX4_rightIn yX4_rightIn, Cond.code yX4_rightIn cX4_rightIn 4 (some .int), Cond.methodLink RX4 35 yX4_rightFor, Cond.methodLink RX4 39 yX5_in, Cond.instanceMethod yX5_in, Cond.selects RX5 yX5_in yX5_in, Cond.code yX5_in cX5_in 2 (some .int), Cond.methodLink RX6 198 yX6_hasSealed, Cond.instanceMethod yX6_hasSealed, Cond.selects RX6 yX6_hasSealed yX6_hasSealed, Cond.code yX6_hasSealed cX6_hasSealed 3 (some .boolean), Cond.methodLink RX6 175 yX1_isClosedIn, Cond.instanceMethod yX1_isClosedIn, Cond.selects RX1 yX1_isClosedIn yX1_isClosedIn, Cond.code yX1_isClosedIn cX1_isClosedIn 2 (some .boolean), Cond.methodLink RX6 201 yX4_wouldFindUnread, Cond.instanceMethod yX4_wouldFindUnread, Cond.selects RX4 yX4_wouldFindUnread yX4_wouldFindUnread, Cond.code yX4_wouldFindUnread cX4_wouldFindUnread 5 (some .boolean)]
def wsL_law0_r18 : List Cond := [Cond.methodLink RX4 61 yX4_rightIn, Cond.methodLink RX4 65 yX4_wouldFind, Cond.instanceMethod yX4_wouldFind, Cond.selects RX4 yX4_wouldFind yX4_wouldFind, Cond.code yX4_wouldFind cX4_wouldFind 5 (some .boolean), Cond.methodLink RX4 69 yX2_wouldReach, Cond.instanceMethod yX2_wouldReach, Cond.selects RX2 yX2_wouldReach yX2_wouldReach, Cond.code yX2_wouldReach cX2_wouldReach 3 (some .boolean), Cond.methodLink RX2 27 yX2_knows, Cond.instanceMethod yX2_knows, Cond.selects RX2 yX2_knows yX2_knows, Cond.code yX2_knows cX2_knows 4 (some .boolean), Cond.methodLink RX6 152 yX4_learnedInAll, Cond.instanceMethod yX4_learnedInAll, Cond.selects RX4 yX4_learnedInAll yX4_learnedInAll, Cond.code yX4_learnedInAll cX4_learnedInAll 3 (some .int), Cond.methodLink RX6 140 yX4_costOf, Cond.instanceMethod yX4_costOf, Cond.selects RX4 yX4_costOf yX4_costOf, Cond.code yX4_costOf cX4_costOf 5 (some .int), Cond.methodLink RX4 57 yX2_knows, Cond.methodLink RX6 122 yX4_countQuestion, Cond.instanceMethod yX4_countQuestion]
def wsL_law0_r19 : List Cond := [Cond.selects RX4 yX4_countQuestion yX4_countQuestion, Cond.code yX4_countQuestion cX4_countQuestion 3 none, Cond.methodLink RX6 125 yX6_sumOf, Cond.instanceMethod yX6_sumOf, Cond.selects RX6 yX6_sumOf yX6_sumOf, Cond.code yX6_sumOf cX6_sumOf 5 (some .int), Cond.methodLink RX6 134 yX0_init, Cond.instanceMethod yX0_init, Cond.code yX0_init cX0_init 6 none, Cond.methodLink RX0 1 objectInit, Cond.fieldLink RX0 13 "Dataroom$Answer" "files" "I", Cond.fieldLink RX0 16 "Dataroom$Answer" "bit" "I", Cond.fieldLink RX0 19 "Dataroom$Answer" "given" "I", Cond.fieldLink RX0 22 "Dataroom$Answer" "hour" "I", Cond.methodLink RL 116 yX7_ask, Cond.instanceMethod yX7_ask, Cond.selects RX7 yX7_ask yX7_ask, Cond.code yX7_ask cX7_ask 8 (some .int), Cond.methodLink RX7 121 yX7_isQuestion, Cond.instanceMethod yX7_isQuestion, Cond.selects RX7 yX7_isQuestion yX7_isQuestion, Cond.code yX7_isQuestion cX7_isQuestion 3 (some .boolean), Cond.methodLink RX7 124 yX7_refusal, Cond.instanceMethod yX7_refusal]
def wsL_law0_r20 : List Cond := [Cond.selects RX7 yX7_refusal yX7_refusal, Cond.code yX7_refusal cX7_refusal 7 (some .int), Cond.methodLink RX7 108 yX7_rightOf, Cond.instanceMethod yX7_rightOf, Cond.selects RX7 yX7_rightOf yX7_rightOf, Cond.code yX7_rightOf cX7_rightOf 4 (some .int), Cond.methodLink RX7 111 yX7_wouldTell, Cond.instanceMethod yX7_wouldTell, Cond.selects RX7 yX7_wouldTell yX7_wouldTell, Cond.code yX7_wouldTell cX7_wouldTell 9 (some .boolean), Cond.methodLink RX7 100 yX7_isAsked, Cond.static yX7_isAsked, Cond.code yX7_isAsked cX7_isAsked 2 (some .boolean), Cond.methodLink RX7 97 yX7_know, Cond.instanceMethod yX7_know, Cond.selects RX7 yX7_know yX7_know, Cond.code yX7_know cX7_know 6 (some .int), Cond.methodLink RX7 94 yX7_learn, Cond.instanceMethod yX7_learn, Cond.selects RX7 yX7_learn yX7_learn, Cond.code yX7_learn cX7_learn 3 (some .boolean), Cond.methodLink RX7 87 yX7_reduce, Cond.instanceMethod yX7_reduce, Cond.selects RX7 yX7_reduce yX7_reduce]
def wsL_law0_r21 : List Cond := [Cond.code yX7_reduce cX7_reduce 4 (some .int), Cond.methodLink RX7 91 yX7_highest, Cond.static yX7_highest, Cond.code yX7_highest cX7_highest 3 (some .int), Cond.methodLink RX7 104 yX7_found, Cond.instanceMethod yX7_found, Cond.selects RX7 yX7_found yX7_found, Cond.code yX7_found cX7_found 3 (some .int), Cond.methodLink RX7 114 yX7_spentBy, Cond.instanceMethod yX7_spentBy, Cond.selects RX7 yX7_spentBy yX7_spentBy, Cond.code yX7_spentBy cX7_spentBy 4 (some .int), Cond.methodLink RX7 117 yX7_costOf, Cond.instanceMethod yX7_costOf, Cond.selects RX7 yX7_costOf yX7_costOf, Cond.code yX7_costOf cX7_costOf 6 (some .int), Cond.methodLink RL 117 yL_cost, Cond.static yL_cost, Cond.codeWith yL_cost cL_cost 6 (some .int) [(0, 12, 15, 21), (0, 12, 19, 13)], Cond.methodLink RL 47 yX6_cost, Cond.instanceMethod yX6_cost, Cond.selects RX6 yX6_cost yX6_cost, Cond.code yX6_cost cX6_cost 5 (some .int), Cond.methodLink RL 119 yX7_cost]
def wsL_law0_r22 : List Cond := [Cond.instanceMethod yX7_cost, Cond.selects RX7 yX7_cost yX7_cost, Cond.code yX7_cost cX7_cost 5 (some .int), Cond.methodLink RL 120 yL_answer, Cond.static yL_answer, Cond.codeWith yL_answer cL_answer 5 (some .int) [(0, 10, 13, 21), (0, 10, 17, 13)], Cond.methodLink RL 50 yX6_answer, Cond.instanceMethod yX6_answer, Cond.selects RX6 yX6_answer yX6_answer, Cond.code yX6_answer cX6_answer 3 (some .int), Cond.methodLink RX6 148 yX0_tell, Cond.instanceMethod yX0_tell, Cond.selects RX0 yX0_tell yX0_tell, Cond.code yX0_tell cX0_tell 2 (some .int), Cond.methodLink RL 122 yX7_answer, Cond.instanceMethod yX7_answer, Cond.selects RX7 yX7_answer yX7_answer, Cond.code yX7_answer cX7_answer 4 (some .int), Cond.methodLink RL 123 yL_spent, Cond.static yL_spent, Cond.codeWith yL_spent cL_spent 4 (some .int) [(0, 9, 12, 21)], Cond.methodLink RL 53 yX6_spent, Cond.instanceMethod yX6_spent, Cond.selects RX6 yX6_spent yX6_spent]
def wsL_law0_r23 : List Cond := [Cond.code yX6_spent cX6_spent 2 (some .int), Cond.methodLink RL 125 yX7_spent, Cond.instanceMethod yX7_spent, Cond.selects RX7 yX7_spent yX7_spent, Cond.code yX7_spent cX7_spent 2 (some .int), Cond.methodLink RL 126 yL_spentAnew, Cond.static yL_spentAnew, Cond.codeWith yL_spentAnew cL_spentAnew 4 (some .int) [(0, 9, 12, 21)], Cond.methodLink RL 56 yX6_spentAnew, Cond.instanceMethod yX6_spentAnew, Cond.selects RX6 yX6_spentAnew yX6_spentAnew, Cond.code yX6_spentAnew cX6_spentAnew 5 (some .int), Cond.methodLink RX6 155 yX6_countKnownSets, Cond.instanceMethod yX6_countKnownSets, Cond.selects RX6 yX6_countKnownSets yX6_countKnownSets, Cond.code yX6_countKnownSets cX6_countKnownSets 5 (some .int), Cond.methodLink RX6 230 yX3_begin, Cond.instanceMethod yX3_begin, Cond.selects RX3 yX3_begin yX3_begin, Cond.code yX3_begin cX3_begin 3 none, Cond.methodLink RX3 15 Lib.Math.max.name, Cond.methodLink RX3 21 Lib.Math.min.name, Cond.fieldLink RX3 24 "Dataroom$Marks" "used" "I", Cond.methodLink RX6 233 yX6_covers]
def wsL_law0_r24 : List Cond := [Cond.methodLink RX6 236 yX3_add, Cond.instanceMethod yX3_add, Cond.selects RX3 yX3_add yX3_add, Cond.code yX3_add cX3_add 4 none, Cond.methodLink RX3 28 yX3_isMarked, Cond.instanceMethod yX3_isMarked, Cond.selects RX3 yX3_isMarked yX3_isMarked, Cond.code yX3_isMarked cX3_isMarked 3 (some .boolean), Cond.methodLink RX3 32 yX3_crossed, Cond.static yX3_crossed, Cond.code yX3_crossed cX3_crossed 7 (some .long), Cond.fieldLink RX3 42 "Dataroom$Marks" "LACKING" "[J", Cond.methodLink RX6 238 yX3_sets, Cond.instanceMethod yX3_sets, Cond.selects RX3 yX3_sets yX3_sets, Cond.code yX3_sets cX3_sets 3 (some .int), Cond.methodLink RX3 36 yJ13_bitCount_95d88, Cond.static yJ13_bitCount_95d88, Cond.initialized RJ13, Cond.code yJ13_bitCount_95d88 cJ13_bitCount_95d88 2 (some .int), Cond.constantLong RJ13 314 (6148914691236517205), Cond.constantLong RJ13 316 (3689348814741910323), Cond.constantLong RJ13 318 (1085102592571150095), Cond.methodLink RX6 158 yX6_generatorsOf]
def wsL_law0_r25 : List Cond := [Cond.static yX6_generatorsOf, Cond.code yX6_generatorsOf cX6_generatorsOf 3 (some .int), Cond.methodLink RL 128 yX7_spentAnew, Cond.instanceMethod yX7_spentAnew, Cond.selects RX7 yX7_spentAnew yX7_spentAnew, Cond.code yX7_spentAnew cX7_spentAnew 2 (some .int), Cond.methodLink RL 129 yL_finds, Cond.static yL_finds, Cond.codeWith yL_finds cL_finds 5 (some .int) [(0, 10, 13, 21)], Cond.methodLink RL 59 yX6_finds, Cond.instanceMethod yX6_finds, Cond.selects RX6 yX6_finds yX6_finds, Cond.code yX6_finds cX6_finds 6 (some .int), Cond.methodLink RX6 165 yX2_knows, Cond.methodLink RL 131 yX7_finds, Cond.instanceMethod yX7_finds, Cond.selects RX7 yX7_finds yX7_finds, Cond.code yX7_finds cX7_finds 3 (some .int), Cond.methodLink RX7 127 yX7_findsBy, Cond.instanceMethod yX7_findsBy, Cond.selects RX7 yX7_findsBy yX7_findsBy, Cond.code yX7_findsBy cX7_findsBy 5 (some .int), Cond.methodLink RL 132 yL_together, Cond.static yL_together]
def wsL_law0_r26 : List Cond := [Cond.codeWith yL_together cL_together 5 (some .int) [(0, 10, 13, 21), (0, 10, 17, 13)], Cond.methodLink RL 62 yX6_together, Cond.instanceMethod yX6_together, Cond.selects RX6 yX6_together yX6_together, Cond.code yX6_together cX6_together 5 (some .int), Cond.methodLink RX6 169 yX6_shareKnowledge, Cond.instanceMethod yX6_shareKnowledge, Cond.selects RX6 yX6_shareKnowledge yX6_shareKnowledge, Cond.code yX6_shareKnowledge cX6_shareKnowledge 5 none, Cond.methodLink RX6 241 yX2_forget, Cond.methodLink RX6 242 yX2_learnFrom, Cond.instanceMethod yX2_learnFrom, Cond.selects RX2 yX2_learnFrom yX2_learnFrom, Cond.code yX2_learnFrom cX2_learnFrom 3 none, Cond.methodLink RX2 23 yX2_learn, Cond.methodLink RL 134 yX7_together, Cond.instanceMethod yX7_together, Cond.selects RX7 yX7_together yX7_together, Cond.code yX7_together cX7_together 4 (some .int), Cond.methodLink RL 135 yL_rightTo, Cond.static yL_rightTo, Cond.codeWith yL_rightTo cL_rightTo 5 (some .int) [(0, 10, 13, 21)], Cond.methodLink RL 65 yX6_rightTo, Cond.instanceMethod yX6_rightTo]
def wsL_law0_r27 : List Cond := [Cond.selects RX6 yX6_rightTo yX6_rightTo, Cond.code yX6_rightTo cX6_rightTo 4 (some .int), Cond.methodLink RL 137 yX7_rightTo, Cond.instanceMethod yX7_rightTo, Cond.selects RX7 yX7_rightTo yX7_rightTo, Cond.code yX7_rightTo cX7_rightTo 3 (some .int), Cond.methodLink RL 138 yL_isSealed, Cond.static yL_isSealed, Cond.codeWith yL_isSealed cL_isSealed 4 (some .int) [(0, 16, 19, 21)], Cond.methodLink RL 68 yX6_isSealed, Cond.instanceMethod yX6_isSealed, Cond.selects RX6 yX6_isSealed yX6_isSealed, Cond.code yX6_isSealed cX6_isSealed 2 (some .boolean), Cond.methodLink RL 140 yX7_isSealed, Cond.instanceMethod yX7_isSealed, Cond.selects RX7 yX7_isSealed yX7_isSealed, Cond.code yX7_isSealed cX7_isSealed 2 (some .boolean), Cond.methodLink RL 141 yL_count, Cond.static yL_count, Cond.codeWith yL_count cL_count 5 (some .int) [(0, 10, 13, 21), (0, 10, 17, 13)], Cond.methodLink RL 72 yX6_count, Cond.instanceMethod yX6_count, Cond.selects RX6 yX6_count yX6_count, Cond.code yX6_count cX6_count 4 (some .int)]
def wsL_law0_r28 : List Cond := [Cond.methodLink RX6 178 yX6_countStanding, Cond.instanceMethod yX6_countStanding, Cond.selects RX6 yX6_countStanding yX6_countStanding, Cond.code yX6_countStanding cX6_countStanding 4 (some .int), Cond.methodLink RX6 182 yX4_questions, Cond.instanceMethod yX4_questions, Cond.selects RX4 yX4_questions yX4_questions, Cond.code yX4_questions cX4_questions 2 (some .int), Cond.methodLink RL 143 yX7_count, Cond.instanceMethod yX7_count, Cond.selects RX7 yX7_count yX7_count, Cond.code yX7_count cX7_count 6 (some .int)]
def wsL_law0 : List Cond := (wsL_law0_r1 ++ (wsL_law0_r2 ++ (wsL_law0_r3 ++ (wsL_law0_r4 ++ (wsL_law0_r5 ++ (wsL_law0_r6 ++ (wsL_law0_r7 ++ (wsL_law0_r8 ++ (wsL_law0_r9 ++ (wsL_law0_r10 ++ (wsL_law0_r11 ++ (wsL_law0_r12 ++ (wsL_law0_r13 ++ (wsL_law0_r14 ++ (wsL_law0_r15 ++ (wsL_law0_r16 ++ (wsL_law0_r17 ++ (wsL_law0_r18 ++ (wsL_law0_r19 ++ (wsL_law0_r20 ++ (wsL_law0_r21 ++ (wsL_law0_r22 ++ (wsL_law0_r23 ++ (wsL_law0_r24 ++ (wsL_law0_r25 ++ (wsL_law0_r26 ++ (wsL_law0_r27 ++ wsL_law0_r28))))))))))))))))))))))))))) ++ wsX60 ++ wsX70 ++ wsJx4a65c0 ++ wsX20 ++ wsX30 ++ wsX10 ++ wsX00 ++ wsX40 ++ wsX50 ++ ([] : List Cond)
def wsL_law : List Cond := wsL_law0 ++ (vx_atS RX6 48 "java/lang/IllegalStateException" ["java/lang/RuntimeException", "java/lang/Exception"]).filter goodWord ++ (vx_atS RX6 193 "java/lang/IllegalArgumentException" ["java/lang/RuntimeException", "java/lang/Exception"]).filter goodWord ++ (vx_atS RX6 147 "java/lang/IndexOutOfBoundsException" ["java/lang/RuntimeException", "java/lang/Exception"]).filter goodWord
set_option maxRecDepth 20000 in
theorem wsL_law_in0 : ∀ w ∈ wsL_law0, w ∈ lw_tbl := fun w h => (goodIn_p wsL_law0 [63, 66, 71, 74, 77, 97, 112, 728, 149, 152, 224, 245, 259, 263, 267, 271, 277, 274, 281, 284, 303, 309, 796, 799, 803, 792, 322, 326, 330, 350, 353, 356, 360, 365, 370, 373, 377, 381, 385, 389, 392, 396, 807, 811, 815, 404, 409, 819, 442, 446, 823, 827, 454, 459, 474, 831, 481, 485, 835, 492, 839, 499, 843, 507, 511, 516, 520, 524, 529, 533, 537, 541, 546, 550, 554, 558, 562, 567, 571, 575, 847, 851, 855, 859, 863, 866, 870, 874, 878, 881, 885, 889, 893, 605, 897, 612, 617, 901, 624, 905, 631, 635, 639, 646, 650, 653, 660, 663, 669, 909, 676, 913, 917, 684, 688, 693, 921, 701, 925, 708, 929, 715, 719, 723, 933] (by decide +kernel) (by decide +kernel) w h).1
theorem wsL_law_x0 : ∀ w ∈ (vx_atS RX6 48 "java/lang/IllegalStateException" ["java/lang/RuntimeException", "java/lang/Exception"]).filter goodWord, w ∈ lw_tbl := by decide +kernel
theorem wsL_law_x1 : ∀ w ∈ (vx_atS RX6 193 "java/lang/IllegalArgumentException" ["java/lang/RuntimeException", "java/lang/Exception"]).filter goodWord, w ∈ lw_tbl := by decide +kernel
theorem wsL_law_x2 : ∀ w ∈ (vx_atS RX6 147 "java/lang/IndexOutOfBoundsException" ["java/lang/RuntimeException", "java/lang/Exception"]).filter goodWord, w ∈ lw_tbl := by decide +kernel
theorem wsL_law_in : ∀ w ∈ wsL_law, w ∈ lw_tbl := fun w h => (List.mem_append.mp h).elim (fun h => (List.mem_append.mp h).elim (fun h => (List.mem_append.mp h).elim (fun h => wsL_law_in0 w h) (fun h => wsL_law_x0 w h)) (fun h => wsL_law_x1 w h)) (fun h => wsL_law_x2 w h)
theorem inlX0 : ∀ w ∈ wsX00, w ∈ wsL_law := fun _ h => List.mem_append_left _ (List.mem_append_left _ (List.mem_append_left _ (List.mem_append_left _ (List.mem_append_left _ (List.mem_append_left _ (List.mem_append_right _ h))))))
theorem inX0 : ∀ w ∈ wsX00, w ∈ lw_tbl := fun w h => wsL_law_in w (inlX0 w h)
theorem inlX1 : ∀ w ∈ wsX10, w ∈ wsL_law := fun _ h => List.mem_append_left _ (List.mem_append_left _ (List.mem_append_left _ (List.mem_append_left _ (List.mem_append_left _ (List.mem_append_left _ (List.mem_append_left _ (List.mem_append_right _ h)))))))
theorem inX1 : ∀ w ∈ wsX10, w ∈ lw_tbl := fun w h => wsL_law_in w (inlX1 w h)
theorem inlX2 : ∀ w ∈ wsX20, w ∈ wsL_law := fun _ h => List.mem_append_left _ (List.mem_append_left _ (List.mem_append_left _ (List.mem_append_left _ (List.mem_append_left _ (List.mem_append_left _ (List.mem_append_left _ (List.mem_append_left _ (List.mem_append_left _ (List.mem_append_right _ h)))))))))
theorem inX2 : ∀ w ∈ wsX20, w ∈ lw_tbl := fun w h => wsL_law_in w (inlX2 w h)
theorem inlX3 : ∀ w ∈ wsX30, w ∈ wsL_law := fun _ h => List.mem_append_left _ (List.mem_append_left _ (List.mem_append_left _ (List.mem_append_left _ (List.mem_append_left _ (List.mem_append_left _ (List.mem_append_left _ (List.mem_append_left _ (List.mem_append_right _ h))))))))
theorem inX3 : ∀ w ∈ wsX30, w ∈ lw_tbl := fun w h => wsL_law_in w (inlX3 w h)
theorem inlX4 : ∀ w ∈ wsX40, w ∈ wsL_law := fun _ h => List.mem_append_left _ (List.mem_append_left _ (List.mem_append_left _ (List.mem_append_left _ (List.mem_append_left _ (List.mem_append_right _ h)))))
theorem inX4 : ∀ w ∈ wsX40, w ∈ lw_tbl := fun w h => wsL_law_in w (inlX4 w h)
theorem inlX5 : ∀ w ∈ wsX50, w ∈ wsL_law := fun _ h => List.mem_append_left _ (List.mem_append_left _ (List.mem_append_left _ (List.mem_append_left _ (List.mem_append_right _ h))))
theorem inX5 : ∀ w ∈ wsX50, w ∈ lw_tbl := fun w h => wsL_law_in w (inlX5 w h)
theorem inlX6 : ∀ w ∈ wsX60, w ∈ wsL_law := fun _ h => List.mem_append_left _ (List.mem_append_left _ (List.mem_append_left _ (List.mem_append_left _ (List.mem_append_left _ (List.mem_append_left _ (List.mem_append_left _ (List.mem_append_left _ (List.mem_append_left _ (List.mem_append_left _ (List.mem_append_left _ (List.mem_append_left _ (List.mem_append_right _ h))))))))))))
theorem inX6 : ∀ w ∈ wsX60, w ∈ lw_tbl := fun w h => wsL_law_in w (inlX6 w h)
theorem inlX7 : ∀ w ∈ wsX70, w ∈ wsL_law := fun _ h => List.mem_append_left _ (List.mem_append_left _ (List.mem_append_left _ (List.mem_append_left _ (List.mem_append_left _ (List.mem_append_left _ (List.mem_append_left _ (List.mem_append_left _ (List.mem_append_left _ (List.mem_append_left _ (List.mem_append_left _ (List.mem_append_right _ h)))))))))))
theorem inX7 : ∀ w ∈ wsX70, w ∈ lw_tbl := fun w h => wsL_law_in w (inlX7 w h)
theorem inJx145de : ∀ w ∈ wsJx145de0, w ∈ lw_tbl := by decide +kernel
theorem inJx8e188 : ∀ w ∈ wsJx8e1880, w ∈ lw_tbl := by decide +kernel
theorem inJxab1ab : ∀ w ∈ wsJxab1ab0, w ∈ lw_tbl := by decide +kernel
theorem inJ13 : ∀ w ∈ wsJ130, w ∈ lw_tbl := by decide +kernel
theorem inJ9 : ∀ w ∈ wsJ90, w ∈ lw_tbl := by decide +kernel
theorem inJ0 : ∀ w ∈ wsJ00, w ∈ lw_tbl := by decide +kernel
theorem inJ10 : ∀ w ∈ wsJ100, w ∈ lw_tbl := by decide +kernel
theorem inJxa1e45 : ∀ w ∈ wsJxa1e450, w ∈ lw_tbl := by decide +kernel
theorem inJxc12de : ∀ w ∈ wsJxc12de0, w ∈ lw_tbl := by decide +kernel
theorem inlJx4a65c : ∀ w ∈ wsJx4a65c0, w ∈ wsL_law := fun _ h => List.mem_append_left _ (List.mem_append_left _ (List.mem_append_left _ (List.mem_append_left _ (List.mem_append_left _ (List.mem_append_left _ (List.mem_append_left _ (List.mem_append_left _ (List.mem_append_left _ (List.mem_append_left _ (List.mem_append_right _ h))))))))))
theorem inJx4a65c : ∀ w ∈ wsJx4a65c0, w ∈ lw_tbl := fun w h => wsL_law_in w (inlJx4a65c w h)
theorem inJ7 : ∀ w ∈ wsJ70, w ∈ lw_tbl := by decide +kernel
theorem inJx5ef63 : ∀ w ∈ wsJx5ef630, w ∈ lw_tbl := by decide +kernel
theorem inJxbd725 : ∀ w ∈ wsJxbd7250, w ∈ lw_tbl := by decide +kernel
theorem inJ15 : ∀ w ∈ wsJ150, w ∈ lw_tbl := by decide +kernel
theorem inJxf0a74 : ∀ w ∈ wsJxf0a740, w ∈ lw_tbl := by decide +kernel
theorem inJxa66e6 : ∀ w ∈ wsJxa66e60, w ∈ lw_tbl := by decide +kernel
theorem inJ8 : ∀ w ∈ wsJ80, w ∈ lw_tbl := by decide +kernel
theorem inJ3 : ∀ w ∈ wsJ30, w ∈ lw_tbl := by decide +kernel
end
section
theorem dX0_init_0 : decode cX0_init 0 = .ok (.aload_n 0, 1) := by decide +kernel
theorem dX0_init_1 : decode cX0_init 1 = .ok (.invokespecial 1, 3) := by decide +kernel
theorem dX0_init_4 : decode cX0_init 4 = .ok (.aload_n 0, 1) := by decide +kernel
theorem dX0_init_5 : decode cX0_init 5 = .ok (.iload_n 1, 1) := by decide +kernel
theorem dX0_init_6 : decode cX0_init 6 = .ok (.putfield 7, 3) := by decide +kernel
theorem dX0_init_9 : decode cX0_init 9 = .ok (.aload_n 0, 1) := by decide +kernel
theorem dX0_init_10 : decode cX0_init 10 = .ok (.iload_n 2, 1) := by decide +kernel
theorem dX0_init_11 : decode cX0_init 11 = .ok (.putfield 13, 3) := by decide +kernel
theorem dX0_init_14 : decode cX0_init 14 = .ok (.aload_n 0, 1) := by decide +kernel
theorem dX0_init_15 : decode cX0_init 15 = .ok (.iload_n 3, 1) := by decide +kernel
theorem dX0_init_16 : decode cX0_init 16 = .ok (.putfield 16, 3) := by decide +kernel
theorem dX0_init_19 : decode cX0_init 19 = .ok (.aload_n 0, 1) := by decide +kernel
theorem dX0_init_20 : decode cX0_init 20 = .ok (.iload 4, 2) := by decide +kernel
theorem dX0_init_22 : decode cX0_init 22 = .ok (.putfield 19, 3) := by decide +kernel
theorem dX0_init_25 : decode cX0_init 25 = .ok (.aload_n 0, 1) := by decide +kernel
theorem dX0_init_26 : decode cX0_init 26 = .ok (.iload 5, 2) := by decide +kernel
theorem dX0_init_28 : decode cX0_init 28 = .ok (.putfield 22, 3) := by decide +kernel
theorem dX0_init_31 : decode cX0_init 31 = .ok (.return_, 1) := by decide +kernel
theorem dX0_standsFor_0 : decode cX0_standsFor 0 = .ok (.aload_n 0, 1) := by decide +kernel
theorem dX0_standsFor_1 : decode cX0_standsFor 1 = .ok (.getfield 25, 3) := by decide +kernel
theorem dX0_standsFor_4 : decode cX0_standsFor 4 = .ok (.ifCond .ne 18, 3) := by decide +kernel
theorem dX0_standsFor_7 : decode cX0_standsFor 7 = .ok (.aload_n 0, 1) := by decide +kernel
theorem dX0_standsFor_8 : decode cX0_standsFor 8 = .ok (.getfield 7, 3) := by decide +kernel
theorem dX0_standsFor_11 : decode cX0_standsFor 11 = .ok (.aload_n 1, 1) := by decide +kernel
theorem dX0_standsFor_12 : decode cX0_standsFor 12 = .ok (.getfield 29, 3) := by decide +kernel
theorem dX0_standsFor_15 : decode cX0_standsFor 15 = .ok (.if_icmp .ne 7, 3) := by decide +kernel
theorem dX0_standsFor_18 : decode cX0_standsFor 18 = .ok (.iconst 1, 1) := by decide +kernel
theorem dX0_standsFor_19 : decode cX0_standsFor 19 = .ok (.goto 4, 3) := by decide +kernel
theorem dX0_standsFor_22 : decode cX0_standsFor 22 = .ok (.iconst 0, 1) := by decide +kernel
theorem dX0_standsFor_23 : decode cX0_standsFor 23 = .ok (.ireturn, 1) := by decide +kernel
theorem dX0_tell_0 : decode cX0_tell 0 = .ok (.iload_n 1, 1) := by decide +kernel
theorem dX0_tell_1 : decode cX0_tell 1 = .ok (.tableswitch 68 0 4 #[35, 40, 45, 50, 55], 35) := by decide +kernel
theorem dX0_tell_36 : decode cX0_tell 36 = .ok (.aload_n 0, 1) := by decide +kernel
theorem dX0_tell_37 : decode cX0_tell 37 = .ok (.getfield 7, 3) := by decide +kernel
theorem dX0_tell_40 : decode cX0_tell 40 = .ok (.ireturn, 1) := by decide +kernel
theorem dX0_tell_41 : decode cX0_tell 41 = .ok (.aload_n 0, 1) := by decide +kernel
theorem dX0_tell_42 : decode cX0_tell 42 = .ok (.getfield 13, 3) := by decide +kernel
theorem dX0_tell_45 : decode cX0_tell 45 = .ok (.ireturn, 1) := by decide +kernel
theorem dX0_tell_46 : decode cX0_tell 46 = .ok (.aload_n 0, 1) := by decide +kernel
theorem dX0_tell_47 : decode cX0_tell 47 = .ok (.getfield 16, 3) := by decide +kernel
theorem dX0_tell_50 : decode cX0_tell 50 = .ok (.ireturn, 1) := by decide +kernel
theorem dX0_tell_51 : decode cX0_tell 51 = .ok (.aload_n 0, 1) := by decide +kernel
theorem dX0_tell_52 : decode cX0_tell 52 = .ok (.getfield 19, 3) := by decide +kernel
theorem dX0_tell_55 : decode cX0_tell 55 = .ok (.ireturn, 1) := by decide +kernel
theorem dX0_tell_56 : decode cX0_tell 56 = .ok (.aload_n 0, 1) := by decide +kernel
theorem dX0_tell_57 : decode cX0_tell 57 = .ok (.getfield 25, 3) := by decide +kernel
theorem dX0_tell_60 : decode cX0_tell 60 = .ok (.ifCond .eq 7, 3) := by decide +kernel
theorem dX0_tell_63 : decode cX0_tell 63 = .ok (.iconst 1, 1) := by decide +kernel
theorem dX0_tell_64 : decode cX0_tell 64 = .ok (.goto 4, 3) := by decide +kernel
theorem dX0_tell_67 : decode cX0_tell 67 = .ok (.iconst 0, 1) := by decide +kernel
theorem dX0_tell_68 : decode cX0_tell 68 = .ok (.ireturn, 1) := by decide +kernel
theorem dX0_tell_69 : decode cX0_tell 69 = .ok (.aload_n 0, 1) := by decide +kernel
theorem dX0_tell_70 : decode cX0_tell 70 = .ok (.getfield 22, 3) := by decide +kernel
theorem dX0_tell_73 : decode cX0_tell 73 = .ok (.ireturn, 1) := by decide +kernel
theorem dX1_init_0 : decode cX1_init 0 = .ok (.aload_n 0, 1) := by decide +kernel
theorem dX1_init_1 : decode cX1_init 1 = .ok (.invokespecial 3, 3) := by decide +kernel
theorem dX1_init_4 : decode cX1_init 4 = .ok (.aload_n 0, 1) := by decide +kernel
theorem dX1_init_5 : decode cX1_init 5 = .ok (.iconst (-1), 1) := by decide +kernel
theorem dX1_init_6 : decode cX1_init 6 = .ok (.putfield 9, 3) := by decide +kernel
theorem dX1_init_9 : decode cX1_init 9 = .ok (.aload_n 0, 1) := by decide +kernel
theorem dX1_init_10 : decode cX1_init 10 = .ok (.iload_n 1, 1) := by decide +kernel
theorem dX1_init_11 : decode cX1_init 11 = .ok (.putfield 15, 3) := by decide +kernel
theorem dX1_init_14 : decode cX1_init 14 = .ok (.return_, 1) := by decide +kernel
theorem dX1_isClosedIn_0 : decode cX1_isClosedIn 0 = .ok (.iload_n 1, 1) := by decide +kernel
theorem dX1_isClosedIn_1 : decode cX1_isClosedIn 1 = .ok (.aload_n 0, 1) := by decide +kernel
theorem dX1_isClosedIn_2 : decode cX1_isClosedIn 2 = .ok (.getfield 9, 3) := by decide +kernel
theorem dX1_isClosedIn_5 : decode cX1_isClosedIn 5 = .ok (.if_icmp .gt 7, 3) := by decide +kernel
theorem dX1_isClosedIn_8 : decode cX1_isClosedIn 8 = .ok (.iconst 1, 1) := by decide +kernel
theorem dX1_isClosedIn_9 : decode cX1_isClosedIn 9 = .ok (.goto 4, 3) := by decide +kernel
theorem dX1_isClosedIn_12 : decode cX1_isClosedIn 12 = .ok (.iconst 0, 1) := by decide +kernel
theorem dX1_isClosedIn_13 : decode cX1_isClosedIn 13 = .ok (.ireturn, 1) := by decide +kernel
theorem dX2_init_0 : decode cX2_init 0 = .ok (.aload_n 0, 1) := by decide +kernel
theorem dX2_init_1 : decode cX2_init 1 = .ok (.invokespecial 3, 3) := by decide +kernel
theorem dX2_init_4 : decode cX2_init 4 = .ok (.aload_n 0, 1) := by decide +kernel
theorem dX2_init_5 : decode cX2_init 5 = .ok (.bipush 16, 2) := by decide +kernel
theorem dX2_init_7 : decode cX2_init 7 = .ok (.newarray .int, 2) := by decide +kernel
theorem dX2_init_9 : decode cX2_init 9 = .ok (.putfield 9, 3) := by decide +kernel
theorem dX2_init_12 : decode cX2_init 12 = .ok (.return_, 1) := by decide +kernel
theorem dX2_forget_0 : decode cX2_forget 0 = .ok (.iconst 0, 1) := by decide +kernel
theorem dX2_forget_1 : decode cX2_forget 1 = .ok (.istore_n 1, 1) := by decide +kernel
theorem dX2_forget_2 : decode cX2_forget 2 = .ok (.iload_n 1, 1) := by decide +kernel
theorem dX2_forget_3 : decode cX2_forget 3 = .ok (.aload_n 0, 1) := by decide +kernel
theorem dX2_forget_4 : decode cX2_forget 4 = .ok (.getfield 9, 3) := by decide +kernel
theorem dX2_forget_7 : decode cX2_forget 7 = .ok (.arraylength, 1) := by decide +kernel
theorem dX2_forget_8 : decode cX2_forget 8 = .ok (.if_icmp .ge 16, 3) := by decide +kernel
theorem dX2_forget_11 : decode cX2_forget 11 = .ok (.aload_n 0, 1) := by decide +kernel
theorem dX2_forget_12 : decode cX2_forget 12 = .ok (.getfield 9, 3) := by decide +kernel
theorem dX2_forget_15 : decode cX2_forget 15 = .ok (.iload_n 1, 1) := by decide +kernel
theorem dX2_forget_16 : decode cX2_forget 16 = .ok (.iconst 0, 1) := by decide +kernel
theorem dX2_forget_17 : decode cX2_forget 17 = .ok (.iastore, 1) := by decide +kernel
theorem dX2_forget_18 : decode cX2_forget 18 = .ok (.iinc 1 1, 3) := by decide +kernel
theorem dX2_forget_21 : decode cX2_forget 21 = .ok (.goto (-19), 3) := by decide +kernel
theorem dX2_forget_24 : decode cX2_forget 24 = .ok (.aload_n 0, 1) := by decide +kernel
theorem dX2_forget_25 : decode cX2_forget 25 = .ok (.iconst 0, 1) := by decide +kernel
theorem dX2_forget_26 : decode cX2_forget 26 = .ok (.putfield 15, 3) := by decide +kernel
theorem dX2_forget_29 : decode cX2_forget 29 = .ok (.return_, 1) := by decide +kernel
set_option maxRecDepth 20000 in
theorem ggX2_learn_X6_holds : GoodIn wsX2_learn wsX6_holds := goodIn_r _ [5] (by decide +kernel) (by decide +kernel)
set_option maxRecDepth 20000 in
theorem gX2_learn_X6_holds_n19 : GoodIn wsX2_learn (wsX6_holds) := ggX2_learn_X6_holds
theorem dX2_learn_0 : decode cX2_learn 0 = .ok (.iload_n 1, 1) := by decide +kernel
theorem dX2_learn_1 : decode cX2_learn 1 = .ok (.istore_n 2, 1) := by decide +kernel
theorem dX2_learn_2 : decode cX2_learn 2 = .ok (.aload_n 0, 1) := by decide +kernel
theorem dX2_learn_3 : decode cX2_learn 3 = .ok (.getfield 9, 3) := by decide +kernel
theorem dX2_learn_6 : decode cX2_learn 6 = .ok (.arraylength, 1) := by decide +kernel
theorem dX2_learn_7 : decode cX2_learn 7 = .ok (.iconst 1, 1) := by decide +kernel
theorem dX2_learn_8 : decode cX2_learn 8 = .ok (.isub, 1) := by decide +kernel
theorem dX2_learn_9 : decode cX2_learn 9 = .ok (.istore_n 3, 1) := by decide +kernel
theorem dX2_learn_10 : decode cX2_learn 10 = .ok (.iload_n 3, 1) := by decide +kernel
theorem dX2_learn_11 : decode cX2_learn 11 = .ok (.ifCond .lt 56, 3) := by decide +kernel
theorem dX2_learn_14 : decode cX2_learn 14 = .ok (.iload_n 2, 1) := by decide +kernel
theorem dX2_learn_15 : decode cX2_learn 15 = .ok (.iload_n 3, 1) := by decide +kernel
theorem dX2_learn_16 : decode cX2_learn 16 = .ok (.invokestatic 19, 3) := by decide +kernel
theorem dX2_learn_19 : decode cX2_learn 19 = .ok (.ifCond .ne 6, 3) := by decide +kernel
theorem dX2_learn_22 : decode cX2_learn 22 = .ok (.goto 39, 3) := by decide +kernel
theorem dX2_learn_25 : decode cX2_learn 25 = .ok (.aload_n 0, 1) := by decide +kernel
theorem dX2_learn_26 : decode cX2_learn 26 = .ok (.getfield 9, 3) := by decide +kernel
theorem dX2_learn_29 : decode cX2_learn 29 = .ok (.iload_n 3, 1) := by decide +kernel
theorem dX2_learn_30 : decode cX2_learn 30 = .ok (.iaload, 1) := by decide +kernel
theorem dX2_learn_31 : decode cX2_learn 31 = .ok (.ifCond .ne 21, 3) := by decide +kernel
theorem dX2_learn_34 : decode cX2_learn 34 = .ok (.aload_n 0, 1) := by decide +kernel
theorem dX2_learn_35 : decode cX2_learn 35 = .ok (.getfield 9, 3) := by decide +kernel
theorem dX2_learn_38 : decode cX2_learn 38 = .ok (.iload_n 3, 1) := by decide +kernel
theorem dX2_learn_39 : decode cX2_learn 39 = .ok (.iload_n 2, 1) := by decide +kernel
theorem dX2_learn_40 : decode cX2_learn 40 = .ok (.iastore, 1) := by decide +kernel
theorem dX2_learn_41 : decode cX2_learn 41 = .ok (.aload_n 0, 1) := by decide +kernel
theorem dX2_learn_42 : decode cX2_learn 42 = .ok (.dup, 1) := by decide +kernel
theorem dX2_learn_43 : decode cX2_learn 43 = .ok (.getfield 15, 3) := by decide +kernel
theorem dX2_learn_46 : decode cX2_learn 46 = .ok (.iconst 1, 1) := by decide +kernel
theorem dX2_learn_47 : decode cX2_learn 47 = .ok (.iadd, 1) := by decide +kernel
theorem dX2_learn_48 : decode cX2_learn 48 = .ok (.putfield 15, 3) := by decide +kernel
theorem dX2_learn_51 : decode cX2_learn 51 = .ok (.return_, 1) := by decide +kernel
theorem dX2_learn_52 : decode cX2_learn 52 = .ok (.iload_n 2, 1) := by decide +kernel
theorem dX2_learn_53 : decode cX2_learn 53 = .ok (.aload_n 0, 1) := by decide +kernel
theorem dX2_learn_54 : decode cX2_learn 54 = .ok (.getfield 9, 3) := by decide +kernel
theorem dX2_learn_57 : decode cX2_learn 57 = .ok (.iload_n 3, 1) := by decide +kernel
theorem dX2_learn_58 : decode cX2_learn 58 = .ok (.iaload, 1) := by decide +kernel
theorem dX2_learn_59 : decode cX2_learn 59 = .ok (.ixor, 1) := by decide +kernel
theorem dX2_learn_60 : decode cX2_learn 60 = .ok (.istore_n 2, 1) := by decide +kernel
theorem dX2_learn_61 : decode cX2_learn 61 = .ok (.iinc 3 (-1), 3) := by decide +kernel
theorem dX2_learn_64 : decode cX2_learn 64 = .ok (.goto (-54), 3) := by decide +kernel
theorem dX2_learn_67 : decode cX2_learn 67 = .ok (.return_, 1) := by decide +kernel
set_option maxRecDepth 20000 in
theorem ggX2_learnFrom_X2_learn : GoodIn wsX2_learnFrom wsX2_learn := goodIn_r _ [6, 1, 7, 8, 9, 10, 11, 12] (by decide +kernel) (by decide +kernel)
set_option maxRecDepth 20000 in
theorem gX2_learnFrom_X2_learn : GoodIn wsX2_learnFrom (wsV RX2 23 RX2 yX2_learn wsX2_learn) := goodIn_app (goodIn_of _ (by decide +kernel)) ggX2_learnFrom_X2_learn
theorem dX2_learnFrom_0 : decode cX2_learnFrom 0 = .ok (.iconst 0, 1) := by decide +kernel
theorem dX2_learnFrom_1 : decode cX2_learnFrom 1 = .ok (.istore_n 2, 1) := by decide +kernel
theorem dX2_learnFrom_2 : decode cX2_learnFrom 2 = .ok (.iload_n 2, 1) := by decide +kernel
theorem dX2_learnFrom_3 : decode cX2_learnFrom 3 = .ok (.aload_n 1, 1) := by decide +kernel
theorem dX2_learnFrom_4 : decode cX2_learnFrom 4 = .ok (.getfield 9, 3) := by decide +kernel
theorem dX2_learnFrom_7 : decode cX2_learnFrom 7 = .ok (.arraylength, 1) := by decide +kernel
theorem dX2_learnFrom_8 : decode cX2_learnFrom 8 = .ok (.if_icmp .ge 19, 3) := by decide +kernel
theorem dX2_learnFrom_11 : decode cX2_learnFrom 11 = .ok (.aload_n 0, 1) := by decide +kernel
theorem dX2_learnFrom_12 : decode cX2_learnFrom 12 = .ok (.aload_n 1, 1) := by decide +kernel
theorem dX2_learnFrom_13 : decode cX2_learnFrom 13 = .ok (.getfield 9, 3) := by decide +kernel
theorem dX2_learnFrom_16 : decode cX2_learnFrom 16 = .ok (.iload_n 2, 1) := by decide +kernel
theorem dX2_learnFrom_17 : decode cX2_learnFrom 17 = .ok (.iaload, 1) := by decide +kernel
theorem dX2_learnFrom_18 : decode cX2_learnFrom 18 = .ok (.invokevirtual 23, 3) := by decide +kernel
theorem dX2_learnFrom_21 : decode cX2_learnFrom 21 = .ok (.iinc 2 1, 3) := by decide +kernel
theorem dX2_learnFrom_24 : decode cX2_learnFrom 24 = .ok (.goto (-22), 3) := by decide +kernel
theorem dX2_learnFrom_27 : decode cX2_learnFrom 27 = .ok (.return_, 1) := by decide +kernel
set_option maxRecDepth 20000 in
theorem ggX2_knows_X6_holds : GoodIn wsX2_knows wsX6_holds := goodIn_r _ [4] (by decide +kernel) (by decide +kernel)
set_option maxRecDepth 20000 in
theorem gX2_knows_X6_holds_n19 : GoodIn wsX2_knows (wsX6_holds) := ggX2_knows_X6_holds
theorem dX2_knows_0 : decode cX2_knows 0 = .ok (.iload_n 1, 1) := by decide +kernel
theorem dX2_knows_1 : decode cX2_knows 1 = .ok (.istore_n 2, 1) := by decide +kernel
theorem dX2_knows_2 : decode cX2_knows 2 = .ok (.aload_n 0, 1) := by decide +kernel
theorem dX2_knows_3 : decode cX2_knows 3 = .ok (.getfield 9, 3) := by decide +kernel
theorem dX2_knows_6 : decode cX2_knows 6 = .ok (.arraylength, 1) := by decide +kernel
theorem dX2_knows_7 : decode cX2_knows 7 = .ok (.iconst 1, 1) := by decide +kernel
theorem dX2_knows_8 : decode cX2_knows 8 = .ok (.isub, 1) := by decide +kernel
theorem dX2_knows_9 : decode cX2_knows 9 = .ok (.istore_n 3, 1) := by decide +kernel
theorem dX2_knows_10 : decode cX2_knows 10 = .ok (.iload_n 3, 1) := by decide +kernel
theorem dX2_knows_11 : decode cX2_knows 11 = .ok (.ifCond .lt 26, 3) := by decide +kernel
theorem dX2_knows_14 : decode cX2_knows 14 = .ok (.iload_n 2, 1) := by decide +kernel
theorem dX2_knows_15 : decode cX2_knows 15 = .ok (.iload_n 3, 1) := by decide +kernel
theorem dX2_knows_16 : decode cX2_knows 16 = .ok (.invokestatic 19, 3) := by decide +kernel
theorem dX2_knows_19 : decode cX2_knows 19 = .ok (.ifCond .eq 12, 3) := by decide +kernel
theorem dX2_knows_22 : decode cX2_knows 22 = .ok (.iload_n 2, 1) := by decide +kernel
theorem dX2_knows_23 : decode cX2_knows 23 = .ok (.aload_n 0, 1) := by decide +kernel
theorem dX2_knows_24 : decode cX2_knows 24 = .ok (.getfield 9, 3) := by decide +kernel
theorem dX2_knows_27 : decode cX2_knows 27 = .ok (.iload_n 3, 1) := by decide +kernel
theorem dX2_knows_28 : decode cX2_knows 28 = .ok (.iaload, 1) := by decide +kernel
theorem dX2_knows_29 : decode cX2_knows 29 = .ok (.ixor, 1) := by decide +kernel
theorem dX2_knows_30 : decode cX2_knows 30 = .ok (.istore_n 2, 1) := by decide +kernel
theorem dX2_knows_31 : decode cX2_knows 31 = .ok (.iinc 3 (-1), 3) := by decide +kernel
theorem dX2_knows_34 : decode cX2_knows 34 = .ok (.goto (-24), 3) := by decide +kernel
theorem dX2_knows_37 : decode cX2_knows 37 = .ok (.iload_n 2, 1) := by decide +kernel
theorem dX2_knows_38 : decode cX2_knows 38 = .ok (.ifCond .ne 7, 3) := by decide +kernel
theorem dX2_knows_41 : decode cX2_knows 41 = .ok (.iconst 1, 1) := by decide +kernel
theorem dX2_knows_42 : decode cX2_knows 42 = .ok (.goto 4, 3) := by decide +kernel
theorem dX2_knows_45 : decode cX2_knows 45 = .ok (.iconst 0, 1) := by decide +kernel
theorem dX2_knows_46 : decode cX2_knows 46 = .ok (.ireturn, 1) := by decide +kernel
set_option maxRecDepth 20000 in
theorem ggX2_wouldReach_X2_knows : GoodIn wsX2_wouldReach wsX2_knows := goodIn_r _ [5, 6, 7, 8, 9, 10, 11] (by decide +kernel) (by decide +kernel)
set_option maxRecDepth 20000 in
theorem gX2_wouldReach_X2_knows : GoodIn wsX2_wouldReach (wsV RX2 27 RX2 yX2_knows wsX2_knows) := goodIn_app (goodIn_of _ (by decide +kernel)) ggX2_wouldReach_X2_knows
theorem dX2_wouldReach_0 : decode cX2_wouldReach 0 = .ok (.aload_n 0, 1) := by decide +kernel
theorem dX2_wouldReach_1 : decode cX2_wouldReach 1 = .ok (.iload_n 1, 1) := by decide +kernel
theorem dX2_wouldReach_2 : decode cX2_wouldReach 2 = .ok (.iload_n 2, 1) := by decide +kernel
theorem dX2_wouldReach_3 : decode cX2_wouldReach 3 = .ok (.ixor, 1) := by decide +kernel
theorem dX2_wouldReach_4 : decode cX2_wouldReach 4 = .ok (.invokevirtual 27, 3) := by decide +kernel
theorem dX2_wouldReach_7 : decode cX2_wouldReach 7 = .ok (.ifCond .eq 15, 3) := by decide +kernel
theorem dX2_wouldReach_10 : decode cX2_wouldReach 10 = .ok (.aload_n 0, 1) := by decide +kernel
theorem dX2_wouldReach_11 : decode cX2_wouldReach 11 = .ok (.iload_n 1, 1) := by decide +kernel
theorem dX2_wouldReach_12 : decode cX2_wouldReach 12 = .ok (.invokevirtual 27, 3) := by decide +kernel
theorem dX2_wouldReach_15 : decode cX2_wouldReach 15 = .ok (.ifCond .ne 7, 3) := by decide +kernel
theorem dX2_wouldReach_18 : decode cX2_wouldReach 18 = .ok (.iconst 1, 1) := by decide +kernel
theorem dX2_wouldReach_19 : decode cX2_wouldReach 19 = .ok (.goto 4, 3) := by decide +kernel
theorem dX2_wouldReach_22 : decode cX2_wouldReach 22 = .ok (.iconst 0, 1) := by decide +kernel
theorem dX2_wouldReach_23 : decode cX2_wouldReach 23 = .ok (.ireturn, 1) := by decide +kernel
theorem dX3_init_0 : decode cX3_init 0 = .ok (.aload_n 0, 1) := by decide +kernel
theorem dX3_init_1 : decode cX3_init 1 = .ok (.invokespecial 3, 3) := by decide +kernel
theorem dX3_init_4 : decode cX3_init 4 = .ok (.aload_n 0, 1) := by decide +kernel
theorem dX3_init_5 : decode cX3_init 5 = .ok (.sipush 1024, 3) := by decide +kernel
theorem dX3_init_8 : decode cX3_init 8 = .ok (.newarray .long, 2) := by decide +kernel
theorem dX3_init_10 : decode cX3_init 10 = .ok (.putfield 11, 3) := by decide +kernel
theorem dX3_init_13 : decode cX3_init 13 = .ok (.return_, 1) := by decide +kernel
theorem dX3_begin_0 : decode cX3_begin 0 = .ok (.aload_n 0, 1) := by decide +kernel
theorem dX3_begin_1 : decode cX3_begin 1 = .ok (.aload_n 0, 1) := by decide +kernel
theorem dX3_begin_2 : decode cX3_begin 2 = .ok (.getfield 11, 3) := by decide +kernel
theorem dX3_begin_5 : decode cX3_begin 5 = .ok (.arraylength, 1) := by decide +kernel
theorem dX3_begin_6 : decode cX3_begin 6 = .ok (.iconst 1, 1) := by decide +kernel
theorem dX3_begin_7 : decode cX3_begin 7 = .ok (.iconst 0, 1) := by decide +kernel
theorem dX3_begin_8 : decode cX3_begin 8 = .ok (.iload_n 1, 1) := by decide +kernel
theorem dX3_begin_9 : decode cX3_begin 9 = .ok (.bipush 6, 2) := by decide +kernel
theorem dX3_begin_11 : decode cX3_begin 11 = .ok (.isub, 1) := by decide +kernel
theorem dX3_begin_12 : decode cX3_begin 12 = .ok (.invokestatic 15, 3) := by decide +kernel
theorem dX3_begin_15 : decode cX3_begin 15 = .ok (.ishl, 1) := by decide +kernel
theorem dX3_begin_16 : decode cX3_begin 16 = .ok (.invokestatic 21, 3) := by decide +kernel
theorem dX3_begin_19 : decode cX3_begin 19 = .ok (.putfield 24, 3) := by decide +kernel
theorem dX3_begin_22 : decode cX3_begin 22 = .ok (.iconst 0, 1) := by decide +kernel
theorem dX3_begin_23 : decode cX3_begin 23 = .ok (.istore_n 2, 1) := by decide +kernel
theorem dX3_begin_24 : decode cX3_begin 24 = .ok (.iload_n 2, 1) := by decide +kernel
theorem dX3_begin_25 : decode cX3_begin 25 = .ok (.aload_n 0, 1) := by decide +kernel
theorem dX3_begin_26 : decode cX3_begin 26 = .ok (.getfield 24, 3) := by decide +kernel
theorem dX3_begin_29 : decode cX3_begin 29 = .ok (.if_icmp .ge 16, 3) := by decide +kernel
theorem dX3_begin_32 : decode cX3_begin 32 = .ok (.aload_n 0, 1) := by decide +kernel
theorem dX3_begin_33 : decode cX3_begin 33 = .ok (.getfield 11, 3) := by decide +kernel
theorem dX3_begin_36 : decode cX3_begin 36 = .ok (.iload_n 2, 1) := by decide +kernel
theorem dX3_begin_37 : decode cX3_begin 37 = .ok (.lconst 0, 1) := by decide +kernel
theorem dX3_begin_38 : decode cX3_begin 38 = .ok (.lastore, 1) := by decide +kernel
theorem dX3_begin_39 : decode cX3_begin 39 = .ok (.iinc 2 1, 3) := by decide +kernel
theorem dX3_begin_42 : decode cX3_begin 42 = .ok (.goto (-18), 3) := by decide +kernel
theorem dX3_begin_45 : decode cX3_begin 45 = .ok (.aload_n 0, 1) := by decide +kernel
theorem dX3_begin_46 : decode cX3_begin 46 = .ok (.getfield 11, 3) := by decide +kernel
theorem dX3_begin_49 : decode cX3_begin 49 = .ok (.iconst 0, 1) := by decide +kernel
theorem dX3_begin_50 : decode cX3_begin 50 = .ok (.lconst 1, 1) := by decide +kernel
theorem dX3_begin_51 : decode cX3_begin 51 = .ok (.lastore, 1) := by decide +kernel
theorem dX3_begin_52 : decode cX3_begin 52 = .ok (.return_, 1) := by decide +kernel
set_option maxRecDepth 20000 in
theorem ggX3_add_X3_isMarked : GoodIn wsX3_add wsX3_isMarked := goodIn_r _ [7, 1, 2, 15, 16] (by decide +kernel) (by decide +kernel)
set_option maxRecDepth 20000 in
theorem gX3_add_X3_isMarked : GoodIn wsX3_add (wsV RX3 28 RX3 yX3_isMarked wsX3_isMarked) := goodIn_app (goodIn_of _ (by decide +kernel)) ggX3_add_X3_isMarked
set_option maxRecDepth 20000 in
theorem ggX3_add_X3_crossed : GoodIn wsX3_add wsX3_crossed := goodIn_r _ [10, 11, 12, 13, 14] (by decide +kernel) (by decide +kernel)
set_option maxRecDepth 20000 in
theorem gX3_add_X3_crossed : GoodIn wsX3_add (va_wsS RX3 32 yX3_crossed wsX3_crossed) := goodIn_app (goodIn_of _ (by decide +kernel)) ggX3_add_X3_crossed
theorem dX3_add_0 : decode cX3_add 0 = .ok (.aload_n 0, 1) := by decide +kernel
theorem dX3_add_1 : decode cX3_add 1 = .ok (.iload_n 1, 1) := by decide +kernel
theorem dX3_add_2 : decode cX3_add 2 = .ok (.invokevirtual 28, 3) := by decide +kernel
theorem dX3_add_5 : decode cX3_add 5 = .ok (.ifCond .eq 4, 3) := by decide +kernel
theorem dX3_add_8 : decode cX3_add 8 = .ok (.return_, 1) := by decide +kernel
theorem dX3_add_9 : decode cX3_add 9 = .ok (.iconst 0, 1) := by decide +kernel
theorem dX3_add_10 : decode cX3_add 10 = .ok (.istore_n 2, 1) := by decide +kernel
theorem dX3_add_11 : decode cX3_add 11 = .ok (.iload_n 2, 1) := by decide +kernel
theorem dX3_add_12 : decode cX3_add 12 = .ok (.aload_n 0, 1) := by decide +kernel
theorem dX3_add_13 : decode cX3_add 13 = .ok (.getfield 24, 3) := by decide +kernel
theorem dX3_add_16 : decode cX3_add 16 = .ok (.if_icmp .ge 54, 3) := by decide +kernel
theorem dX3_add_19 : decode cX3_add 19 = .ok (.iload_n 2, 1) := by decide +kernel
theorem dX3_add_20 : decode cX3_add 20 = .ok (.iload_n 1, 1) := by decide +kernel
theorem dX3_add_21 : decode cX3_add 21 = .ok (.bipush 6, 2) := by decide +kernel
theorem dX3_add_23 : decode cX3_add 23 = .ok (.iushr, 1) := by decide +kernel
theorem dX3_add_24 : decode cX3_add 24 = .ok (.ixor, 1) := by decide +kernel
theorem dX3_add_25 : decode cX3_add 25 = .ok (.istore_n 3, 1) := by decide +kernel
theorem dX3_add_26 : decode cX3_add 26 = .ok (.aload_n 0, 1) := by decide +kernel
theorem dX3_add_27 : decode cX3_add 27 = .ok (.getfield 11, 3) := by decide +kernel
theorem dX3_add_30 : decode cX3_add 30 = .ok (.iload_n 2, 1) := by decide +kernel
theorem dX3_add_31 : decode cX3_add 31 = .ok (.laload, 1) := by decide +kernel
theorem dX3_add_32 : decode cX3_add 32 = .ok (.lconst 0, 1) := by decide +kernel
theorem dX3_add_33 : decode cX3_add 33 = .ok (.lcmp, 1) := by decide +kernel
theorem dX3_add_34 : decode cX3_add 34 = .ok (.ifCond .eq 30, 3) := by decide +kernel
theorem dX3_add_37 : decode cX3_add 37 = .ok (.iload_n 3, 1) := by decide +kernel
theorem dX3_add_38 : decode cX3_add 38 = .ok (.aload_n 0, 1) := by decide +kernel
theorem dX3_add_39 : decode cX3_add 39 = .ok (.getfield 24, 3) := by decide +kernel
theorem dX3_add_42 : decode cX3_add 42 = .ok (.if_icmp .ge 22, 3) := by decide +kernel
theorem dX3_add_45 : decode cX3_add 45 = .ok (.aload_n 0, 1) := by decide +kernel
theorem dX3_add_46 : decode cX3_add 46 = .ok (.getfield 11, 3) := by decide +kernel
theorem dX3_add_49 : decode cX3_add 49 = .ok (.iload_n 3, 1) := by decide +kernel
theorem dX3_add_50 : decode cX3_add 50 = .ok (.dup2, 1) := by decide +kernel
theorem dX3_add_51 : decode cX3_add 51 = .ok (.laload, 1) := by decide +kernel
theorem dX3_add_52 : decode cX3_add 52 = .ok (.aload_n 0, 1) := by decide +kernel
theorem dX3_add_53 : decode cX3_add 53 = .ok (.getfield 11, 3) := by decide +kernel
theorem dX3_add_56 : decode cX3_add 56 = .ok (.iload_n 2, 1) := by decide +kernel
theorem dX3_add_57 : decode cX3_add 57 = .ok (.laload, 1) := by decide +kernel
theorem dX3_add_58 : decode cX3_add 58 = .ok (.iload_n 1, 1) := by decide +kernel
theorem dX3_add_59 : decode cX3_add 59 = .ok (.invokestatic 32, 3) := by decide +kernel
theorem dX3_add_62 : decode cX3_add 62 = .ok (.lor, 1) := by decide +kernel
theorem dX3_add_63 : decode cX3_add 63 = .ok (.lastore, 1) := by decide +kernel
theorem dX3_add_64 : decode cX3_add 64 = .ok (.iinc 2 1, 3) := by decide +kernel
theorem dX3_add_67 : decode cX3_add 67 = .ok (.goto (-56), 3) := by decide +kernel
theorem dX3_add_70 : decode cX3_add 70 = .ok (.return_, 1) := by decide +kernel
set_option maxRecDepth 20000 in
theorem ggX3_sets_J13_bitCount_95d88 : GoodIn wsX3_sets wsJ13_bitCount_95d88 := goodIn_r _ [6, 7, 8, 9] (by decide +kernel) (by decide +kernel)
set_option maxRecDepth 20000 in
theorem gX3_sets_J13_bitCount_95d88 : GoodIn wsX3_sets (va_wsS RX3 36 yJ13_bitCount_95d88 wsJ13_bitCount_95d88) := goodIn_app (goodIn_of _ (by decide +kernel)) ggX3_sets_J13_bitCount_95d88
theorem dX3_sets_0 : decode cX3_sets 0 = .ok (.iconst 0, 1) := by decide +kernel
theorem dX3_sets_1 : decode cX3_sets 1 = .ok (.istore_n 1, 1) := by decide +kernel
theorem dX3_sets_2 : decode cX3_sets 2 = .ok (.iconst 0, 1) := by decide +kernel
theorem dX3_sets_3 : decode cX3_sets 3 = .ok (.istore_n 2, 1) := by decide +kernel
theorem dX3_sets_4 : decode cX3_sets 4 = .ok (.iload_n 2, 1) := by decide +kernel
theorem dX3_sets_5 : decode cX3_sets 5 = .ok (.aload_n 0, 1) := by decide +kernel
theorem dX3_sets_6 : decode cX3_sets 6 = .ok (.getfield 24, 3) := by decide +kernel
theorem dX3_sets_9 : decode cX3_sets 9 = .ok (.if_icmp .ge 21, 3) := by decide +kernel
theorem dX3_sets_12 : decode cX3_sets 12 = .ok (.iload_n 1, 1) := by decide +kernel
theorem dX3_sets_13 : decode cX3_sets 13 = .ok (.aload_n 0, 1) := by decide +kernel
theorem dX3_sets_14 : decode cX3_sets 14 = .ok (.getfield 11, 3) := by decide +kernel
theorem dX3_sets_17 : decode cX3_sets 17 = .ok (.iload_n 2, 1) := by decide +kernel
theorem dX3_sets_18 : decode cX3_sets 18 = .ok (.laload, 1) := by decide +kernel
theorem dX3_sets_19 : decode cX3_sets 19 = .ok (.invokestatic 36, 3) := by decide +kernel
theorem dX3_sets_22 : decode cX3_sets 22 = .ok (.iadd, 1) := by decide +kernel
theorem dX3_sets_23 : decode cX3_sets 23 = .ok (.istore_n 1, 1) := by decide +kernel
theorem dX3_sets_24 : decode cX3_sets 24 = .ok (.iinc 2 1, 3) := by decide +kernel
theorem dX3_sets_27 : decode cX3_sets 27 = .ok (.goto (-23), 3) := by decide +kernel
theorem dX3_sets_30 : decode cX3_sets 30 = .ok (.iload_n 1, 1) := by decide +kernel
theorem dX3_sets_31 : decode cX3_sets 31 = .ok (.ireturn, 1) := by decide +kernel
theorem dX3_isMarked_0 : decode cX3_isMarked 0 = .ok (.iload_n 1, 1) := by decide +kernel
theorem dX3_isMarked_1 : decode cX3_isMarked 1 = .ok (.bipush 6, 2) := by decide +kernel
theorem dX3_isMarked_3 : decode cX3_isMarked 3 = .ok (.iushr, 1) := by decide +kernel
theorem dX3_isMarked_4 : decode cX3_isMarked 4 = .ok (.istore_n 2, 1) := by decide +kernel
theorem dX3_isMarked_5 : decode cX3_isMarked 5 = .ok (.iload_n 2, 1) := by decide +kernel
theorem dX3_isMarked_6 : decode cX3_isMarked 6 = .ok (.aload_n 0, 1) := by decide +kernel
theorem dX3_isMarked_7 : decode cX3_isMarked 7 = .ok (.getfield 24, 3) := by decide +kernel
theorem dX3_isMarked_10 : decode cX3_isMarked 10 = .ok (.if_icmp .ge 25, 3) := by decide +kernel
theorem dX3_isMarked_13 : decode cX3_isMarked 13 = .ok (.aload_n 0, 1) := by decide +kernel
theorem dX3_isMarked_14 : decode cX3_isMarked 14 = .ok (.getfield 11, 3) := by decide +kernel
theorem dX3_isMarked_17 : decode cX3_isMarked 17 = .ok (.iload_n 2, 1) := by decide +kernel
theorem dX3_isMarked_18 : decode cX3_isMarked 18 = .ok (.laload, 1) := by decide +kernel
theorem dX3_isMarked_19 : decode cX3_isMarked 19 = .ok (.iload_n 1, 1) := by decide +kernel
theorem dX3_isMarked_20 : decode cX3_isMarked 20 = .ok (.bipush 63, 2) := by decide +kernel
theorem dX3_isMarked_22 : decode cX3_isMarked 22 = .ok (.iand, 1) := by decide +kernel
theorem dX3_isMarked_23 : decode cX3_isMarked 23 = .ok (.lushr, 1) := by decide +kernel
theorem dX3_isMarked_24 : decode cX3_isMarked 24 = .ok (.lconst 1, 1) := by decide +kernel
theorem dX3_isMarked_25 : decode cX3_isMarked 25 = .ok (.land, 1) := by decide +kernel
theorem dX3_isMarked_26 : decode cX3_isMarked 26 = .ok (.lconst 0, 1) := by decide +kernel
theorem dX3_isMarked_27 : decode cX3_isMarked 27 = .ok (.lcmp, 1) := by decide +kernel
theorem dX3_isMarked_28 : decode cX3_isMarked 28 = .ok (.ifCond .eq 7, 3) := by decide +kernel
theorem dX3_isMarked_31 : decode cX3_isMarked 31 = .ok (.iconst 1, 1) := by decide +kernel
theorem dX3_isMarked_32 : decode cX3_isMarked 32 = .ok (.goto 4, 3) := by decide +kernel
theorem dX3_isMarked_35 : decode cX3_isMarked 35 = .ok (.iconst 0, 1) := by decide +kernel
theorem dX3_isMarked_36 : decode cX3_isMarked 36 = .ok (.ireturn, 1) := by decide +kernel
set_option maxRecDepth 20000 in
theorem ggX3_crossed_X6_holds : GoodIn wsX3_crossed wsX6_holds := goodIn_r _ [4] (by decide +kernel) (by decide +kernel)
set_option maxRecDepth 20000 in
theorem gX3_crossed_X6_holds_n45 : GoodIn wsX3_crossed (wsX6_holds) := ggX3_crossed_X6_holds
theorem dX3_crossed_0 : decode cX3_crossed 0 = .ok (.lload_n 0, 1) := by decide +kernel
theorem dX3_crossed_1 : decode cX3_crossed 1 = .ok (.lstore_n 3, 1) := by decide +kernel
theorem dX3_crossed_2 : decode cX3_crossed 2 = .ok (.iconst 0, 1) := by decide +kernel
theorem dX3_crossed_3 : decode cX3_crossed 3 = .ok (.istore 5, 2) := by decide +kernel
theorem dX3_crossed_5 : decode cX3_crossed 5 = .ok (.iload 5, 2) := by decide +kernel
theorem dX3_crossed_7 : decode cX3_crossed 7 = .ok (.getstatic 42, 3) := by decide +kernel
theorem dX3_crossed_10 : decode cX3_crossed 10 = .ok (.arraylength, 1) := by decide +kernel
theorem dX3_crossed_11 : decode cX3_crossed 11 = .ok (.if_icmp .ge 48, 3) := by decide +kernel
theorem dX3_crossed_14 : decode cX3_crossed 14 = .ok (.iload_n 2, 1) := by decide +kernel
theorem dX3_crossed_15 : decode cX3_crossed 15 = .ok (.iload 5, 2) := by decide +kernel
theorem dX3_crossed_17 : decode cX3_crossed 17 = .ok (.invokestatic 45, 3) := by decide +kernel
theorem dX3_crossed_20 : decode cX3_crossed 20 = .ok (.ifCond .eq 33, 3) := by decide +kernel
theorem dX3_crossed_23 : decode cX3_crossed 23 = .ok (.iconst 1, 1) := by decide +kernel
theorem dX3_crossed_24 : decode cX3_crossed 24 = .ok (.iload 5, 2) := by decide +kernel
theorem dX3_crossed_26 : decode cX3_crossed 26 = .ok (.ishl, 1) := by decide +kernel
theorem dX3_crossed_27 : decode cX3_crossed 27 = .ok (.istore 6, 2) := by decide +kernel
theorem dX3_crossed_29 : decode cX3_crossed 29 = .ok (.lload_n 3, 1) := by decide +kernel
theorem dX3_crossed_30 : decode cX3_crossed 30 = .ok (.getstatic 42, 3) := by decide +kernel
theorem dX3_crossed_33 : decode cX3_crossed 33 = .ok (.iload 5, 2) := by decide +kernel
theorem dX3_crossed_35 : decode cX3_crossed 35 = .ok (.laload, 1) := by decide +kernel
theorem dX3_crossed_36 : decode cX3_crossed 36 = .ok (.land, 1) := by decide +kernel
theorem dX3_crossed_37 : decode cX3_crossed 37 = .ok (.iload 6, 2) := by decide +kernel
theorem dX3_crossed_39 : decode cX3_crossed 39 = .ok (.lshl, 1) := by decide +kernel
theorem dX3_crossed_40 : decode cX3_crossed 40 = .ok (.lload_n 3, 1) := by decide +kernel
theorem dX3_crossed_41 : decode cX3_crossed 41 = .ok (.iload 6, 2) := by decide +kernel
theorem dX3_crossed_43 : decode cX3_crossed 43 = .ok (.lushr, 1) := by decide +kernel
theorem dX3_crossed_44 : decode cX3_crossed 44 = .ok (.getstatic 42, 3) := by decide +kernel
theorem dX3_crossed_47 : decode cX3_crossed 47 = .ok (.iload 5, 2) := by decide +kernel
theorem dX3_crossed_49 : decode cX3_crossed 49 = .ok (.laload, 1) := by decide +kernel
theorem dX3_crossed_50 : decode cX3_crossed 50 = .ok (.land, 1) := by decide +kernel
theorem dX3_crossed_51 : decode cX3_crossed 51 = .ok (.lor, 1) := by decide +kernel
theorem dX3_crossed_52 : decode cX3_crossed 52 = .ok (.lstore_n 3, 1) := by decide +kernel
theorem dX3_crossed_53 : decode cX3_crossed 53 = .ok (.iinc 5 1, 3) := by decide +kernel
theorem dX3_crossed_56 : decode cX3_crossed 56 = .ok (.goto (-51), 3) := by decide +kernel
theorem dX3_crossed_59 : decode cX3_crossed 59 = .ok (.lload_n 3, 1) := by decide +kernel
theorem dX3_crossed_60 : decode cX3_crossed 60 = .ok (.lreturn, 1) := by decide +kernel
set_option maxRecDepth 20000 in
theorem ggX4_init_X2_init : GoodIn wsX4_init wsX2_init := goodIn_r _ [15, 16, 2, 3, 8, 17, 23, 24] (by decide +kernel) (by decide +kernel)
set_option maxRecDepth 20000 in
theorem gX4_init_X2_init_n34 : GoodIn wsX4_init (wsX2_init) := ggX4_init_X2_init
theorem dX4_init_0 : decode cX4_init 0 = .ok (.aload_n 0, 1) := by decide +kernel
theorem dX4_init_1 : decode cX4_init 1 = .ok (.invokespecial 3, 3) := by decide +kernel
theorem dX4_init_4 : decode cX4_init 4 = .ok (.aload_n 0, 1) := by decide +kernel
theorem dX4_init_5 : decode cX4_init 5 = .ok (.bipush 16, 2) := by decide +kernel
theorem dX4_init_7 : decode cX4_init 7 = .ok (.anewarray 9, 3) := by decide +kernel
theorem dX4_init_10 : decode cX4_init 10 = .ok (.putfield 11, 3) := by decide +kernel
theorem dX4_init_13 : decode cX4_init 13 = .ok (.aload_n 0, 1) := by decide +kernel
theorem dX4_init_14 : decode cX4_init 14 = .ok (.bipush 8, 2) := by decide +kernel
theorem dX4_init_16 : decode cX4_init 16 = .ok (.anewarray 17, 3) := by decide +kernel
theorem dX4_init_19 : decode cX4_init 19 = .ok (.putfield 19, 3) := by decide +kernel
theorem dX4_init_22 : decode cX4_init 22 = .ok (.aload_n 0, 1) := by decide +kernel
theorem dX4_init_23 : decode cX4_init 23 = .ok (.iconst 5, 1) := by decide +kernel
theorem dX4_init_24 : decode cX4_init 24 = .ok (.newarray .int, 2) := by decide +kernel
theorem dX4_init_26 : decode cX4_init 26 = .ok (.putfield 23, 3) := by decide +kernel
theorem dX4_init_29 : decode cX4_init 29 = .ok (.aload_n 0, 1) := by decide +kernel
theorem dX4_init_30 : decode cX4_init 30 = .ok (.iload_n 1, 1) := by decide +kernel
theorem dX4_init_31 : decode cX4_init 31 = .ok (.putfield 27, 3) := by decide +kernel
theorem dX4_init_34 : decode cX4_init 34 = .ok (.aload_n 0, 1) := by decide +kernel
theorem dX4_init_35 : decode cX4_init 35 = .ok (.iload_n 2, 1) := by decide +kernel
theorem dX4_init_36 : decode cX4_init 36 = .ok (.putfield 31, 3) := by decide +kernel
theorem dX4_init_39 : decode cX4_init 39 = .ok (.iconst 0, 1) := by decide +kernel
theorem dX4_init_40 : decode cX4_init 40 = .ok (.istore_n 3, 1) := by decide +kernel
theorem dX4_init_41 : decode cX4_init 41 = .ok (.iload_n 3, 1) := by decide +kernel
theorem dX4_init_42 : decode cX4_init 42 = .ok (.aload_n 0, 1) := by decide +kernel
theorem dX4_init_43 : decode cX4_init 43 = .ok (.getfield 19, 3) := by decide +kernel
theorem dX4_init_46 : decode cX4_init 46 = .ok (.arraylength, 1) := by decide +kernel
theorem dX4_init_47 : decode cX4_init 47 = .ok (.if_icmp .ge 22, 3) := by decide +kernel
theorem dX4_init_50 : decode cX4_init 50 = .ok (.aload_n 0, 1) := by decide +kernel
theorem dX4_init_51 : decode cX4_init 51 = .ok (.getfield 19, 3) := by decide +kernel
theorem dX4_init_54 : decode cX4_init 54 = .ok (.iload_n 3, 1) := by decide +kernel
theorem dX4_init_55 : decode cX4_init 55 = .ok (.new 17, 3) := by decide +kernel
theorem dX4_init_58 : decode cX4_init 58 = .ok (.dup, 1) := by decide +kernel
theorem dX4_init_59 : decode cX4_init 59 = .ok (.invokespecial 34, 3) := by decide +kernel
theorem dX4_init_62 : decode cX4_init 62 = .ok (.aastore, 1) := by decide +kernel
theorem dX4_init_63 : decode cX4_init 63 = .ok (.iinc 3 1, 3) := by decide +kernel
theorem dX4_init_66 : decode cX4_init 66 = .ok (.goto (-25), 3) := by decide +kernel
theorem dX4_init_69 : decode cX4_init 69 = .ok (.return_, 1) := by decide +kernel
theorem dX4_rightFor_0 : decode cX4_rightFor 0 = .ok (.iload_n 1, 1) := by decide +kernel
theorem dX4_rightFor_1 : decode cX4_rightFor 1 = .ok (.ifCond .lt 21, 3) := by decide +kernel
theorem dX4_rightFor_4 : decode cX4_rightFor 4 = .ok (.iload_n 1, 1) := by decide +kernel
theorem dX4_rightFor_5 : decode cX4_rightFor 5 = .ok (.aload_n 0, 1) := by decide +kernel
theorem dX4_rightFor_6 : decode cX4_rightFor 6 = .ok (.getfield 11, 3) := by decide +kernel
theorem dX4_rightFor_9 : decode cX4_rightFor 9 = .ok (.arraylength, 1) := by decide +kernel
theorem dX4_rightFor_10 : decode cX4_rightFor 10 = .ok (.if_icmp .ge 12, 3) := by decide +kernel
theorem dX4_rightFor_13 : decode cX4_rightFor 13 = .ok (.aload_n 0, 1) := by decide +kernel
theorem dX4_rightFor_14 : decode cX4_rightFor 14 = .ok (.getfield 11, 3) := by decide +kernel
theorem dX4_rightFor_17 : decode cX4_rightFor 17 = .ok (.iload_n 1, 1) := by decide +kernel
theorem dX4_rightFor_18 : decode cX4_rightFor 18 = .ok (.aaload, 1) := by decide +kernel
theorem dX4_rightFor_19 : decode cX4_rightFor 19 = .ok (.goto 4, 3) := by decide +kernel
theorem dX4_rightFor_22 : decode cX4_rightFor 22 = .ok (.aconst_null, 1) := by decide +kernel
theorem dX4_rightFor_23 : decode cX4_rightFor 23 = .ok (.areturn, 1) := by decide +kernel
theorem dX4_setRight_0 : decode cX4_setRight 0 = .ok (.iload_n 1, 1) := by decide +kernel
theorem dX4_setRight_1 : decode cX4_setRight 1 = .ok (.ifCond .lt 19, 3) := by decide +kernel
theorem dX4_setRight_4 : decode cX4_setRight 4 = .ok (.iload_n 1, 1) := by decide +kernel
theorem dX4_setRight_5 : decode cX4_setRight 5 = .ok (.aload_n 0, 1) := by decide +kernel
theorem dX4_setRight_6 : decode cX4_setRight 6 = .ok (.getfield 11, 3) := by decide +kernel
theorem dX4_setRight_9 : decode cX4_setRight 9 = .ok (.arraylength, 1) := by decide +kernel
theorem dX4_setRight_10 : decode cX4_setRight 10 = .ok (.if_icmp .ge 10, 3) := by decide +kernel
theorem dX4_setRight_13 : decode cX4_setRight 13 = .ok (.aload_n 0, 1) := by decide +kernel
theorem dX4_setRight_14 : decode cX4_setRight 14 = .ok (.getfield 11, 3) := by decide +kernel
theorem dX4_setRight_17 : decode cX4_setRight 17 = .ok (.iload_n 1, 1) := by decide +kernel
theorem dX4_setRight_18 : decode cX4_setRight 18 = .ok (.aload_n 2, 1) := by decide +kernel
theorem dX4_setRight_19 : decode cX4_setRight 19 = .ok (.aastore, 1) := by decide +kernel
theorem dX4_setRight_20 : decode cX4_setRight 20 = .ok (.return_, 1) := by decide +kernel
set_option maxRecDepth 20000 in
theorem ggX4_rightIn_X4_rightFor : GoodIn wsX4_rightIn wsX4_rightFor := goodIn_r _ [5, 6, 15, 16, 17, 18, 19] (by decide +kernel) (by decide +kernel)
set_option maxRecDepth 20000 in
theorem gX4_rightIn_X4_rightFor : GoodIn wsX4_rightIn (wsV RX4 35 RX4 yX4_rightFor wsX4_rightFor) := goodIn_app (goodIn_of _ (by decide +kernel)) ggX4_rightIn_X4_rightFor
set_option maxRecDepth 20000 in
theorem ggX4_rightIn_X5_in : GoodIn wsX4_rightIn wsX5_in := goodIn_r _ [11, 12, 13, 14, 20, 21, 22] (by decide +kernel) (by decide +kernel)
set_option maxRecDepth 20000 in
theorem gX4_rightIn_X5_in : GoodIn wsX4_rightIn (wsV RX4 39 RX5 yX5_in wsX5_in) := goodIn_app (goodIn_of _ (by decide +kernel)) ggX4_rightIn_X5_in
theorem dX4_rightIn_0 : decode cX4_rightIn 0 = .ok (.aload_n 0, 1) := by decide +kernel
theorem dX4_rightIn_1 : decode cX4_rightIn 1 = .ok (.iload_n 2, 1) := by decide +kernel
theorem dX4_rightIn_2 : decode cX4_rightIn 2 = .ok (.invokevirtual 35, 3) := by decide +kernel
theorem dX4_rightIn_5 : decode cX4_rightIn 5 = .ok (.astore_n 3, 1) := by decide +kernel
theorem dX4_rightIn_6 : decode cX4_rightIn 6 = .ok (.aload_n 3, 1) := by decide +kernel
theorem dX4_rightIn_7 : decode cX4_rightIn 7 = .ok (.ifnonnull 7, 3) := by decide +kernel
theorem dX4_rightIn_10 : decode cX4_rightIn 10 = .ok (.iconst 0, 1) := by decide +kernel
theorem dX4_rightIn_11 : decode cX4_rightIn 11 = .ok (.goto 8, 3) := by decide +kernel
theorem dX4_rightIn_14 : decode cX4_rightIn 14 = .ok (.aload_n 3, 1) := by decide +kernel
theorem dX4_rightIn_15 : decode cX4_rightIn 15 = .ok (.iload_n 1, 1) := by decide +kernel
theorem dX4_rightIn_16 : decode cX4_rightIn 16 = .ok (.invokevirtual 39, 3) := by decide +kernel
theorem dX4_rightIn_19 : decode cX4_rightIn 19 = .ok (.ireturn, 1) := by decide +kernel
theorem dX4_countQuestion_0 : decode cX4_countQuestion 0 = .ok (.iload_n 1, 1) := by decide +kernel
theorem dX4_countQuestion_1 : decode cX4_countQuestion 1 = .ok (.ineg, 1) := by decide +kernel
theorem dX4_countQuestion_2 : decode cX4_countQuestion 2 = .ok (.istore_n 2, 1) := by decide +kernel
theorem dX4_countQuestion_3 : decode cX4_countQuestion 3 = .ok (.iload_n 2, 1) := by decide +kernel
theorem dX4_countQuestion_4 : decode cX4_countQuestion 4 = .ok (.ifCond .lt 22, 3) := by decide +kernel
theorem dX4_countQuestion_7 : decode cX4_countQuestion 7 = .ok (.iload_n 2, 1) := by decide +kernel
theorem dX4_countQuestion_8 : decode cX4_countQuestion 8 = .ok (.aload_n 0, 1) := by decide +kernel
theorem dX4_countQuestion_9 : decode cX4_countQuestion 9 = .ok (.getfield 23, 3) := by decide +kernel
theorem dX4_countQuestion_12 : decode cX4_countQuestion 12 = .ok (.arraylength, 1) := by decide +kernel
theorem dX4_countQuestion_13 : decode cX4_countQuestion 13 = .ok (.if_icmp .ge 13, 3) := by decide +kernel
theorem dX4_countQuestion_16 : decode cX4_countQuestion 16 = .ok (.aload_n 0, 1) := by decide +kernel
theorem dX4_countQuestion_17 : decode cX4_countQuestion 17 = .ok (.getfield 23, 3) := by decide +kernel
theorem dX4_countQuestion_20 : decode cX4_countQuestion 20 = .ok (.iload_n 2, 1) := by decide +kernel
theorem dX4_countQuestion_21 : decode cX4_countQuestion 21 = .ok (.dup2, 1) := by decide +kernel
theorem dX4_countQuestion_22 : decode cX4_countQuestion 22 = .ok (.iaload, 1) := by decide +kernel
theorem dX4_countQuestion_23 : decode cX4_countQuestion 23 = .ok (.iconst 1, 1) := by decide +kernel
theorem dX4_countQuestion_24 : decode cX4_countQuestion 24 = .ok (.iadd, 1) := by decide +kernel
theorem dX4_countQuestion_25 : decode cX4_countQuestion 25 = .ok (.iastore, 1) := by decide +kernel
theorem dX4_countQuestion_26 : decode cX4_countQuestion 26 = .ok (.return_, 1) := by decide +kernel
theorem dX4_questions_0 : decode cX4_questions 0 = .ok (.iload_n 1, 1) := by decide +kernel
theorem dX4_questions_1 : decode cX4_questions 1 = .ok (.ifCond .lt 21, 3) := by decide +kernel
theorem dX4_questions_4 : decode cX4_questions 4 = .ok (.iload_n 1, 1) := by decide +kernel
theorem dX4_questions_5 : decode cX4_questions 5 = .ok (.aload_n 0, 1) := by decide +kernel
theorem dX4_questions_6 : decode cX4_questions 6 = .ok (.getfield 23, 3) := by decide +kernel
theorem dX4_questions_9 : decode cX4_questions 9 = .ok (.arraylength, 1) := by decide +kernel
theorem dX4_questions_10 : decode cX4_questions 10 = .ok (.if_icmp .ge 12, 3) := by decide +kernel
theorem dX4_questions_13 : decode cX4_questions 13 = .ok (.aload_n 0, 1) := by decide +kernel
theorem dX4_questions_14 : decode cX4_questions 14 = .ok (.getfield 23, 3) := by decide +kernel
theorem dX4_questions_17 : decode cX4_questions 17 = .ok (.iload_n 1, 1) := by decide +kernel
theorem dX4_questions_18 : decode cX4_questions 18 = .ok (.iaload, 1) := by decide +kernel
theorem dX4_questions_19 : decode cX4_questions 19 = .ok (.goto 4, 3) := by decide +kernel
theorem dX4_questions_22 : decode cX4_questions 22 = .ok (.iconst 0, 1) := by decide +kernel
theorem dX4_questions_23 : decode cX4_questions 23 = .ok (.ireturn, 1) := by decide +kernel
set_option maxRecDepth 20000 in
theorem ggX4_learn_X6_covers : GoodIn wsX4_learn wsX6_covers := goodIn_r _ [4] (by decide +kernel) (by decide +kernel)
set_option maxRecDepth 20000 in
theorem gX4_learn_X6_covers_n43 : GoodIn wsX4_learn (wsX6_covers) := ggX4_learn_X6_covers
set_option maxRecDepth 20000 in
theorem ggX4_learn_X2_learn : GoodIn wsX4_learn wsX2_learn := goodIn_r _ [9, 10, 11, 12, 3, 13, 19, 20] (by decide +kernel) (by decide +kernel)
set_option maxRecDepth 20000 in
theorem gX4_learn_X2_learn : GoodIn wsX4_learn (wsV RX4 47 RX2 yX2_learn wsX2_learn) := goodIn_app (goodIn_of _ (by decide +kernel)) ggX4_learn_X2_learn
theorem dX4_learn_0 : decode cX4_learn 0 = .ok (.iconst 0, 1) := by decide +kernel
theorem dX4_learn_1 : decode cX4_learn 1 = .ok (.istore_n 3, 1) := by decide +kernel
theorem dX4_learn_2 : decode cX4_learn 2 = .ok (.iload_n 3, 1) := by decide +kernel
theorem dX4_learn_3 : decode cX4_learn 3 = .ok (.aload_n 0, 1) := by decide +kernel
theorem dX4_learn_4 : decode cX4_learn 4 = .ok (.getfield 19, 3) := by decide +kernel
theorem dX4_learn_7 : decode cX4_learn 7 = .ok (.arraylength, 1) := by decide +kernel
theorem dX4_learn_8 : decode cX4_learn 8 = .ok (.if_icmp .ge 27, 3) := by decide +kernel
theorem dX4_learn_11 : decode cX4_learn 11 = .ok (.iload_n 2, 1) := by decide +kernel
theorem dX4_learn_12 : decode cX4_learn 12 = .ok (.iload_n 3, 1) := by decide +kernel
theorem dX4_learn_13 : decode cX4_learn 13 = .ok (.invokestatic 43, 3) := by decide +kernel
theorem dX4_learn_16 : decode cX4_learn 16 = .ok (.ifCond .eq 13, 3) := by decide +kernel
theorem dX4_learn_19 : decode cX4_learn 19 = .ok (.aload_n 0, 1) := by decide +kernel
theorem dX4_learn_20 : decode cX4_learn 20 = .ok (.getfield 19, 3) := by decide +kernel
theorem dX4_learn_23 : decode cX4_learn 23 = .ok (.iload_n 3, 1) := by decide +kernel
theorem dX4_learn_24 : decode cX4_learn 24 = .ok (.aaload, 1) := by decide +kernel
theorem dX4_learn_25 : decode cX4_learn 25 = .ok (.iload_n 1, 1) := by decide +kernel
theorem dX4_learn_26 : decode cX4_learn 26 = .ok (.invokevirtual 47, 3) := by decide +kernel
theorem dX4_learn_29 : decode cX4_learn 29 = .ok (.iinc 3 1, 3) := by decide +kernel
theorem dX4_learn_32 : decode cX4_learn 32 = .ok (.goto (-30), 3) := by decide +kernel
theorem dX4_learn_35 : decode cX4_learn 35 = .ok (.return_, 1) := by decide +kernel
set_option maxRecDepth 20000 in
theorem ggX4_forget_X2_forget : GoodIn wsX4_forget wsX2_forget := goodIn_r _ [6, 7, 8, 14, 15] (by decide +kernel) (by decide +kernel)
set_option maxRecDepth 20000 in
theorem gX4_forget_X2_forget : GoodIn wsX4_forget (wsV RX4 51 RX2 yX2_forget wsX2_forget) := goodIn_app (goodIn_of _ (by decide +kernel)) ggX4_forget_X2_forget
theorem dX4_forget_0 : decode cX4_forget 0 = .ok (.iconst 0, 1) := by decide +kernel
theorem dX4_forget_1 : decode cX4_forget 1 = .ok (.istore_n 1, 1) := by decide +kernel
theorem dX4_forget_2 : decode cX4_forget 2 = .ok (.iload_n 1, 1) := by decide +kernel
theorem dX4_forget_3 : decode cX4_forget 3 = .ok (.aload_n 0, 1) := by decide +kernel
theorem dX4_forget_4 : decode cX4_forget 4 = .ok (.getfield 19, 3) := by decide +kernel
theorem dX4_forget_7 : decode cX4_forget 7 = .ok (.arraylength, 1) := by decide +kernel
theorem dX4_forget_8 : decode cX4_forget 8 = .ok (.if_icmp .ge 18, 3) := by decide +kernel
theorem dX4_forget_11 : decode cX4_forget 11 = .ok (.aload_n 0, 1) := by decide +kernel
theorem dX4_forget_12 : decode cX4_forget 12 = .ok (.getfield 19, 3) := by decide +kernel
theorem dX4_forget_15 : decode cX4_forget 15 = .ok (.iload_n 1, 1) := by decide +kernel
theorem dX4_forget_16 : decode cX4_forget 16 = .ok (.aaload, 1) := by decide +kernel
theorem dX4_forget_17 : decode cX4_forget 17 = .ok (.invokevirtual 51, 3) := by decide +kernel
theorem dX4_forget_20 : decode cX4_forget 20 = .ok (.iinc 1 1, 3) := by decide +kernel
theorem dX4_forget_23 : decode cX4_forget 23 = .ok (.goto (-21), 3) := by decide +kernel
theorem dX4_forget_26 : decode cX4_forget 26 = .ok (.return_, 1) := by decide +kernel
theorem dX4_learnedInAll_0 : decode cX4_learnedInAll 0 = .ok (.iconst 0, 1) := by decide +kernel
theorem dX4_learnedInAll_1 : decode cX4_learnedInAll 1 = .ok (.istore_n 1, 1) := by decide +kernel
theorem dX4_learnedInAll_2 : decode cX4_learnedInAll 2 = .ok (.iconst 0, 1) := by decide +kernel
theorem dX4_learnedInAll_3 : decode cX4_learnedInAll 3 = .ok (.istore_n 2, 1) := by decide +kernel
theorem dX4_learnedInAll_4 : decode cX4_learnedInAll 4 = .ok (.iload_n 2, 1) := by decide +kernel
theorem dX4_learnedInAll_5 : decode cX4_learnedInAll 5 = .ok (.aload_n 0, 1) := by decide +kernel
theorem dX4_learnedInAll_6 : decode cX4_learnedInAll 6 = .ok (.getfield 19, 3) := by decide +kernel
theorem dX4_learnedInAll_9 : decode cX4_learnedInAll 9 = .ok (.arraylength, 1) := by decide +kernel
theorem dX4_learnedInAll_10 : decode cX4_learnedInAll 10 = .ok (.if_icmp .ge 21, 3) := by decide +kernel
theorem dX4_learnedInAll_13 : decode cX4_learnedInAll 13 = .ok (.iload_n 1, 1) := by decide +kernel
theorem dX4_learnedInAll_14 : decode cX4_learnedInAll 14 = .ok (.aload_n 0, 1) := by decide +kernel
theorem dX4_learnedInAll_15 : decode cX4_learnedInAll 15 = .ok (.getfield 19, 3) := by decide +kernel
theorem dX4_learnedInAll_18 : decode cX4_learnedInAll 18 = .ok (.iload_n 2, 1) := by decide +kernel
theorem dX4_learnedInAll_19 : decode cX4_learnedInAll 19 = .ok (.aaload, 1) := by decide +kernel
theorem dX4_learnedInAll_20 : decode cX4_learnedInAll 20 = .ok (.getfield 54, 3) := by decide +kernel
theorem dX4_learnedInAll_23 : decode cX4_learnedInAll 23 = .ok (.iadd, 1) := by decide +kernel
theorem dX4_learnedInAll_24 : decode cX4_learnedInAll 24 = .ok (.istore_n 1, 1) := by decide +kernel
theorem dX4_learnedInAll_25 : decode cX4_learnedInAll 25 = .ok (.iinc 2 1, 3) := by decide +kernel
theorem dX4_learnedInAll_28 : decode cX4_learnedInAll 28 = .ok (.goto (-24), 3) := by decide +kernel
theorem dX4_learnedInAll_31 : decode cX4_learnedInAll 31 = .ok (.iload_n 1, 1) := by decide +kernel
theorem dX4_learnedInAll_32 : decode cX4_learnedInAll 32 = .ok (.ireturn, 1) := by decide +kernel
set_option maxRecDepth 20000 in
theorem ggX4_costOf_X6_covers : GoodIn wsX4_costOf wsX6_covers := goodIn_r _ [4] (by decide +kernel) (by decide +kernel)
set_option maxRecDepth 20000 in
theorem gX4_costOf_X6_covers_n43 : GoodIn wsX4_costOf (wsX6_covers) := ggX4_costOf_X6_covers
set_option maxRecDepth 20000 in
theorem ggX4_costOf_X2_knows : GoodIn wsX4_costOf wsX2_knows := goodIn_r _ [9, 10, 11, 3, 12, 18, 19] (by decide +kernel) (by decide +kernel)
set_option maxRecDepth 20000 in
theorem gX4_costOf_X2_knows : GoodIn wsX4_costOf (wsV RX4 57 RX2 yX2_knows wsX2_knows) := goodIn_app (goodIn_of _ (by decide +kernel)) ggX4_costOf_X2_knows
theorem dX4_costOf_0 : decode cX4_costOf 0 = .ok (.iconst 0, 1) := by decide +kernel
theorem dX4_costOf_1 : decode cX4_costOf 1 = .ok (.istore_n 3, 1) := by decide +kernel
theorem dX4_costOf_2 : decode cX4_costOf 2 = .ok (.iconst 0, 1) := by decide +kernel
theorem dX4_costOf_3 : decode cX4_costOf 3 = .ok (.istore 4, 2) := by decide +kernel
theorem dX4_costOf_5 : decode cX4_costOf 5 = .ok (.iload 4, 2) := by decide +kernel
theorem dX4_costOf_7 : decode cX4_costOf 7 = .ok (.aload_n 0, 1) := by decide +kernel
theorem dX4_costOf_8 : decode cX4_costOf 8 = .ok (.getfield 19, 3) := by decide +kernel
theorem dX4_costOf_11 : decode cX4_costOf 11 = .ok (.arraylength, 1) := by decide +kernel
theorem dX4_costOf_12 : decode cX4_costOf 12 = .ok (.if_icmp .ge 35, 3) := by decide +kernel
theorem dX4_costOf_15 : decode cX4_costOf 15 = .ok (.iload_n 2, 1) := by decide +kernel
theorem dX4_costOf_16 : decode cX4_costOf 16 = .ok (.iload 4, 2) := by decide +kernel
theorem dX4_costOf_18 : decode cX4_costOf 18 = .ok (.invokestatic 43, 3) := by decide +kernel
theorem dX4_costOf_21 : decode cX4_costOf 21 = .ok (.ifCond .eq 20, 3) := by decide +kernel
theorem dX4_costOf_24 : decode cX4_costOf 24 = .ok (.aload_n 0, 1) := by decide +kernel
theorem dX4_costOf_25 : decode cX4_costOf 25 = .ok (.getfield 19, 3) := by decide +kernel
theorem dX4_costOf_28 : decode cX4_costOf 28 = .ok (.iload 4, 2) := by decide +kernel
theorem dX4_costOf_30 : decode cX4_costOf 30 = .ok (.aaload, 1) := by decide +kernel
theorem dX4_costOf_31 : decode cX4_costOf 31 = .ok (.iload_n 1, 1) := by decide +kernel
theorem dX4_costOf_32 : decode cX4_costOf 32 = .ok (.invokevirtual 57, 3) := by decide +kernel
theorem dX4_costOf_35 : decode cX4_costOf 35 = .ok (.ifCond .ne 6, 3) := by decide +kernel
theorem dX4_costOf_38 : decode cX4_costOf 38 = .ok (.iinc 3 1, 3) := by decide +kernel
theorem dX4_costOf_41 : decode cX4_costOf 41 = .ok (.iinc 4 1, 3) := by decide +kernel
theorem dX4_costOf_44 : decode cX4_costOf 44 = .ok (.goto (-39), 3) := by decide +kernel
theorem dX4_costOf_47 : decode cX4_costOf 47 = .ok (.iload_n 3, 1) := by decide +kernel
theorem dX4_costOf_48 : decode cX4_costOf 48 = .ok (.ireturn, 1) := by decide +kernel
set_option maxRecDepth 20000 in
theorem ggX4_wouldFindUnread_X4_rightIn : GoodIn wsX4_wouldFindUnread wsX4_rightIn := goodIn_r _ [6, 7, 8, 9, 5, 10, 1, 11, 12, 13, 14, 15, 16, 17, 18, 39, 40, 41, 42, 43, 44, 45, 46] (by decide +kernel) (by decide +kernel)
set_option maxRecDepth 20000 in
theorem gX4_wouldFindUnread_X4_rightIn : GoodIn wsX4_wouldFindUnread (wsV RX4 61 RX4 yX4_rightIn wsX4_rightIn) := goodIn_app (goodIn_of _ (by decide +kernel)) ggX4_wouldFindUnread_X4_rightIn
set_option maxRecDepth 20000 in
theorem ggX4_wouldFindUnread_X4_wouldFind : GoodIn wsX4_wouldFindUnread wsX4_wouldFind := goodIn_r _ [22, 23, 24, 25, 26, 27, 28, 29, 30, 31, 32, 33, 34, 35, 36, 37, 38, 39, 40, 41, 42, 43, 47, 48] (by decide +kernel) (by decide +kernel)
set_option maxRecDepth 20000 in
theorem gX4_wouldFindUnread_X4_wouldFind : GoodIn wsX4_wouldFindUnread (wsV RX4 65 RX4 yX4_wouldFind wsX4_wouldFind) := goodIn_app (goodIn_of _ (by decide +kernel)) ggX4_wouldFindUnread_X4_wouldFind
theorem dX4_wouldFindUnread_0 : decode cX4_wouldFindUnread 0 = .ok (.iconst 0, 1) := by decide +kernel
theorem dX4_wouldFindUnread_1 : decode cX4_wouldFindUnread 1 = .ok (.istore 4, 2) := by decide +kernel
theorem dX4_wouldFindUnread_3 : decode cX4_wouldFindUnread 3 = .ok (.iload 4, 2) := by decide +kernel
theorem dX4_wouldFindUnread_5 : decode cX4_wouldFindUnread 5 = .ok (.aload_n 0, 1) := by decide +kernel
theorem dX4_wouldFindUnread_6 : decode cX4_wouldFindUnread 6 = .ok (.getfield 11, 3) := by decide +kernel
theorem dX4_wouldFindUnread_9 : decode cX4_wouldFindUnread 9 = .ok (.arraylength, 1) := by decide +kernel
theorem dX4_wouldFindUnread_10 : decode cX4_wouldFindUnread 10 = .ok (.if_icmp .ge 33, 3) := by decide +kernel
theorem dX4_wouldFindUnread_13 : decode cX4_wouldFindUnread 13 = .ok (.aload_n 0, 1) := by decide +kernel
theorem dX4_wouldFindUnread_14 : decode cX4_wouldFindUnread 14 = .ok (.iload_n 3, 1) := by decide +kernel
theorem dX4_wouldFindUnread_15 : decode cX4_wouldFindUnread 15 = .ok (.iload 4, 2) := by decide +kernel
theorem dX4_wouldFindUnread_17 : decode cX4_wouldFindUnread 17 = .ok (.invokevirtual 61, 3) := by decide +kernel
theorem dX4_wouldFindUnread_20 : decode cX4_wouldFindUnread 20 = .ok (.iconst 2, 1) := by decide +kernel
theorem dX4_wouldFindUnread_21 : decode cX4_wouldFindUnread 21 = .ok (.if_icmp .eq 16, 3) := by decide +kernel
theorem dX4_wouldFindUnread_24 : decode cX4_wouldFindUnread 24 = .ok (.aload_n 0, 1) := by decide +kernel
theorem dX4_wouldFindUnread_25 : decode cX4_wouldFindUnread 25 = .ok (.iload 4, 2) := by decide +kernel
theorem dX4_wouldFindUnread_27 : decode cX4_wouldFindUnread 27 = .ok (.iload_n 1, 1) := by decide +kernel
theorem dX4_wouldFindUnread_28 : decode cX4_wouldFindUnread 28 = .ok (.iload_n 2, 1) := by decide +kernel
theorem dX4_wouldFindUnread_29 : decode cX4_wouldFindUnread 29 = .ok (.invokevirtual 65, 3) := by decide +kernel
theorem dX4_wouldFindUnread_32 : decode cX4_wouldFindUnread 32 = .ok (.ifCond .eq 5, 3) := by decide +kernel
theorem dX4_wouldFindUnread_35 : decode cX4_wouldFindUnread 35 = .ok (.iconst 1, 1) := by decide +kernel
theorem dX4_wouldFindUnread_36 : decode cX4_wouldFindUnread 36 = .ok (.ireturn, 1) := by decide +kernel
theorem dX4_wouldFindUnread_37 : decode cX4_wouldFindUnread 37 = .ok (.iinc 4 1, 3) := by decide +kernel
theorem dX4_wouldFindUnread_40 : decode cX4_wouldFindUnread 40 = .ok (.goto (-37), 3) := by decide +kernel
theorem dX4_wouldFindUnread_43 : decode cX4_wouldFindUnread 43 = .ok (.iconst 0, 1) := by decide +kernel
theorem dX4_wouldFindUnread_44 : decode cX4_wouldFindUnread 44 = .ok (.ireturn, 1) := by decide +kernel
set_option maxRecDepth 20000 in
theorem ggX4_wouldFind_X6_covers : GoodIn wsX4_wouldFind wsX6_covers := goodIn_r _ [4] (by decide +kernel) (by decide +kernel)
set_option maxRecDepth 20000 in
theorem gX4_wouldFind_X6_covers_n43 : GoodIn wsX4_wouldFind (wsX6_covers) := ggX4_wouldFind_X6_covers
set_option maxRecDepth 20000 in
theorem ggX4_wouldFind_X2_wouldReach : GoodIn wsX4_wouldFind wsX2_wouldReach := goodIn_r _ [9, 10, 11, 12, 8, 13, 14, 15, 3, 16, 22, 23] (by decide +kernel) (by decide +kernel)
set_option maxRecDepth 20000 in
theorem gX4_wouldFind_X2_wouldReach : GoodIn wsX4_wouldFind (wsV RX4 69 RX2 yX2_wouldReach wsX2_wouldReach) := goodIn_app (goodIn_of _ (by decide +kernel)) ggX4_wouldFind_X2_wouldReach
theorem dX4_wouldFind_0 : decode cX4_wouldFind 0 = .ok (.iconst 0, 1) := by decide +kernel
theorem dX4_wouldFind_1 : decode cX4_wouldFind 1 = .ok (.istore 4, 2) := by decide +kernel
theorem dX4_wouldFind_3 : decode cX4_wouldFind 3 = .ok (.iload 4, 2) := by decide +kernel
theorem dX4_wouldFind_5 : decode cX4_wouldFind 5 = .ok (.aload_n 0, 1) := by decide +kernel
theorem dX4_wouldFind_6 : decode cX4_wouldFind 6 = .ok (.getfield 19, 3) := by decide +kernel
theorem dX4_wouldFind_9 : decode cX4_wouldFind 9 = .ok (.arraylength, 1) := by decide +kernel
theorem dX4_wouldFind_10 : decode cX4_wouldFind 10 = .ok (.if_icmp .ge 37, 3) := by decide +kernel
theorem dX4_wouldFind_13 : decode cX4_wouldFind 13 = .ok (.iload_n 3, 1) := by decide +kernel
theorem dX4_wouldFind_14 : decode cX4_wouldFind 14 = .ok (.iload 4, 2) := by decide +kernel
theorem dX4_wouldFind_16 : decode cX4_wouldFind 16 = .ok (.invokestatic 43, 3) := by decide +kernel
theorem dX4_wouldFind_19 : decode cX4_wouldFind 19 = .ok (.ifCond .eq 22, 3) := by decide +kernel
theorem dX4_wouldFind_22 : decode cX4_wouldFind 22 = .ok (.aload_n 0, 1) := by decide +kernel
theorem dX4_wouldFind_23 : decode cX4_wouldFind 23 = .ok (.getfield 19, 3) := by decide +kernel
theorem dX4_wouldFind_26 : decode cX4_wouldFind 26 = .ok (.iload 4, 2) := by decide +kernel
theorem dX4_wouldFind_28 : decode cX4_wouldFind 28 = .ok (.aaload, 1) := by decide +kernel
theorem dX4_wouldFind_29 : decode cX4_wouldFind 29 = .ok (.iconst 1, 1) := by decide +kernel
theorem dX4_wouldFind_30 : decode cX4_wouldFind 30 = .ok (.iload_n 1, 1) := by decide +kernel
theorem dX4_wouldFind_31 : decode cX4_wouldFind 31 = .ok (.ishl, 1) := by decide +kernel
theorem dX4_wouldFind_32 : decode cX4_wouldFind 32 = .ok (.iload_n 2, 1) := by decide +kernel
theorem dX4_wouldFind_33 : decode cX4_wouldFind 33 = .ok (.invokevirtual 69, 3) := by decide +kernel
theorem dX4_wouldFind_36 : decode cX4_wouldFind 36 = .ok (.ifCond .eq 5, 3) := by decide +kernel
theorem dX4_wouldFind_39 : decode cX4_wouldFind 39 = .ok (.iconst 1, 1) := by decide +kernel
theorem dX4_wouldFind_40 : decode cX4_wouldFind 40 = .ok (.ireturn, 1) := by decide +kernel
theorem dX4_wouldFind_41 : decode cX4_wouldFind 41 = .ok (.iinc 4 1, 3) := by decide +kernel
theorem dX4_wouldFind_44 : decode cX4_wouldFind 44 = .ok (.goto (-41), 3) := by decide +kernel
theorem dX4_wouldFind_47 : decode cX4_wouldFind 47 = .ok (.iconst 0, 1) := by decide +kernel
theorem dX4_wouldFind_48 : decode cX4_wouldFind 48 = .ok (.ireturn, 1) := by decide +kernel
theorem dX5_init_0 : decode cX5_init 0 = .ok (.aload_n 0, 1) := by decide +kernel
theorem dX5_init_1 : decode cX5_init 1 = .ok (.invokespecial 3, 3) := by decide +kernel
theorem dX5_init_4 : decode cX5_init 4 = .ok (.aload_n 0, 1) := by decide +kernel
theorem dX5_init_5 : decode cX5_init 5 = .ok (.iload_n 1, 1) := by decide +kernel
theorem dX5_init_6 : decode cX5_init 6 = .ok (.putfield 9, 3) := by decide +kernel
theorem dX5_init_9 : decode cX5_init 9 = .ok (.aload_n 0, 1) := by decide +kernel
theorem dX5_init_10 : decode cX5_init 10 = .ok (.iload_n 2, 1) := by decide +kernel
theorem dX5_init_11 : decode cX5_init 11 = .ok (.putfield 15, 3) := by decide +kernel
theorem dX5_init_14 : decode cX5_init 14 = .ok (.aload_n 0, 1) := by decide +kernel
theorem dX5_init_15 : decode cX5_init 15 = .ok (.iload_n 3, 1) := by decide +kernel
theorem dX5_init_16 : decode cX5_init 16 = .ok (.putfield 18, 3) := by decide +kernel
theorem dX5_init_19 : decode cX5_init 19 = .ok (.return_, 1) := by decide +kernel
theorem dX5_in_0 : decode cX5_in 0 = .ok (.aload_n 0, 1) := by decide +kernel
theorem dX5_in_1 : decode cX5_in 1 = .ok (.getfield 15, 3) := by decide +kernel
theorem dX5_in_4 : decode cX5_in 4 = .ok (.iload_n 1, 1) := by decide +kernel
theorem dX5_in_5 : decode cX5_in 5 = .ok (.if_icmp .gt 18, 3) := by decide +kernel
theorem dX5_in_8 : decode cX5_in 8 = .ok (.iload_n 1, 1) := by decide +kernel
theorem dX5_in_9 : decode cX5_in 9 = .ok (.aload_n 0, 1) := by decide +kernel
theorem dX5_in_10 : decode cX5_in 10 = .ok (.getfield 18, 3) := by decide +kernel
theorem dX5_in_13 : decode cX5_in 13 = .ok (.if_icmp .gt 10, 3) := by decide +kernel
theorem dX5_in_16 : decode cX5_in 16 = .ok (.aload_n 0, 1) := by decide +kernel
theorem dX5_in_17 : decode cX5_in 17 = .ok (.getfield 9, 3) := by decide +kernel
theorem dX5_in_20 : decode cX5_in 20 = .ok (.goto 4, 3) := by decide +kernel
theorem dX5_in_23 : decode cX5_in 23 = .ok (.iconst 0, 1) := by decide +kernel
theorem dX5_in_24 : decode cX5_in 24 = .ok (.ireturn, 1) := by decide +kernel
set_option maxRecDepth 20000 in
theorem ggX6_init_Jx4a65c_init_da8c8 : GoodIn wsX6_init wsJx4a65c_init_da8c8 := goodIn_r _ [20, 21, 22, 23, 24, 25, 26, 27, 28, 29, 30, 31, 32, 2, 3, 43, 44, 45] (by decide +kernel) (by decide +kernel)
set_option maxRecDepth 20000 in
theorem gX6_init_Jx4a65c_init_da8c8 : GoodIn wsX6_init (wsJx4a65c_init_da8c8) := ggX6_init_Jx4a65c_init_da8c8
set_option maxRecDepth 20000 in
theorem ggX6_init_X2_init : GoodIn wsX6_init wsX2_init := goodIn_r _ [34, 35, 2, 3, 36, 37, 52, 53] (by decide +kernel) (by decide +kernel)
set_option maxRecDepth 20000 in
theorem gX6_init_X2_init_n24 : GoodIn wsX6_init (wsX2_init) := ggX6_init_X2_init
set_option maxRecDepth 20000 in
theorem ggX6_init_X3_init : GoodIn wsX6_init wsX3_init := goodIn_r _ [39, 40, 2, 3, 41, 42, 54, 55] (by decide +kernel) (by decide +kernel)
set_option maxRecDepth 20000 in
theorem gX6_init_X3_init_n31 : GoodIn wsX6_init (wsX3_init) := ggX6_init_X3_init
theorem dX6_init_0 : decode cX6_init 0 = .ok (.aload_n 0, 1) := by decide +kernel
theorem dX6_init_1 : decode cX6_init 1 = .ok (.invokespecial 1, 3) := by decide +kernel
theorem dX6_init_4 : decode cX6_init 4 = .ok (.aload_n 0, 1) := by decide +kernel
theorem dX6_init_5 : decode cX6_init 5 = .ok (.new 7, 3) := by decide +kernel
theorem dX6_init_8 : decode cX6_init 8 = .ok (.dup, 1) := by decide +kernel
theorem dX6_init_9 : decode cX6_init 9 = .ok (.invokespecial 9, 3) := by decide +kernel
theorem dX6_init_12 : decode cX6_init 12 = .ok (.putfield 10, 3) := by decide +kernel
theorem dX6_init_15 : decode cX6_init 15 = .ok (.aload_n 0, 1) := by decide +kernel
theorem dX6_init_16 : decode cX6_init 16 = .ok (.new 7, 3) := by decide +kernel
theorem dX6_init_19 : decode cX6_init 19 = .ok (.dup, 1) := by decide +kernel
theorem dX6_init_20 : decode cX6_init 20 = .ok (.invokespecial 9, 3) := by decide +kernel
theorem dX6_init_23 : decode cX6_init 23 = .ok (.putfield 16, 3) := by decide +kernel
theorem dX6_init_26 : decode cX6_init 26 = .ok (.aload_n 0, 1) := by decide +kernel
theorem dX6_init_27 : decode cX6_init 27 = .ok (.new 7, 3) := by decide +kernel
theorem dX6_init_30 : decode cX6_init 30 = .ok (.dup, 1) := by decide +kernel
theorem dX6_init_31 : decode cX6_init 31 = .ok (.invokespecial 9, 3) := by decide +kernel
theorem dX6_init_34 : decode cX6_init 34 = .ok (.putfield 19, 3) := by decide +kernel
theorem dX6_init_37 : decode cX6_init 37 = .ok (.aload_n 0, 1) := by decide +kernel
theorem dX6_init_38 : decode cX6_init 38 = .ok (.new 22, 3) := by decide +kernel
theorem dX6_init_41 : decode cX6_init 41 = .ok (.dup, 1) := by decide +kernel
theorem dX6_init_42 : decode cX6_init 42 = .ok (.invokespecial 24, 3) := by decide +kernel
theorem dX6_init_45 : decode cX6_init 45 = .ok (.putfield 25, 3) := by decide +kernel
theorem dX6_init_48 : decode cX6_init 48 = .ok (.aload_n 0, 1) := by decide +kernel
theorem dX6_init_49 : decode cX6_init 49 = .ok (.new 29, 3) := by decide +kernel
theorem dX6_init_52 : decode cX6_init 52 = .ok (.dup, 1) := by decide +kernel
theorem dX6_init_53 : decode cX6_init 53 = .ok (.invokespecial 31, 3) := by decide +kernel
theorem dX6_init_56 : decode cX6_init 56 = .ok (.putfield 32, 3) := by decide +kernel
theorem dX6_init_59 : decode cX6_init 59 = .ok (.return_, 1) := by decide +kernel
set_option maxRecDepth 20000 in
theorem ggX6_file_X6_requireRange : GoodIn wsX6_file wsX6_requireRange := goodIn_ca (goodIn_r _ [10, 11, 12] (by decide +kernel) (by decide +kernel)) (goodIn_sub (fun _ h => List.mem_cons_of_mem _ (List.mem_append_right _ h)) (by decide +kernel))
set_option maxRecDepth 20000 in
theorem gX6_file_X6_requireRange : GoodIn wsX6_file (va_wsS RX6 36 yX6_requireRange wsX6_requireRange) := goodIn_app (goodIn_of _ (by decide +kernel)) ggX6_file_X6_requireRange
set_option maxRecDepth 20000 in
theorem ggX6_file_Jx4a65c_size_8abf5 : GoodIn wsX6_file wsJx4a65c_size_8abf5 := goodIn_r _ [17, 18, 89, 90, 91] (by decide +kernel) (by decide +kernel)
set_option maxRecDepth 20000 in
theorem gX6_file_Jx4a65c_size_8abf5 : GoodIn wsX6_file (wsV RX6 40 RJx4a65c yJx4a65c_size_8abf5 wsJx4a65c_size_8abf5) := goodIn_app (goodIn_of _ (by decide +kernel)) ggX6_file_Jx4a65c_size_8abf5
set_option maxRecDepth 20000 in
theorem ggX6_file_X1_init : GoodIn wsX6_file wsX1_init := goodIn_r _ [21, 22, 23, 24, 25, 26, 87, 88] (by decide +kernel) (by decide +kernel)
set_option maxRecDepth 20000 in
theorem gX6_file_X1_init : GoodIn wsX6_file (wsX1_init) := ggX6_file_X1_init
set_option maxRecDepth 20000 in
theorem ggX6_file_Jx4a65c_add_9ea2d : GoodIn wsX6_file wsJx4a65c_add_9ea2d := goodIn_r _ [30, 31, 32, 33, 18, 34, 35, 36, 16, 37, 38, 39, 40, 41, 42, 43, 44, 45, 46, 47, 48, 49, 50, 51, 52, 53, 54, 55, 56, 57, 58, 59, 60, 61, 62, 63, 64, 65, 66, 67, 68, 69, 70, 71, 72, 73, 74, 75, 76, 77, 78, 79, 80, 89, 90, 91] (by decide +kernel) (by decide +kernel)
set_option maxRecDepth 20000 in
theorem gX6_file_Jx4a65c_add_9ea2d : GoodIn wsX6_file (wsV RX6 56 RJx4a65c yJx4a65c_add_9ea2d wsJx4a65c_add_9ea2d) := goodIn_app (goodIn_of _ (by decide +kernel)) ggX6_file_Jx4a65c_add_9ea2d
theorem dX6_file_0 : decode cX6_file 0 = .ok (.iload_n 1, 1) := by decide +kernel
theorem dX6_file_1 : decode cX6_file 1 = .ok (.iconst 0, 1) := by decide +kernel
theorem dX6_file_2 : decode cX6_file 2 = .ok (.sipush 255, 3) := by decide +kernel
theorem dX6_file_5 : decode cX6_file 5 = .ok (.invokestatic 36, 3) := by decide +kernel
theorem dX6_file_8 : decode cX6_file 8 = .ok (.aload_n 0, 1) := by decide +kernel
theorem dX6_file_9 : decode cX6_file 9 = .ok (.getfield 10, 3) := by decide +kernel
theorem dX6_file_12 : decode cX6_file 12 = .ok (.invokevirtual 40, 3) := by decide +kernel
theorem dX6_file_15 : decode cX6_file 15 = .ok (.bipush 16, 2) := by decide +kernel
theorem dX6_file_17 : decode cX6_file 17 = .ok (.if_icmp .lt 13, 3) := by decide +kernel
theorem dX6_file_20 : decode cX6_file 20 = .ok (.new 44, 3) := by decide +kernel
theorem dX6_file_23 : decode cX6_file 23 = .ok (.dup, 1) := by decide +kernel
theorem dX6_file_24 : decode cX6_file 24 = .ok (.ldc 46, 2) := by decide +kernel
theorem dX6_file_26 : decode cX6_file 26 = .ok (.invokespecial 48, 3) := by decide +kernel
theorem dX6_file_29 : decode cX6_file 29 = .ok (.athrow, 1) := by decide +kernel
theorem dX6_file_30 : decode cX6_file 30 = .ok (.aload_n 0, 1) := by decide +kernel
theorem dX6_file_31 : decode cX6_file 31 = .ok (.getfield 10, 3) := by decide +kernel
theorem dX6_file_34 : decode cX6_file 34 = .ok (.new 51, 3) := by decide +kernel
theorem dX6_file_37 : decode cX6_file 37 = .ok (.dup, 1) := by decide +kernel
theorem dX6_file_38 : decode cX6_file 38 = .ok (.iload_n 1, 1) := by decide +kernel
theorem dX6_file_39 : decode cX6_file 39 = .ok (.invokespecial 53, 3) := by decide +kernel
theorem dX6_file_42 : decode cX6_file 42 = .ok (.invokevirtual 56, 3) := by decide +kernel
theorem dX6_file_45 : decode cX6_file 45 = .ok (.pop, 1) := by decide +kernel
theorem dX6_file_46 : decode cX6_file 46 = .ok (.aload_n 0, 1) := by decide +kernel
theorem dX6_file_47 : decode cX6_file 47 = .ok (.getfield 10, 3) := by decide +kernel
theorem dX6_file_50 : decode cX6_file 50 = .ok (.invokevirtual 40, 3) := by decide +kernel
theorem dX6_file_53 : decode cX6_file 53 = .ok (.iconst 1, 1) := by decide +kernel
theorem dX6_file_54 : decode cX6_file 54 = .ok (.isub, 1) := by decide +kernel
theorem dX6_file_55 : decode cX6_file 55 = .ok (.ireturn, 1) := by decide +kernel
set_option maxRecDepth 20000 in
theorem ggX6_change_X6_fileAt : GoodIn wsX6_change wsX6_fileAt := goodIn_ca (goodIn_r _ [7, 8, 9, 10, 11, 12, 6, 13, 14, 15, 16, 17, 18, 19, 20, 21, 22, 23, 24, 25, 26, 27, 28, 29, 30, 31, 32, 33, 34, 35, 36, 37, 38, 89, 90, 91, 92, 93, 94, 95, 96, 97] (by decide +kernel) (by decide +kernel)) (goodIn_sub (fun _ h => List.mem_cons_of_mem _ (List.mem_append_left _ (List.mem_append_right _ h))) (by decide +kernel))
set_option maxRecDepth 20000 in
theorem gX6_change_X6_fileAt : GoodIn wsX6_change (wsV RX6 60 RX6 yX6_fileAt wsX6_fileAt) := goodIn_app (goodIn_of _ (by decide +kernel)) ggX6_change_X6_fileAt
set_option maxRecDepth 20000 in
theorem ggX6_change_X6_requireRange : GoodIn wsX6_change wsX6_requireRange := goodIn_ca (goodIn_r _ [41, 42, 43] (by decide +kernel) (by decide +kernel)) (goodIn_sub (fun _ h => List.mem_cons_of_mem _ (List.mem_append_right _ h)) (by decide +kernel))
set_option maxRecDepth 20000 in
theorem gX6_change_X6_requireRange : GoodIn wsX6_change (va_wsS RX6 36 yX6_requireRange wsX6_requireRange) := goodIn_app (goodIn_of _ (by decide +kernel)) ggX6_change_X6_requireRange
set_option maxRecDepth 20000 in
theorem ggX6_change_Jx4a65c_size_8abf5 : GoodIn wsX6_change wsJx4a65c_size_8abf5 := goodIn_r _ [20, 21, 95, 96, 97] (by decide +kernel) (by decide +kernel)
set_option maxRecDepth 20000 in
theorem gX6_change_Jx4a65c_size_8abf5 : GoodIn wsX6_change (wsV RX6 40 RJx4a65c yJx4a65c_size_8abf5 wsJx4a65c_size_8abf5) := goodIn_app (goodIn_of _ (by decide +kernel)) ggX6_change_Jx4a65c_size_8abf5
set_option maxRecDepth 20000 in
theorem ggX6_change_Jx4a65c_get_915e3 : GoodIn wsX6_change wsJx4a65c_get_915e3 := goodIn_r _ [25, 21, 26, 27, 28, 29, 30, 31, 32, 33, 34, 35, 36, 19, 37, 38, 95, 96, 97] (by decide +kernel) (by decide +kernel)
set_option maxRecDepth 20000 in
theorem gX6_change_Jx4a65c_get_915e3 : GoodIn wsX6_change (wsV RX6 68 RJx4a65c yJx4a65c_get_915e3 wsJx4a65c_get_915e3) := goodIn_app (goodIn_of _ (by decide +kernel)) ggX6_change_Jx4a65c_get_915e3
set_option maxRecDepth 20000 in
theorem ggX6_change_X6_recall : GoodIn wsX6_change wsX6_recall := goodIn_r _ [47, 48, 49, 16, 17, 18, 19, 20, 21, 22, 23, 24, 25, 26, 27, 28, 29, 30, 31, 32, 33, 34, 35, 36, 37, 38, 50, 51, 52, 53, 54, 55, 56, 57, 58, 6, 59, 60, 61, 62, 63, 64, 65, 66, 67, 68, 69, 70, 71, 72, 73, 74, 75, 76, 77, 78, 79, 80, 81, 82, 83, 84, 85, 86, 89, 90, 91, 92, 93, 94, 98, 99, 100, 101, 102, 103, 95, 96, 97, 104, 105, 106, 107, 108, 109, 110] (by decide +kernel) (by decide +kernel)
set_option maxRecDepth 20000 in
theorem gX6_change_X6_recall : GoodIn wsX6_change (wsV RX6 74 RX6 yX6_recall wsX6_recall) := goodIn_app (goodIn_of _ (by decide +kernel)) ggX6_change_X6_recall
theorem dX6_change_0 : decode cX6_change 0 = .ok (.aload_n 0, 1) := by decide +kernel
theorem dX6_change_1 : decode cX6_change 1 = .ok (.iload_n 1, 1) := by decide +kernel
theorem dX6_change_2 : decode cX6_change 2 = .ok (.invokevirtual 60, 3) := by decide +kernel
theorem dX6_change_5 : decode cX6_change 5 = .ok (.astore_n 3, 1) := by decide +kernel
theorem dX6_change_6 : decode cX6_change 6 = .ok (.iload_n 2, 1) := by decide +kernel
theorem dX6_change_7 : decode cX6_change 7 = .ok (.iconst 0, 1) := by decide +kernel
theorem dX6_change_8 : decode cX6_change 8 = .ok (.sipush 255, 3) := by decide +kernel
theorem dX6_change_11 : decode cX6_change 11 = .ok (.invokestatic 36, 3) := by decide +kernel
theorem dX6_change_14 : decode cX6_change 14 = .ok (.aload_n 3, 1) := by decide +kernel
theorem dX6_change_15 : decode cX6_change 15 = .ok (.iload_n 2, 1) := by decide +kernel
theorem dX6_change_16 : decode cX6_change 16 = .ok (.putfield 64, 3) := by decide +kernel
theorem dX6_change_19 : decode cX6_change 19 = .ok (.iconst 0, 1) := by decide +kernel
theorem dX6_change_20 : decode cX6_change 20 = .ok (.istore 4, 2) := by decide +kernel
theorem dX6_change_22 : decode cX6_change 22 = .ok (.iconst 0, 1) := by decide +kernel
theorem dX6_change_23 : decode cX6_change 23 = .ok (.istore 5, 2) := by decide +kernel
theorem dX6_change_25 : decode cX6_change 25 = .ok (.iload 5, 2) := by decide +kernel
theorem dX6_change_27 : decode cX6_change 27 = .ok (.aload_n 0, 1) := by decide +kernel
theorem dX6_change_28 : decode cX6_change 28 = .ok (.getfield 16, 3) := by decide +kernel
theorem dX6_change_31 : decode cX6_change 31 = .ok (.invokevirtual 40, 3) := by decide +kernel
theorem dX6_change_34 : decode cX6_change 34 = .ok (.if_icmp .ge 31, 3) := by decide +kernel
theorem dX6_change_37 : decode cX6_change 37 = .ok (.iload 4, 2) := by decide +kernel
theorem dX6_change_39 : decode cX6_change 39 = .ok (.aload_n 0, 1) := by decide +kernel
theorem dX6_change_40 : decode cX6_change 40 = .ok (.aload_n 0, 1) := by decide +kernel
theorem dX6_change_41 : decode cX6_change 41 = .ok (.getfield 16, 3) := by decide +kernel
theorem dX6_change_44 : decode cX6_change 44 = .ok (.iload 5, 2) := by decide +kernel
theorem dX6_change_46 : decode cX6_change 46 = .ok (.invokevirtual 68, 3) := by decide +kernel
theorem dX6_change_49 : decode cX6_change 49 = .ok (.checkcast 72, 3) := by decide +kernel
theorem dX6_change_52 : decode cX6_change 52 = .ok (.iload_n 1, 1) := by decide +kernel
theorem dX6_change_53 : decode cX6_change 53 = .ok (.invokevirtual 74, 3) := by decide +kernel
theorem dX6_change_56 : decode cX6_change 56 = .ok (.iadd, 1) := by decide +kernel
theorem dX6_change_57 : decode cX6_change 57 = .ok (.istore 4, 2) := by decide +kernel
theorem dX6_change_59 : decode cX6_change 59 = .ok (.iinc 5 1, 3) := by decide +kernel
theorem dX6_change_62 : decode cX6_change 62 = .ok (.goto (-37), 3) := by decide +kernel
theorem dX6_change_65 : decode cX6_change 65 = .ok (.iload 4, 2) := by decide +kernel
theorem dX6_change_67 : decode cX6_change 67 = .ok (.ireturn, 1) := by decide +kernel
set_option maxRecDepth 20000 in
theorem ggX6_party_X6_requireRange : GoodIn wsX6_party wsX6_requireRange := goodIn_ca (goodIn_r _ [10, 11, 12] (by decide +kernel) (by decide +kernel)) (goodIn_sub (fun _ h => List.mem_cons_of_mem _ (List.mem_append_right _ h)) (by decide +kernel))
set_option maxRecDepth 20000 in
theorem gX6_party_X6_requireRange : GoodIn wsX6_party (va_wsS RX6 36 yX6_requireRange wsX6_requireRange) := goodIn_app (goodIn_of _ (by decide +kernel)) ggX6_party_X6_requireRange
set_option maxRecDepth 20000 in
theorem ggX6_party_Jx4a65c_size_8abf5 : GoodIn wsX6_party wsJx4a65c_size_8abf5 := goodIn_r _ [17, 18, 104, 105, 106] (by decide +kernel) (by decide +kernel)
set_option maxRecDepth 20000 in
theorem gX6_party_Jx4a65c_size_8abf5 : GoodIn wsX6_party (wsV RX6 40 RJx4a65c yJx4a65c_size_8abf5 wsJx4a65c_size_8abf5) := goodIn_app (goodIn_of _ (by decide +kernel)) ggX6_party_Jx4a65c_size_8abf5
set_option maxRecDepth 20000 in
theorem ggX6_party_X4_init : GoodIn wsX6_party wsX4_init := goodIn_r _ [21, 22, 23, 24, 25, 26, 27, 28, 29, 30, 31, 32, 33, 34, 35, 36, 37, 38, 99, 100, 101, 102, 103, 107, 108] (by decide +kernel) (by decide +kernel)
set_option maxRecDepth 20000 in
theorem gX6_party_X4_init : GoodIn wsX6_party (wsX4_init) := ggX6_party_X4_init
set_option maxRecDepth 20000 in
theorem ggX6_party_Jx4a65c_add_9ea2d : GoodIn wsX6_party wsJx4a65c_add_9ea2d := goodIn_r _ [42, 43, 44, 45, 18, 46, 47, 48, 16, 49, 50, 51, 52, 53, 54, 55, 56, 57, 58, 59, 60, 61, 62, 63, 64, 65, 66, 67, 68, 69, 70, 71, 72, 73, 74, 75, 76, 77, 78, 79, 80, 81, 82, 83, 84, 85, 86, 87, 88, 89, 90, 91, 92, 104, 105, 106] (by decide +kernel) (by decide +kernel)
set_option maxRecDepth 20000 in
theorem gX6_party_Jx4a65c_add_9ea2d : GoodIn wsX6_party (wsV RX6 56 RJx4a65c yJx4a65c_add_9ea2d wsJx4a65c_add_9ea2d) := goodIn_app (goodIn_of _ (by decide +kernel)) ggX6_party_Jx4a65c_add_9ea2d
theorem dX6_party_0 : decode cX6_party 0 = .ok (.iload_n 1, 1) := by decide +kernel
theorem dX6_party_1 : decode cX6_party 1 = .ok (.iconst 0, 1) := by decide +kernel
theorem dX6_party_2 : decode cX6_party 2 = .ok (.sipush 128, 3) := by decide +kernel
theorem dX6_party_5 : decode cX6_party 5 = .ok (.invokestatic 36, 3) := by decide +kernel
theorem dX6_party_8 : decode cX6_party 8 = .ok (.aload_n 0, 1) := by decide +kernel
theorem dX6_party_9 : decode cX6_party 9 = .ok (.getfield 16, 3) := by decide +kernel
theorem dX6_party_12 : decode cX6_party 12 = .ok (.invokevirtual 40, 3) := by decide +kernel
theorem dX6_party_15 : decode cX6_party 15 = .ok (.bipush 6, 2) := by decide +kernel
theorem dX6_party_17 : decode cX6_party 17 = .ok (.if_icmp .lt 13, 3) := by decide +kernel
theorem dX6_party_20 : decode cX6_party 20 = .ok (.new 44, 3) := by decide +kernel
theorem dX6_party_23 : decode cX6_party 23 = .ok (.dup, 1) := by decide +kernel
theorem dX6_party_24 : decode cX6_party 24 = .ok (.ldc 78, 2) := by decide +kernel
theorem dX6_party_26 : decode cX6_party 26 = .ok (.invokespecial 48, 3) := by decide +kernel
theorem dX6_party_29 : decode cX6_party 29 = .ok (.athrow, 1) := by decide +kernel
theorem dX6_party_30 : decode cX6_party 30 = .ok (.aload_n 0, 1) := by decide +kernel
theorem dX6_party_31 : decode cX6_party 31 = .ok (.getfield 16, 3) := by decide +kernel
theorem dX6_party_34 : decode cX6_party 34 = .ok (.invokevirtual 40, 3) := by decide +kernel
theorem dX6_party_37 : decode cX6_party 37 = .ok (.istore_n 2, 1) := by decide +kernel
theorem dX6_party_38 : decode cX6_party 38 = .ok (.aload_n 0, 1) := by decide +kernel
theorem dX6_party_39 : decode cX6_party 39 = .ok (.getfield 16, 3) := by decide +kernel
theorem dX6_party_42 : decode cX6_party 42 = .ok (.new 72, 3) := by decide +kernel
theorem dX6_party_45 : decode cX6_party 45 = .ok (.dup, 1) := by decide +kernel
theorem dX6_party_46 : decode cX6_party 46 = .ok (.iload_n 2, 1) := by decide +kernel
theorem dX6_party_47 : decode cX6_party 47 = .ok (.iload_n 1, 1) := by decide +kernel
theorem dX6_party_48 : decode cX6_party 48 = .ok (.invokespecial 80, 3) := by decide +kernel
theorem dX6_party_51 : decode cX6_party 51 = .ok (.invokevirtual 56, 3) := by decide +kernel
theorem dX6_party_54 : decode cX6_party 54 = .ok (.pop, 1) := by decide +kernel
theorem dX6_party_55 : decode cX6_party 55 = .ok (.iload_n 2, 1) := by decide +kernel
theorem dX6_party_56 : decode cX6_party 56 = .ok (.ireturn, 1) := by decide +kernel
set_option maxRecDepth 20000 in
theorem ggX6_budget_X6_partyAt : GoodIn wsX6_budget wsX6_partyAt := goodIn_ca (goodIn_r _ [5, 6, 7, 8, 9, 10, 11, 12, 13, 14, 15, 16, 17, 18, 19, 20, 21, 22, 23, 24, 25, 26, 27, 28, 29, 30, 31, 32, 43, 44, 45, 46, 47, 48, 49, 50, 51] (by decide +kernel) (by decide +kernel)) (goodIn_sub (fun _ h => List.mem_cons_of_mem _ (List.mem_append_left _ (List.mem_append_right _ h))) (by decide +kernel))
set_option maxRecDepth 20000 in
theorem gX6_budget_X6_partyAt : GoodIn wsX6_budget (wsV RX6 83 RX6 yX6_partyAt wsX6_partyAt) := goodIn_app (goodIn_of _ (by decide +kernel)) ggX6_budget_X6_partyAt
set_option maxRecDepth 20000 in
theorem ggX6_budget_X6_requireRange : GoodIn wsX6_budget wsX6_requireRange := goodIn_ca (goodIn_r _ [35, 36, 37] (by decide +kernel) (by decide +kernel)) (goodIn_sub (fun _ h => List.mem_cons_of_mem _ (List.mem_append_right _ h)) (by decide +kernel))
set_option maxRecDepth 20000 in
theorem gX6_budget_X6_requireRange : GoodIn wsX6_budget (va_wsS RX6 36 yX6_requireRange wsX6_requireRange) := goodIn_app (goodIn_of _ (by decide +kernel)) ggX6_budget_X6_requireRange
theorem dX6_budget_0 : decode cX6_budget 0 = .ok (.aload_n 0, 1) := by decide +kernel
theorem dX6_budget_1 : decode cX6_budget 1 = .ok (.iload_n 1, 1) := by decide +kernel
theorem dX6_budget_2 : decode cX6_budget 2 = .ok (.invokevirtual 83, 3) := by decide +kernel
theorem dX6_budget_5 : decode cX6_budget 5 = .ok (.astore_n 3, 1) := by decide +kernel
theorem dX6_budget_6 : decode cX6_budget 6 = .ok (.iload_n 2, 1) := by decide +kernel
theorem dX6_budget_7 : decode cX6_budget 7 = .ok (.iconst 0, 1) := by decide +kernel
theorem dX6_budget_8 : decode cX6_budget 8 = .ok (.sipush 128, 3) := by decide +kernel
theorem dX6_budget_11 : decode cX6_budget 11 = .ok (.invokestatic 36, 3) := by decide +kernel
theorem dX6_budget_14 : decode cX6_budget 14 = .ok (.aload_n 3, 1) := by decide +kernel
theorem dX6_budget_15 : decode cX6_budget 15 = .ok (.getfield 87, 3) := by decide +kernel
theorem dX6_budget_18 : decode cX6_budget 18 = .ok (.istore 4, 2) := by decide +kernel
theorem dX6_budget_20 : decode cX6_budget 20 = .ok (.aload_n 3, 1) := by decide +kernel
theorem dX6_budget_21 : decode cX6_budget 21 = .ok (.iload_n 2, 1) := by decide +kernel
theorem dX6_budget_22 : decode cX6_budget 22 = .ok (.putfield 87, 3) := by decide +kernel
theorem dX6_budget_25 : decode cX6_budget 25 = .ok (.iload 4, 2) := by decide +kernel
theorem dX6_budget_27 : decode cX6_budget 27 = .ok (.ireturn, 1) := by decide +kernel
set_option maxRecDepth 20000 in
theorem ggX6_right_X6_partyAt : GoodIn wsX6_right wsX6_partyAt := goodIn_ca (goodIn_r _ [8, 9, 10, 11, 12, 13, 14, 15, 16, 17, 18, 19, 20, 21, 22, 23, 24, 25, 26, 27, 28, 29, 30, 31, 32, 33, 34, 35, 64, 65, 66, 67, 68, 69, 70, 71, 72] (by decide +kernel) (by decide +kernel)) (goodIn_sub (fun _ h => List.mem_cons_of_mem _ (List.mem_append_left _ (List.mem_append_right _ h))) (by decide +kernel))
set_option maxRecDepth 20000 in
theorem gX6_right_X6_partyAt : GoodIn wsX6_right (wsV RX6 83 RX6 yX6_partyAt wsX6_partyAt) := goodIn_app (goodIn_of _ (by decide +kernel)) ggX6_right_X6_partyAt
set_option maxRecDepth 20000 in
theorem ggX6_right_X6_requireFile : GoodIn wsX6_right wsX6_requireFile := goodIn_ca (goodIn_r _ [39, 9, 10, 40, 13, 14, 15, 16, 17, 18, 64, 65, 66, 67, 68, 69, 70, 71, 72] (by decide +kernel) (by decide +kernel)) (goodIn_sub (fun _ h => List.mem_cons_of_mem _ (List.mem_append_left _ (List.mem_append_right _ h))) (by decide +kernel))
set_option maxRecDepth 20000 in
theorem gX6_right_X6_requireFile : GoodIn wsX6_right (wsV RX6 90 RX6 yX6_requireFile wsX6_requireFile) := goodIn_app (goodIn_of _ (by decide +kernel)) ggX6_right_X6_requireFile
set_option maxRecDepth 20000 in
theorem ggX6_right_X6_requireRange : GoodIn wsX6_right wsX6_requireRange := goodIn_ca (goodIn_r _ [43, 44, 45] (by decide +kernel) (by decide +kernel)) (goodIn_sub (fun _ h => List.mem_cons_of_mem _ (List.mem_append_right _ h)) (by decide +kernel))
set_option maxRecDepth 20000 in
theorem gX6_right_X6_requireRange : GoodIn wsX6_right (va_wsS RX6 36 yX6_requireRange wsX6_requireRange) := goodIn_app (goodIn_of _ (by decide +kernel)) ggX6_right_X6_requireRange
set_option maxRecDepth 20000 in
theorem ggX6_right_X5_init : GoodIn wsX6_right wsX5_init := goodIn_r _ [48, 49, 50, 51, 52, 53, 54, 61, 62, 63] (by decide +kernel) (by decide +kernel)
set_option maxRecDepth 20000 in
theorem gX6_right_X5_init : GoodIn wsX6_right (wsX5_init) := ggX6_right_X5_init
set_option maxRecDepth 20000 in
theorem ggX6_right_X4_setRight : GoodIn wsX6_right wsX4_setRight := goodIn_r _ [59, 60, 73, 74, 75, 76, 77] (by decide +kernel) (by decide +kernel)
set_option maxRecDepth 20000 in
theorem gX6_right_X4_setRight : GoodIn wsX6_right (wsV RX6 97 RX4 yX4_setRight wsX4_setRight) := goodIn_app (goodIn_of _ (by decide +kernel)) ggX6_right_X4_setRight
theorem dX6_right_0 : decode cX6_right 0 = .ok (.aload_n 0, 1) := by decide +kernel
theorem dX6_right_1 : decode cX6_right 1 = .ok (.iload_n 1, 1) := by decide +kernel
theorem dX6_right_2 : decode cX6_right 2 = .ok (.invokevirtual 83, 3) := by decide +kernel
theorem dX6_right_5 : decode cX6_right 5 = .ok (.astore 6, 2) := by decide +kernel
theorem dX6_right_7 : decode cX6_right 7 = .ok (.aload_n 0, 1) := by decide +kernel
theorem dX6_right_8 : decode cX6_right 8 = .ok (.iload_n 2, 1) := by decide +kernel
theorem dX6_right_9 : decode cX6_right 9 = .ok (.invokevirtual 90, 3) := by decide +kernel
theorem dX6_right_12 : decode cX6_right 12 = .ok (.iload_n 3, 1) := by decide +kernel
theorem dX6_right_13 : decode cX6_right 13 = .ok (.iconst 1, 1) := by decide +kernel
theorem dX6_right_14 : decode cX6_right 14 = .ok (.iconst 2, 1) := by decide +kernel
theorem dX6_right_15 : decode cX6_right 15 = .ok (.invokestatic 36, 3) := by decide +kernel
theorem dX6_right_18 : decode cX6_right 18 = .ok (.iload 4, 2) := by decide +kernel
theorem dX6_right_20 : decode cX6_right 20 = .ok (.iconst 0, 1) := by decide +kernel
theorem dX6_right_21 : decode cX6_right 21 = .ok (.sipush 5000, 3) := by decide +kernel
theorem dX6_right_24 : decode cX6_right 24 = .ok (.invokestatic 36, 3) := by decide +kernel
theorem dX6_right_27 : decode cX6_right 27 = .ok (.iload 5, 2) := by decide +kernel
theorem dX6_right_29 : decode cX6_right 29 = .ok (.iload 4, 2) := by decide +kernel
theorem dX6_right_31 : decode cX6_right 31 = .ok (.sipush 5000, 3) := by decide +kernel
theorem dX6_right_34 : decode cX6_right 34 = .ok (.invokestatic 36, 3) := by decide +kernel
theorem dX6_right_37 : decode cX6_right 37 = .ok (.aload 6, 2) := by decide +kernel
theorem dX6_right_39 : decode cX6_right 39 = .ok (.iload_n 2, 1) := by decide +kernel
theorem dX6_right_40 : decode cX6_right 40 = .ok (.new 93, 3) := by decide +kernel
theorem dX6_right_43 : decode cX6_right 43 = .ok (.dup, 1) := by decide +kernel
theorem dX6_right_44 : decode cX6_right 44 = .ok (.iload_n 3, 1) := by decide +kernel
theorem dX6_right_45 : decode cX6_right 45 = .ok (.iload 4, 2) := by decide +kernel
theorem dX6_right_47 : decode cX6_right 47 = .ok (.iload 5, 2) := by decide +kernel
theorem dX6_right_49 : decode cX6_right 49 = .ok (.invokespecial 95, 3) := by decide +kernel
theorem dX6_right_52 : decode cX6_right 52 = .ok (.invokevirtual 97, 3) := by decide +kernel
theorem dX6_right_55 : decode cX6_right 55 = .ok (.return_, 1) := by decide +kernel
set_option maxRecDepth 20000 in
theorem ggX6_takeBack_X6_partyAt : GoodIn wsX6_takeBack wsX6_partyAt := goodIn_ca (goodIn_r _ [5, 6, 7, 8, 9, 10, 11, 12, 13, 14, 15, 16, 17, 18, 19, 20, 21, 22, 23, 24, 25, 26, 27, 28, 29, 30, 31, 32, 90, 91, 92, 93, 94, 95, 96, 97, 98] (by decide +kernel) (by decide +kernel)) (goodIn_sub (fun _ h => List.mem_cons_of_mem _ (List.mem_append_right _ h)) (by decide +kernel))
set_option maxRecDepth 20000 in
theorem gX6_takeBack_X6_partyAt : GoodIn wsX6_takeBack (wsV RX6 83 RX6 yX6_partyAt wsX6_partyAt) := goodIn_app (goodIn_of _ (by decide +kernel)) ggX6_takeBack_X6_partyAt
set_option maxRecDepth 20000 in
theorem ggX6_takeBack_X6_requireFile : GoodIn wsX6_takeBack wsX6_requireFile := goodIn_ca (goodIn_r _ [36, 6, 7, 37, 10, 11, 12, 13, 14, 15, 90, 91, 92, 93, 94, 95, 96, 97, 98] (by decide +kernel) (by decide +kernel)) (goodIn_sub (fun _ h => List.mem_cons_of_mem _ (List.mem_append_right _ h)) (by decide +kernel))
set_option maxRecDepth 20000 in
theorem gX6_takeBack_X6_requireFile : GoodIn wsX6_takeBack (wsV RX6 90 RX6 yX6_requireFile wsX6_requireFile) := goodIn_app (goodIn_of _ (by decide +kernel)) ggX6_takeBack_X6_requireFile
set_option maxRecDepth 20000 in
theorem ggX6_takeBack_X4_rightFor : GoodIn wsX6_takeBack wsX4_rightFor := goodIn_r _ [42, 43, 99, 100, 101, 102, 103] (by decide +kernel) (by decide +kernel)
set_option maxRecDepth 20000 in
theorem gX6_takeBack_X4_rightFor : GoodIn wsX6_takeBack (wsV RX6 101 RX4 yX4_rightFor wsX4_rightFor) := goodIn_app (goodIn_of _ (by decide +kernel)) ggX6_takeBack_X4_rightFor
set_option maxRecDepth 20000 in
theorem ggX6_takeBack_X4_setRight : GoodIn wsX6_takeBack wsX4_setRight := goodIn_r _ [47, 43, 99, 100, 101, 102, 103] (by decide +kernel) (by decide +kernel)
set_option maxRecDepth 20000 in
theorem gX6_takeBack_X4_setRight : GoodIn wsX6_takeBack (wsV RX6 97 RX4 yX4_setRight wsX4_setRight) := goodIn_app (goodIn_of _ (by decide +kernel)) ggX6_takeBack_X4_setRight
set_option maxRecDepth 20000 in
theorem ggX6_takeBack_X6_recall : GoodIn wsX6_takeBack wsX6_recall := goodIn_r _ [51, 52, 53, 10, 11, 12, 13, 14, 15, 16, 17, 18, 19, 20, 21, 22, 23, 24, 25, 26, 27, 28, 29, 30, 31, 32, 54, 55, 56, 57, 58, 59, 60, 61, 62, 4, 63, 64, 65, 66, 67, 68, 69, 70, 41, 71, 72, 73, 74, 75, 76, 77, 78, 79, 80, 81, 82, 83, 84, 85, 86, 87, 88, 89, 90, 91, 92, 93, 94, 95, 104, 105, 106, 107, 108, 109, 96, 97, 98, 99, 100, 101, 102, 103, 110, 111] (by decide +kernel) (by decide +kernel)
set_option maxRecDepth 20000 in
theorem gX6_takeBack_X6_recall : GoodIn wsX6_takeBack (wsV RX6 74 RX6 yX6_recall wsX6_recall) := goodIn_app (goodIn_of _ (by decide +kernel)) ggX6_takeBack_X6_recall
theorem dX6_takeBack_0 : decode cX6_takeBack 0 = .ok (.aload_n 0, 1) := by decide +kernel
theorem dX6_takeBack_1 : decode cX6_takeBack 1 = .ok (.iload_n 1, 1) := by decide +kernel
theorem dX6_takeBack_2 : decode cX6_takeBack 2 = .ok (.invokevirtual 83, 3) := by decide +kernel
theorem dX6_takeBack_5 : decode cX6_takeBack 5 = .ok (.astore_n 3, 1) := by decide +kernel
theorem dX6_takeBack_6 : decode cX6_takeBack 6 = .ok (.aload_n 0, 1) := by decide +kernel
theorem dX6_takeBack_7 : decode cX6_takeBack 7 = .ok (.iload_n 2, 1) := by decide +kernel
theorem dX6_takeBack_8 : decode cX6_takeBack 8 = .ok (.invokevirtual 90, 3) := by decide +kernel
theorem dX6_takeBack_11 : decode cX6_takeBack 11 = .ok (.aload_n 3, 1) := by decide +kernel
theorem dX6_takeBack_12 : decode cX6_takeBack 12 = .ok (.iload_n 2, 1) := by decide +kernel
theorem dX6_takeBack_13 : decode cX6_takeBack 13 = .ok (.invokevirtual 101, 3) := by decide +kernel
theorem dX6_takeBack_16 : decode cX6_takeBack 16 = .ok (.ifnonnull 5, 3) := by decide +kernel
theorem dX6_takeBack_19 : decode cX6_takeBack 19 = .ok (.iconst 0, 1) := by decide +kernel
theorem dX6_takeBack_20 : decode cX6_takeBack 20 = .ok (.ireturn, 1) := by decide +kernel
theorem dX6_takeBack_21 : decode cX6_takeBack 21 = .ok (.aload_n 3, 1) := by decide +kernel
theorem dX6_takeBack_22 : decode cX6_takeBack 22 = .ok (.iload_n 2, 1) := by decide +kernel
theorem dX6_takeBack_23 : decode cX6_takeBack 23 = .ok (.aconst_null, 1) := by decide +kernel
theorem dX6_takeBack_24 : decode cX6_takeBack 24 = .ok (.invokevirtual 97, 3) := by decide +kernel
theorem dX6_takeBack_27 : decode cX6_takeBack 27 = .ok (.aload_n 0, 1) := by decide +kernel
theorem dX6_takeBack_28 : decode cX6_takeBack 28 = .ok (.aload_n 3, 1) := by decide +kernel
theorem dX6_takeBack_29 : decode cX6_takeBack 29 = .ok (.iload_n 2, 1) := by decide +kernel
theorem dX6_takeBack_30 : decode cX6_takeBack 30 = .ok (.invokevirtual 74, 3) := by decide +kernel
theorem dX6_takeBack_33 : decode cX6_takeBack 33 = .ok (.ireturn, 1) := by decide +kernel
set_option maxRecDepth 20000 in
theorem ggX6_seal_X6_fileAt : GoodIn wsX6_seal wsX6_fileAt := goodIn_ca (goodIn_r _ [5, 6, 7, 8, 9, 10, 4, 11, 12, 13, 14, 15, 16, 17, 18, 19, 20, 21, 22, 23, 24, 25, 26, 27, 28, 29, 30, 31, 32, 33, 34, 35, 36, 44, 45, 46, 47, 48, 49, 50, 51, 52] (by decide +kernel) (by decide +kernel)) (goodIn_sub (fun _ h => List.mem_cons_of_mem _ (List.mem_append_left _ (List.mem_append_right _ h))) (by decide +kernel))
set_option maxRecDepth 20000 in
theorem gX6_seal_X6_fileAt : GoodIn wsX6_seal (wsV RX6 60 RX6 yX6_fileAt wsX6_fileAt) := goodIn_app (goodIn_of _ (by decide +kernel)) ggX6_seal_X6_fileAt
set_option maxRecDepth 20000 in
theorem ggX6_seal_X6_requireRange : GoodIn wsX6_seal wsX6_requireRange := goodIn_ca (goodIn_r _ [39, 40, 41] (by decide +kernel) (by decide +kernel)) (goodIn_sub (fun _ h => List.mem_cons_of_mem _ (List.mem_append_right _ h)) (by decide +kernel))
set_option maxRecDepth 20000 in
theorem gX6_seal_X6_requireRange : GoodIn wsX6_seal (va_wsS RX6 36 yX6_requireRange wsX6_requireRange) := goodIn_app (goodIn_of _ (by decide +kernel)) ggX6_seal_X6_requireRange
theorem dX6_seal_0 : decode cX6_seal 0 = .ok (.aload_n 0, 1) := by decide +kernel
theorem dX6_seal_1 : decode cX6_seal 1 = .ok (.iload_n 1, 1) := by decide +kernel
theorem dX6_seal_2 : decode cX6_seal 2 = .ok (.invokevirtual 60, 3) := by decide +kernel
theorem dX6_seal_5 : decode cX6_seal 5 = .ok (.astore_n 3, 1) := by decide +kernel
theorem dX6_seal_6 : decode cX6_seal 6 = .ok (.iload_n 2, 1) := by decide +kernel
theorem dX6_seal_7 : decode cX6_seal 7 = .ok (.iconst 0, 1) := by decide +kernel
theorem dX6_seal_8 : decode cX6_seal 8 = .ok (.sipush 5000, 3) := by decide +kernel
theorem dX6_seal_11 : decode cX6_seal 11 = .ok (.invokestatic 36, 3) := by decide +kernel
theorem dX6_seal_14 : decode cX6_seal 14 = .ok (.aload_n 3, 1) := by decide +kernel
theorem dX6_seal_15 : decode cX6_seal 15 = .ok (.iload_n 2, 1) := by decide +kernel
theorem dX6_seal_16 : decode cX6_seal 16 = .ok (.putfield 105, 3) := by decide +kernel
theorem dX6_seal_19 : decode cX6_seal 19 = .ok (.return_, 1) := by decide +kernel
set_option maxRecDepth 20000 in
theorem ggX6_pass_X6_requireRange : GoodIn wsX6_pass wsX6_requireRange := goodIn_ca (goodIn_r _ [7, 8, 9] (by decide +kernel) (by decide +kernel)) (goodIn_sub (fun _ h => List.mem_cons_of_mem _ (List.mem_append_right _ h)) (by decide +kernel))
set_option maxRecDepth 20000 in
theorem gX6_pass_X6_requireRange : GoodIn wsX6_pass (va_wsS RX6 36 yX6_requireRange wsX6_requireRange) := goodIn_app (goodIn_of _ (by decide +kernel)) ggX6_pass_X6_requireRange
theorem dX6_pass_0 : decode cX6_pass 0 = .ok (.iload_n 1, 1) := by decide +kernel
theorem dX6_pass_1 : decode cX6_pass 1 = .ok (.iconst 1, 1) := by decide +kernel
theorem dX6_pass_2 : decode cX6_pass 2 = .ok (.sipush 500, 3) := by decide +kernel
theorem dX6_pass_5 : decode cX6_pass 5 = .ok (.invokestatic 36, 3) := by decide +kernel
theorem dX6_pass_8 : decode cX6_pass 8 = .ok (.aload_n 0, 1) := by decide +kernel
theorem dX6_pass_9 : decode cX6_pass 9 = .ok (.getfield 108, 3) := by decide +kernel
theorem dX6_pass_12 : decode cX6_pass 12 = .ok (.iload_n 1, 1) := by decide +kernel
theorem dX6_pass_13 : decode cX6_pass 13 = .ok (.iadd, 1) := by decide +kernel
theorem dX6_pass_14 : decode cX6_pass 14 = .ok (.sipush 5000, 3) := by decide +kernel
theorem dX6_pass_17 : decode cX6_pass 17 = .ok (.if_icmp .le 13, 3) := by decide +kernel
theorem dX6_pass_20 : decode cX6_pass 20 = .ok (.new 44, 3) := by decide +kernel
theorem dX6_pass_23 : decode cX6_pass 23 = .ok (.dup, 1) := by decide +kernel
theorem dX6_pass_24 : decode cX6_pass 24 = .ok (.ldc 111, 2) := by decide +kernel
theorem dX6_pass_26 : decode cX6_pass 26 = .ok (.invokespecial 48, 3) := by decide +kernel
theorem dX6_pass_29 : decode cX6_pass 29 = .ok (.athrow, 1) := by decide +kernel
theorem dX6_pass_30 : decode cX6_pass 30 = .ok (.aload_n 0, 1) := by decide +kernel
theorem dX6_pass_31 : decode cX6_pass 31 = .ok (.dup, 1) := by decide +kernel
theorem dX6_pass_32 : decode cX6_pass 32 = .ok (.getfield 108, 3) := by decide +kernel
theorem dX6_pass_35 : decode cX6_pass 35 = .ok (.iload_n 1, 1) := by decide +kernel
theorem dX6_pass_36 : decode cX6_pass 36 = .ok (.iadd, 1) := by decide +kernel
theorem dX6_pass_37 : decode cX6_pass 37 = .ok (.putfield 108, 3) := by decide +kernel
theorem dX6_pass_40 : decode cX6_pass 40 = .ok (.aload_n 0, 1) := by decide +kernel
theorem dX6_pass_41 : decode cX6_pass 41 = .ok (.getfield 108, 3) := by decide +kernel
theorem dX6_pass_44 : decode cX6_pass 44 = .ok (.ireturn, 1) := by decide +kernel
set_option maxRecDepth 20000 in
theorem ggX6_ask_X6_partyAt : GoodIn wsX6_ask wsX6_partyAt := goodIn_ca (goodIn_r _ [12, 13, 14, 15, 16, 17, 18, 19, 20, 21, 22, 23, 24, 25, 26, 27, 28, 29, 30, 31, 32, 33, 34, 35, 36, 37, 38, 39, 203, 204, 205, 206, 207, 208, 220, 221, 222] (by decide +kernel) (by decide +kernel)) (goodIn_sub (fun _ h => List.mem_cons_of_mem _ (List.mem_append_left _ (List.mem_append_right _ h))) (by decide +kernel))
set_option maxRecDepth 20000 in
theorem gX6_ask_X6_partyAt : GoodIn wsX6_ask (wsV RX6 83 RX6 yX6_partyAt wsX6_partyAt) := goodIn_app (goodIn_of _ (by decide +kernel)) ggX6_ask_X6_partyAt
set_option maxRecDepth 20000 in
theorem ggX6_ask_X6_requireQuestion : GoodIn wsX6_ask wsX6_requireQuestion := goodIn_ca (goodIn_r _ [43, 44, 17, 18, 19, 20, 21, 22, 45, 46, 11, 47, 48, 49, 203, 204, 205, 206, 207, 208, 220, 221, 222] (by decide +kernel) (by decide +kernel)) (goodIn_sub (fun _ h => List.mem_cons_of_mem _ (List.mem_append_right _ h)) (by decide +kernel))
set_option maxRecDepth 20000 in
theorem gX6_ask_X6_requireQuestion : GoodIn wsX6_ask (wsV RX6 113 RX6 yX6_requireQuestion wsX6_requireQuestion) := goodIn_app (goodIn_of _ (by decide +kernel)) ggX6_ask_X6_requireQuestion
set_option maxRecDepth 20000 in
theorem ggX6_ask_Jx4a65c_size_8abf5 : GoodIn wsX6_ask wsJx4a65c_size_8abf5 := goodIn_r _ [21, 22, 220, 221, 222] (by decide +kernel) (by decide +kernel)
set_option maxRecDepth 20000 in
theorem gX6_ask_Jx4a65c_size_8abf5 : GoodIn wsX6_ask (wsV RX6 40 RJx4a65c yJx4a65c_size_8abf5 wsJx4a65c_size_8abf5) := goodIn_app (goodIn_of _ (by decide +kernel)) ggX6_ask_Jx4a65c_size_8abf5
set_option maxRecDepth 20000 in
theorem ggX6_ask_X6_refusalOf : GoodIn wsX6_ask wsX6_refusalOf := goodIn_r _ [53, 7, 54, 55, 56, 11, 57, 44, 17, 18, 19, 20, 21, 22, 58, 59, 60, 61, 62, 63, 64, 65, 66, 67, 68, 69, 70, 71, 72, 73, 74, 75, 76, 77, 78, 79, 80, 81, 82, 83, 23, 24, 25, 26, 27, 28, 29, 30, 31, 32, 33, 34, 35, 36, 37, 38, 39, 84, 85, 86, 87, 88, 89, 90, 91, 92, 93, 94, 95, 96, 97, 98, 99, 100, 101, 102, 103, 104, 105, 106, 107, 108, 109, 110, 111, 112, 113, 114, 115, 116, 117, 118, 119, 120, 203, 204, 205, 206, 207, 208, 215, 216, 217, 218, 219, 220, 221, 222, 223, 224, 225, 226, 227, 228, 229] (by decide +kernel) (by decide +kernel)
set_option maxRecDepth 20000 in
theorem gX6_ask_X6_refusalOf : GoodIn wsX6_ask (wsV RX6 118 RX6 yX6_refusalOf wsX6_refusalOf) := goodIn_app (goodIn_of _ (by decide +kernel)) ggX6_ask_X6_refusalOf
set_option maxRecDepth 20000 in
theorem ggX6_ask_X4_countQuestion : GoodIn wsX6_ask wsX4_countQuestion := goodIn_r _ [124, 125, 215, 216, 217, 218, 219] (by decide +kernel) (by decide +kernel)
set_option maxRecDepth 20000 in
theorem gX6_ask_X4_countQuestion : GoodIn wsX6_ask (wsV RX6 122 RX4 yX4_countQuestion wsX4_countQuestion) := goodIn_app (goodIn_of _ (by decide +kernel)) ggX6_ask_X4_countQuestion
set_option maxRecDepth 20000 in
theorem ggX6_ask_X6_sumOf : GoodIn wsX6_ask wsX6_sumOf := goodIn_r _ [129, 44, 83, 17, 18, 19, 20, 21, 22, 58, 59, 11, 60, 23, 24, 25, 26, 27, 28, 29, 30, 31, 32, 33, 34, 35, 36, 37, 38, 39, 203, 204, 205, 206, 207, 208, 226, 227, 220, 221, 222] (by decide +kernel) (by decide +kernel)
set_option maxRecDepth 20000 in
theorem gX6_ask_X6_sumOf : GoodIn wsX6_ask (wsV RX6 125 RX6 yX6_sumOf wsX6_sumOf) := goodIn_app (goodIn_of _ (by decide +kernel)) ggX6_ask_X6_sumOf
set_option maxRecDepth 20000 in
theorem ggX6_ask_X0_init : GoodIn wsX6_ask wsX0_init := goodIn_r _ [132, 133, 134, 135, 136, 137, 138, 139, 140, 209, 210, 211, 212, 213, 214] (by decide +kernel) (by decide +kernel)
set_option maxRecDepth 20000 in
theorem gX6_ask_X0_init : GoodIn wsX6_ask (wsX0_init) := ggX6_ask_X0_init
set_option maxRecDepth 20000 in
theorem ggX6_ask_Jx4a65c_add_9ea2d : GoodIn wsX6_ask wsJx4a65c_add_9ea2d := goodIn_r _ [144, 145, 146, 39, 22, 147, 148, 149, 20, 150, 151, 152, 153, 154, 155, 156, 157, 158, 159, 160, 161, 162, 163, 164, 165, 166, 167, 168, 169, 170, 171, 172, 173, 174, 175, 176, 177, 178, 179, 180, 181, 182, 183, 184, 185, 186, 187, 188, 189, 190, 191, 192, 193, 220, 221, 222] (by decide +kernel) (by decide +kernel)
set_option maxRecDepth 20000 in
theorem gX6_ask_Jx4a65c_add_9ea2d : GoodIn wsX6_ask (wsV RX6 56 RJx4a65c yJx4a65c_add_9ea2d wsJx4a65c_add_9ea2d) := goodIn_app (goodIn_of _ (by decide +kernel)) ggX6_ask_Jx4a65c_add_9ea2d
set_option maxRecDepth 20000 in
theorem ggX6_ask_X4_learn : GoodIn wsX6_ask wsX4_learn := goodIn_r _ [197, 99, 100, 11, 101, 198, 199, 200, 105, 201, 111, 202, 59, 60, 215, 216, 217, 218, 219, 228, 229] (by decide +kernel) (by decide +kernel)
set_option maxRecDepth 20000 in
theorem gX6_ask_X4_learn : GoodIn wsX6_ask (wsV RX6 137 RX4 yX4_learn wsX4_learn) := goodIn_app (goodIn_of _ (by decide +kernel)) ggX6_ask_X4_learn
theorem dX6_ask_0 : decode cX6_ask 0 = .ok (.aload_n 0, 1) := by decide +kernel
theorem dX6_ask_1 : decode cX6_ask 1 = .ok (.iload_n 1, 1) := by decide +kernel
theorem dX6_ask_2 : decode cX6_ask 2 = .ok (.invokevirtual 83, 3) := by decide +kernel
theorem dX6_ask_5 : decode cX6_ask 5 = .ok (.astore 4, 2) := by decide +kernel
theorem dX6_ask_7 : decode cX6_ask 7 = .ok (.aload_n 0, 1) := by decide +kernel
theorem dX6_ask_8 : decode cX6_ask 8 = .ok (.iload_n 2, 1) := by decide +kernel
theorem dX6_ask_9 : decode cX6_ask 9 = .ok (.iload_n 3, 1) := by decide +kernel
theorem dX6_ask_10 : decode cX6_ask 10 = .ok (.invokevirtual 113, 3) := by decide +kernel
theorem dX6_ask_13 : decode cX6_ask 13 = .ok (.aload_n 0, 1) := by decide +kernel
theorem dX6_ask_14 : decode cX6_ask 14 = .ok (.getfield 19, 3) := by decide +kernel
theorem dX6_ask_17 : decode cX6_ask 17 = .ok (.invokevirtual 40, 3) := by decide +kernel
theorem dX6_ask_20 : decode cX6_ask 20 = .ok (.sipush 150, 3) := by decide +kernel
theorem dX6_ask_23 : decode cX6_ask 23 = .ok (.if_icmp .lt 13, 3) := by decide +kernel
theorem dX6_ask_26 : decode cX6_ask 26 = .ok (.new 44, 3) := by decide +kernel
theorem dX6_ask_29 : decode cX6_ask 29 = .ok (.dup, 1) := by decide +kernel
theorem dX6_ask_30 : decode cX6_ask 30 = .ok (.ldc 116, 2) := by decide +kernel
theorem dX6_ask_32 : decode cX6_ask 32 = .ok (.invokespecial 48, 3) := by decide +kernel
theorem dX6_ask_35 : decode cX6_ask 35 = .ok (.athrow, 1) := by decide +kernel
theorem dX6_ask_36 : decode cX6_ask 36 = .ok (.aload_n 0, 1) := by decide +kernel
theorem dX6_ask_37 : decode cX6_ask 37 = .ok (.aload 4, 2) := by decide +kernel
theorem dX6_ask_39 : decode cX6_ask 39 = .ok (.iload_n 2, 1) := by decide +kernel
theorem dX6_ask_40 : decode cX6_ask 40 = .ok (.iload_n 3, 1) := by decide +kernel
theorem dX6_ask_41 : decode cX6_ask 41 = .ok (.invokevirtual 118, 3) := by decide +kernel
theorem dX6_ask_44 : decode cX6_ask 44 = .ok (.istore 5, 2) := by decide +kernel
theorem dX6_ask_46 : decode cX6_ask 46 = .ok (.aload 4, 2) := by decide +kernel
theorem dX6_ask_48 : decode cX6_ask 48 = .ok (.iload 5, 2) := by decide +kernel
theorem dX6_ask_50 : decode cX6_ask 50 = .ok (.invokevirtual 122, 3) := by decide +kernel
theorem dX6_ask_53 : decode cX6_ask 53 = .ok (.iload 5, 2) := by decide +kernel
theorem dX6_ask_55 : decode cX6_ask 55 = .ok (.ifCond .eq 6, 3) := by decide +kernel
theorem dX6_ask_58 : decode cX6_ask 58 = .ok (.iload 5, 2) := by decide +kernel
theorem dX6_ask_60 : decode cX6_ask 60 = .ok (.ireturn, 1) := by decide +kernel
theorem dX6_ask_61 : decode cX6_ask 61 = .ok (.aload_n 0, 1) := by decide +kernel
theorem dX6_ask_62 : decode cX6_ask 62 = .ok (.iload_n 2, 1) := by decide +kernel
theorem dX6_ask_63 : decode cX6_ask 63 = .ok (.iload_n 3, 1) := by decide +kernel
theorem dX6_ask_64 : decode cX6_ask 64 = .ok (.invokevirtual 125, 3) := by decide +kernel
theorem dX6_ask_67 : decode cX6_ask 67 = .ok (.istore 6, 2) := by decide +kernel
theorem dX6_ask_69 : decode cX6_ask 69 = .ok (.aload_n 0, 1) := by decide +kernel
theorem dX6_ask_70 : decode cX6_ask 70 = .ok (.getfield 19, 3) := by decide +kernel
theorem dX6_ask_73 : decode cX6_ask 73 = .ok (.new 129, 3) := by decide +kernel
theorem dX6_ask_76 : decode cX6_ask 76 = .ok (.dup, 1) := by decide +kernel
theorem dX6_ask_77 : decode cX6_ask 77 = .ok (.aload 4, 2) := by decide +kernel
theorem dX6_ask_79 : decode cX6_ask 79 = .ok (.getfield 131, 3) := by decide +kernel
theorem dX6_ask_82 : decode cX6_ask 82 = .ok (.iload_n 2, 1) := by decide +kernel
theorem dX6_ask_83 : decode cX6_ask 83 = .ok (.iload_n 3, 1) := by decide +kernel
theorem dX6_ask_84 : decode cX6_ask 84 = .ok (.iload 6, 2) := by decide +kernel
theorem dX6_ask_86 : decode cX6_ask 86 = .ok (.aload_n 0, 1) := by decide +kernel
theorem dX6_ask_87 : decode cX6_ask 87 = .ok (.getfield 108, 3) := by decide +kernel
theorem dX6_ask_90 : decode cX6_ask 90 = .ok (.invokespecial 134, 3) := by decide +kernel
theorem dX6_ask_93 : decode cX6_ask 93 = .ok (.invokevirtual 56, 3) := by decide +kernel
theorem dX6_ask_96 : decode cX6_ask 96 = .ok (.pop, 1) := by decide +kernel
theorem dX6_ask_97 : decode cX6_ask 97 = .ok (.aload 4, 2) := by decide +kernel
theorem dX6_ask_99 : decode cX6_ask 99 = .ok (.iload_n 2, 1) := by decide +kernel
theorem dX6_ask_100 : decode cX6_ask 100 = .ok (.iload_n 3, 1) := by decide +kernel
theorem dX6_ask_101 : decode cX6_ask 101 = .ok (.invokevirtual 137, 3) := by decide +kernel
theorem dX6_ask_104 : decode cX6_ask 104 = .ok (.iload 6, 2) := by decide +kernel
theorem dX6_ask_106 : decode cX6_ask 106 = .ok (.ireturn, 1) := by decide +kernel
set_option maxRecDepth 20000 in
theorem ggX6_cost_X6_partyAt : GoodIn wsX6_cost wsX6_partyAt := goodIn_ca (goodIn_r _ [5, 6, 7, 8, 9, 10, 11, 12, 13, 14, 15, 16, 17, 18, 19, 20, 21, 22, 23, 24, 25, 26, 27, 28, 29, 30, 31, 32, 59, 60, 61, 62, 63, 64, 65, 66, 67] (by decide +kernel) (by decide +kernel)) (goodIn_sub (fun _ h => List.mem_cons_of_mem _ (List.mem_append_left _ (List.mem_append_right _ h))) (by decide +kernel))
set_option maxRecDepth 20000 in
theorem gX6_cost_X6_partyAt : GoodIn wsX6_cost (wsV RX6 83 RX6 yX6_partyAt wsX6_partyAt) := goodIn_app (goodIn_of _ (by decide +kernel)) ggX6_cost_X6_partyAt
set_option maxRecDepth 20000 in
theorem ggX6_cost_X6_requireQuestion : GoodIn wsX6_cost wsX6_requireQuestion := goodIn_ca (goodIn_r _ [36, 37, 10, 11, 12, 13, 14, 15, 38, 39, 4, 40, 41, 42, 59, 60, 61, 62, 63, 64, 65, 66, 67] (by decide +kernel) (by decide +kernel)) (goodIn_sub (fun _ h => List.mem_cons_of_mem _ (List.mem_append_right _ h)) (by decide +kernel))
set_option maxRecDepth 20000 in
theorem gX6_cost_X6_requireQuestion : GoodIn wsX6_cost (wsV RX6 113 RX6 yX6_requireQuestion wsX6_requireQuestion) := goodIn_app (goodIn_of _ (by decide +kernel)) ggX6_cost_X6_requireQuestion
set_option maxRecDepth 20000 in
theorem ggX6_cost_X4_costOf : GoodIn wsX6_cost wsX4_costOf := goodIn_r _ [47, 48, 49, 4, 50, 51, 52, 53, 54, 55, 56, 57, 58, 68, 69, 70, 71, 72, 73, 74] (by decide +kernel) (by decide +kernel)
set_option maxRecDepth 20000 in
theorem gX6_cost_X4_costOf : GoodIn wsX6_cost (wsV RX6 140 RX4 yX4_costOf wsX4_costOf) := goodIn_app (goodIn_of _ (by decide +kernel)) ggX6_cost_X4_costOf
theorem dX6_cost_0 : decode cX6_cost 0 = .ok (.aload_n 0, 1) := by decide +kernel
theorem dX6_cost_1 : decode cX6_cost 1 = .ok (.iload_n 1, 1) := by decide +kernel
theorem dX6_cost_2 : decode cX6_cost 2 = .ok (.invokevirtual 83, 3) := by decide +kernel
theorem dX6_cost_5 : decode cX6_cost 5 = .ok (.astore 4, 2) := by decide +kernel
theorem dX6_cost_7 : decode cX6_cost 7 = .ok (.aload_n 0, 1) := by decide +kernel
theorem dX6_cost_8 : decode cX6_cost 8 = .ok (.iload_n 2, 1) := by decide +kernel
theorem dX6_cost_9 : decode cX6_cost 9 = .ok (.iload_n 3, 1) := by decide +kernel
theorem dX6_cost_10 : decode cX6_cost 10 = .ok (.invokevirtual 113, 3) := by decide +kernel
theorem dX6_cost_13 : decode cX6_cost 13 = .ok (.aload 4, 2) := by decide +kernel
theorem dX6_cost_15 : decode cX6_cost 15 = .ok (.iload_n 2, 1) := by decide +kernel
theorem dX6_cost_16 : decode cX6_cost 16 = .ok (.iload_n 3, 1) := by decide +kernel
theorem dX6_cost_17 : decode cX6_cost 17 = .ok (.invokevirtual 140, 3) := by decide +kernel
theorem dX6_cost_20 : decode cX6_cost 20 = .ok (.ireturn, 1) := by decide +kernel
set_option maxRecDepth 20000 in
theorem ggX6_answer_Jx4a65c_size_8abf5 : GoodIn wsX6_answer wsJx4a65c_size_8abf5 := goodIn_r _ [9, 10, 51, 52, 53] (by decide +kernel) (by decide +kernel)
set_option maxRecDepth 20000 in
theorem gX6_answer_Jx4a65c_size_8abf5 : GoodIn wsX6_answer (wsV RX6 40 RJx4a65c yJx4a65c_size_8abf5 wsJx4a65c_size_8abf5) := goodIn_app (goodIn_of _ (by decide +kernel)) ggX6_answer_Jx4a65c_size_8abf5
set_option maxRecDepth 20000 in
theorem ggX6_answer_X6_requireRange : GoodIn wsX6_answer wsX6_requireRange := goodIn_ca (goodIn_r _ [14, 15, 16] (by decide +kernel) (by decide +kernel)) (goodIn_sub (fun _ h => List.mem_cons_of_mem _ (List.mem_append_right _ h)) (by decide +kernel))
set_option maxRecDepth 20000 in
theorem gX6_answer_X6_requireRange : GoodIn wsX6_answer (va_wsS RX6 36 yX6_requireRange wsX6_requireRange) := goodIn_app (goodIn_of _ (by decide +kernel)) ggX6_answer_X6_requireRange
set_option maxRecDepth 20000 in
theorem ggX6_answer_Jx4a65c_get_915e3 : GoodIn wsX6_answer wsJx4a65c_get_915e3 := goodIn_r _ [20, 10, 21, 22, 23, 24, 25, 26, 27, 28, 29, 30, 31, 8, 32, 33, 51, 52, 53] (by decide +kernel) (by decide +kernel)
set_option maxRecDepth 20000 in
theorem gX6_answer_Jx4a65c_get_915e3 : GoodIn wsX6_answer (wsV RX6 68 RJx4a65c yJx4a65c_get_915e3 wsJx4a65c_get_915e3) := goodIn_app (goodIn_of _ (by decide +kernel)) ggX6_answer_Jx4a65c_get_915e3
set_option maxRecDepth 20000 in
theorem ggX6_answer_X0_tell : GoodIn wsX6_answer wsX0_tell := goodIn_r _ [38, 39, 40, 41, 42, 43, 44, 54, 55, 56, 57, 58, 59] (by decide +kernel) (by decide +kernel)
set_option maxRecDepth 20000 in
theorem gX6_answer_X0_tell : GoodIn wsX6_answer (wsV RX6 148 RX0 yX0_tell wsX0_tell) := goodIn_app (goodIn_of _ (by decide +kernel)) ggX6_answer_X0_tell
theorem dX6_answer_0 : decode cX6_answer 0 = .ok (.iload_n 1, 1) := by decide +kernel
theorem dX6_answer_1 : decode cX6_answer 1 = .ok (.ifCond .lt 14, 3) := by decide +kernel
theorem dX6_answer_4 : decode cX6_answer 4 = .ok (.iload_n 1, 1) := by decide +kernel
theorem dX6_answer_5 : decode cX6_answer 5 = .ok (.aload_n 0, 1) := by decide +kernel
theorem dX6_answer_6 : decode cX6_answer 6 = .ok (.getfield 19, 3) := by decide +kernel
theorem dX6_answer_9 : decode cX6_answer 9 = .ok (.invokevirtual 40, 3) := by decide +kernel
theorem dX6_answer_12 : decode cX6_answer 12 = .ok (.if_icmp .lt 13, 3) := by decide +kernel
theorem dX6_answer_15 : decode cX6_answer 15 = .ok (.new 143, 3) := by decide +kernel
theorem dX6_answer_18 : decode cX6_answer 18 = .ok (.dup, 1) := by decide +kernel
theorem dX6_answer_19 : decode cX6_answer 19 = .ok (.ldc 145, 2) := by decide +kernel
theorem dX6_answer_21 : decode cX6_answer 21 = .ok (.invokespecial 147, 3) := by decide +kernel
theorem dX6_answer_24 : decode cX6_answer 24 = .ok (.athrow, 1) := by decide +kernel
theorem dX6_answer_25 : decode cX6_answer 25 = .ok (.iload_n 2, 1) := by decide +kernel
theorem dX6_answer_26 : decode cX6_answer 26 = .ok (.iconst 0, 1) := by decide +kernel
theorem dX6_answer_27 : decode cX6_answer 27 = .ok (.iconst 5, 1) := by decide +kernel
theorem dX6_answer_28 : decode cX6_answer 28 = .ok (.invokestatic 36, 3) := by decide +kernel
theorem dX6_answer_31 : decode cX6_answer 31 = .ok (.aload_n 0, 1) := by decide +kernel
theorem dX6_answer_32 : decode cX6_answer 32 = .ok (.getfield 19, 3) := by decide +kernel
theorem dX6_answer_35 : decode cX6_answer 35 = .ok (.iload_n 1, 1) := by decide +kernel
theorem dX6_answer_36 : decode cX6_answer 36 = .ok (.invokevirtual 68, 3) := by decide +kernel
theorem dX6_answer_39 : decode cX6_answer 39 = .ok (.checkcast 129, 3) := by decide +kernel
theorem dX6_answer_42 : decode cX6_answer 42 = .ok (.iload_n 2, 1) := by decide +kernel
theorem dX6_answer_43 : decode cX6_answer 43 = .ok (.invokevirtual 148, 3) := by decide +kernel
theorem dX6_answer_46 : decode cX6_answer 46 = .ok (.ireturn, 1) := by decide +kernel
set_option maxRecDepth 20000 in
theorem ggX6_spent_X6_partyAt : GoodIn wsX6_spent wsX6_partyAt := goodIn_ca (goodIn_r _ [5, 6, 7, 8, 9, 10, 11, 12, 13, 14, 15, 16, 17, 18, 19, 20, 21, 22, 23, 24, 25, 26, 27, 28, 29, 30, 31, 32, 39, 40, 41, 42, 43, 44, 45, 46, 47] (by decide +kernel) (by decide +kernel)) (goodIn_sub (fun _ h => List.mem_cons_of_mem _ (List.mem_append_right _ h)) (by decide +kernel))
set_option maxRecDepth 20000 in
theorem gX6_spent_X6_partyAt : GoodIn wsX6_spent (wsV RX6 83 RX6 yX6_partyAt wsX6_partyAt) := goodIn_app (goodIn_of _ (by decide +kernel)) ggX6_spent_X6_partyAt
set_option maxRecDepth 20000 in
theorem ggX6_spent_X4_learnedInAll : GoodIn wsX6_spent wsX4_learnedInAll := goodIn_r _ [37, 38, 48, 49, 50, 51, 52, 53, 54] (by decide +kernel) (by decide +kernel)
set_option maxRecDepth 20000 in
theorem gX6_spent_X4_learnedInAll : GoodIn wsX6_spent (wsV RX6 152 RX4 yX4_learnedInAll wsX4_learnedInAll) := goodIn_app (goodIn_of _ (by decide +kernel)) ggX6_spent_X4_learnedInAll
theorem dX6_spent_0 : decode cX6_spent 0 = .ok (.aload_n 0, 1) := by decide +kernel
theorem dX6_spent_1 : decode cX6_spent 1 = .ok (.iload_n 1, 1) := by decide +kernel
theorem dX6_spent_2 : decode cX6_spent 2 = .ok (.invokevirtual 83, 3) := by decide +kernel
theorem dX6_spent_5 : decode cX6_spent 5 = .ok (.invokevirtual 152, 3) := by decide +kernel
theorem dX6_spent_8 : decode cX6_spent 8 = .ok (.ireturn, 1) := by decide +kernel
set_option maxRecDepth 20000 in
theorem ggX6_spentAnew_X6_partyAt : GoodIn wsX6_spentAnew wsX6_partyAt := goodIn_ca (goodIn_r _ [5, 6, 7, 8, 9, 10, 11, 12, 13, 14, 15, 16, 17, 18, 19, 20, 21, 22, 23, 24, 25, 26, 27, 28, 29, 30, 31, 32, 93, 94, 95, 96, 97, 98, 99, 100, 101] (by decide +kernel) (by decide +kernel)) (goodIn_sub (fun _ h => List.mem_cons_of_mem _ (List.mem_append_right _ h)) (by decide +kernel))
set_option maxRecDepth 20000 in
theorem gX6_spentAnew_X6_partyAt : GoodIn wsX6_spentAnew (wsV RX6 83 RX6 yX6_partyAt wsX6_partyAt) := goodIn_app (goodIn_of _ (by decide +kernel)) ggX6_spentAnew_X6_partyAt
set_option maxRecDepth 20000 in
theorem ggX6_spentAnew_X6_countKnownSets : GoodIn wsX6_spentAnew wsX6_countKnownSets := goodIn_r _ [36, 37, 38, 39, 40, 10, 11, 12, 13, 14, 15, 41, 42, 43, 44, 45, 46, 47, 48, 49, 50, 51, 52, 53, 54, 16, 17, 18, 19, 20, 21, 22, 23, 24, 25, 26, 27, 28, 29, 30, 31, 32, 55, 56, 57, 58, 59, 60, 61, 62, 63, 4, 64, 65, 66, 67, 68, 69, 70, 71, 72, 73, 74, 75, 76, 77, 78, 79, 80, 81, 82, 83, 84, 85, 86, 87, 88, 89, 93, 94, 95, 96, 97, 98, 102, 103, 104, 105, 106, 107, 99, 100, 101, 108, 109, 110, 111, 112, 113, 114] (by decide +kernel) (by decide +kernel)
set_option maxRecDepth 20000 in
theorem gX6_spentAnew_X6_countKnownSets : GoodIn wsX6_spentAnew (wsV RX6 155 RX6 yX6_countKnownSets wsX6_countKnownSets) := goodIn_app (goodIn_of _ (by decide +kernel)) ggX6_spentAnew_X6_countKnownSets
set_option maxRecDepth 20000 in
theorem ggX6_spentAnew_X6_generatorsOf : GoodIn wsX6_spentAnew wsX6_generatorsOf := goodIn_r _ [92] (by decide +kernel) (by decide +kernel)
set_option maxRecDepth 20000 in
theorem gX6_spentAnew_X6_generatorsOf : GoodIn wsX6_spentAnew (va_wsS RX6 158 yX6_generatorsOf wsX6_generatorsOf) := goodIn_app (goodIn_of _ (by decide +kernel)) ggX6_spentAnew_X6_generatorsOf
theorem dX6_spentAnew_0 : decode cX6_spentAnew 0 = .ok (.aload_n 0, 1) := by decide +kernel
theorem dX6_spentAnew_1 : decode cX6_spentAnew 1 = .ok (.iload_n 1, 1) := by decide +kernel
theorem dX6_spentAnew_2 : decode cX6_spentAnew 2 = .ok (.invokevirtual 83, 3) := by decide +kernel
theorem dX6_spentAnew_5 : decode cX6_spentAnew 5 = .ok (.astore_n 2, 1) := by decide +kernel
theorem dX6_spentAnew_6 : decode cX6_spentAnew 6 = .ok (.iconst 0, 1) := by decide +kernel
theorem dX6_spentAnew_7 : decode cX6_spentAnew 7 = .ok (.istore_n 3, 1) := by decide +kernel
theorem dX6_spentAnew_8 : decode cX6_spentAnew 8 = .ok (.iconst 0, 1) := by decide +kernel
theorem dX6_spentAnew_9 : decode cX6_spentAnew 9 = .ok (.istore 4, 2) := by decide +kernel
theorem dX6_spentAnew_11 : decode cX6_spentAnew 11 = .ok (.iload 4, 2) := by decide +kernel
theorem dX6_spentAnew_13 : decode cX6_spentAnew 13 = .ok (.bipush 8, 2) := by decide +kernel
theorem dX6_spentAnew_15 : decode cX6_spentAnew 15 = .ok (.if_icmp .ge 22, 3) := by decide +kernel
theorem dX6_spentAnew_18 : decode cX6_spentAnew 18 = .ok (.iload_n 3, 1) := by decide +kernel
theorem dX6_spentAnew_19 : decode cX6_spentAnew 19 = .ok (.aload_n 0, 1) := by decide +kernel
theorem dX6_spentAnew_20 : decode cX6_spentAnew 20 = .ok (.aload_n 2, 1) := by decide +kernel
theorem dX6_spentAnew_21 : decode cX6_spentAnew 21 = .ok (.iload 4, 2) := by decide +kernel
theorem dX6_spentAnew_23 : decode cX6_spentAnew 23 = .ok (.invokevirtual 155, 3) := by decide +kernel
theorem dX6_spentAnew_26 : decode cX6_spentAnew 26 = .ok (.invokestatic 158, 3) := by decide +kernel
theorem dX6_spentAnew_29 : decode cX6_spentAnew 29 = .ok (.iadd, 1) := by decide +kernel
theorem dX6_spentAnew_30 : decode cX6_spentAnew 30 = .ok (.istore_n 3, 1) := by decide +kernel
theorem dX6_spentAnew_31 : decode cX6_spentAnew 31 = .ok (.iinc 4 1, 3) := by decide +kernel
theorem dX6_spentAnew_34 : decode cX6_spentAnew 34 = .ok (.goto (-23), 3) := by decide +kernel
theorem dX6_spentAnew_37 : decode cX6_spentAnew 37 = .ok (.iload_n 3, 1) := by decide +kernel
theorem dX6_spentAnew_38 : decode cX6_spentAnew 38 = .ok (.ireturn, 1) := by decide +kernel
set_option maxRecDepth 20000 in
theorem ggX6_finds_X6_partyAt : GoodIn wsX6_finds wsX6_partyAt := goodIn_ca (goodIn_r _ [5, 6, 7, 8, 9, 10, 11, 12, 13, 14, 15, 16, 17, 18, 19, 20, 21, 22, 23, 24, 25, 26, 27, 28, 29, 30, 31, 32, 51, 52, 53, 54, 55, 56, 57, 58, 59] (by decide +kernel) (by decide +kernel)) (goodIn_sub (fun _ h => List.mem_cons_of_mem _ (List.mem_append_right _ h)) (by decide +kernel))
set_option maxRecDepth 20000 in
theorem gX6_finds_X6_partyAt : GoodIn wsX6_finds (wsV RX6 83 RX6 yX6_partyAt wsX6_partyAt) := goodIn_app (goodIn_of _ (by decide +kernel)) ggX6_finds_X6_partyAt
set_option maxRecDepth 20000 in
theorem ggX6_finds_X6_requireFile : GoodIn wsX6_finds wsX6_requireFile := goodIn_ca (goodIn_r _ [36, 6, 7, 37, 10, 11, 12, 13, 14, 15, 51, 52, 53, 54, 55, 56, 57, 58, 59] (by decide +kernel) (by decide +kernel)) (goodIn_sub (fun _ h => List.mem_cons_of_mem _ (List.mem_append_right _ h)) (by decide +kernel))
set_option maxRecDepth 20000 in
theorem gX6_finds_X6_requireFile : GoodIn wsX6_finds (wsV RX6 90 RX6 yX6_requireFile wsX6_requireFile) := goodIn_app (goodIn_of _ (by decide +kernel)) ggX6_finds_X6_requireFile
set_option maxRecDepth 20000 in
theorem ggX6_finds_X2_knows : GoodIn wsX6_finds wsX2_knows := goodIn_r _ [42, 43, 44, 4, 45, 60, 61] (by decide +kernel) (by decide +kernel)
set_option maxRecDepth 20000 in
theorem gX6_finds_X2_knows : GoodIn wsX6_finds (wsV RX6 165 RX2 yX2_knows wsX2_knows) := goodIn_app (goodIn_of _ (by decide +kernel)) ggX6_finds_X2_knows
theorem dX6_finds_0 : decode cX6_finds 0 = .ok (.aload_n 0, 1) := by decide +kernel
theorem dX6_finds_1 : decode cX6_finds 1 = .ok (.iload_n 1, 1) := by decide +kernel
theorem dX6_finds_2 : decode cX6_finds 2 = .ok (.invokevirtual 83, 3) := by decide +kernel
theorem dX6_finds_5 : decode cX6_finds 5 = .ok (.astore_n 3, 1) := by decide +kernel
theorem dX6_finds_6 : decode cX6_finds 6 = .ok (.aload_n 0, 1) := by decide +kernel
theorem dX6_finds_7 : decode cX6_finds 7 = .ok (.iload_n 2, 1) := by decide +kernel
theorem dX6_finds_8 : decode cX6_finds 8 = .ok (.invokevirtual 90, 3) := by decide +kernel
theorem dX6_finds_11 : decode cX6_finds 11 = .ok (.iconst 0, 1) := by decide +kernel
theorem dX6_finds_12 : decode cX6_finds 12 = .ok (.istore 4, 2) := by decide +kernel
theorem dX6_finds_14 : decode cX6_finds 14 = .ok (.iconst 0, 1) := by decide +kernel
theorem dX6_finds_15 : decode cX6_finds 15 = .ok (.istore 5, 2) := by decide +kernel
theorem dX6_finds_17 : decode cX6_finds 17 = .ok (.iload 5, 2) := by decide +kernel
theorem dX6_finds_19 : decode cX6_finds 19 = .ok (.aload_n 3, 1) := by decide +kernel
theorem dX6_finds_20 : decode cX6_finds 20 = .ok (.getfield 161, 3) := by decide +kernel
theorem dX6_finds_23 : decode cX6_finds 23 = .ok (.arraylength, 1) := by decide +kernel
theorem dX6_finds_24 : decode cX6_finds 24 = .ok (.if_icmp .ge 34, 3) := by decide +kernel
theorem dX6_finds_27 : decode cX6_finds 27 = .ok (.aload_n 3, 1) := by decide +kernel
theorem dX6_finds_28 : decode cX6_finds 28 = .ok (.getfield 161, 3) := by decide +kernel
theorem dX6_finds_31 : decode cX6_finds 31 = .ok (.iload 5, 2) := by decide +kernel
theorem dX6_finds_33 : decode cX6_finds 33 = .ok (.aaload, 1) := by decide +kernel
theorem dX6_finds_34 : decode cX6_finds 34 = .ok (.iconst 1, 1) := by decide +kernel
theorem dX6_finds_35 : decode cX6_finds 35 = .ok (.iload_n 2, 1) := by decide +kernel
theorem dX6_finds_36 : decode cX6_finds 36 = .ok (.ishl, 1) := by decide +kernel
theorem dX6_finds_37 : decode cX6_finds 37 = .ok (.invokevirtual 165, 3) := by decide +kernel
theorem dX6_finds_40 : decode cX6_finds 40 = .ok (.ifCond .eq 12, 3) := by decide +kernel
theorem dX6_finds_43 : decode cX6_finds 43 = .ok (.iload 4, 2) := by decide +kernel
theorem dX6_finds_45 : decode cX6_finds 45 = .ok (.iconst 1, 1) := by decide +kernel
theorem dX6_finds_46 : decode cX6_finds 46 = .ok (.iload 5, 2) := by decide +kernel
theorem dX6_finds_48 : decode cX6_finds 48 = .ok (.ishl, 1) := by decide +kernel
theorem dX6_finds_49 : decode cX6_finds 49 = .ok (.ior, 1) := by decide +kernel
theorem dX6_finds_50 : decode cX6_finds 50 = .ok (.istore 4, 2) := by decide +kernel
theorem dX6_finds_52 : decode cX6_finds 52 = .ok (.iinc 5 1, 3) := by decide +kernel
theorem dX6_finds_55 : decode cX6_finds 55 = .ok (.goto (-38), 3) := by decide +kernel
theorem dX6_finds_58 : decode cX6_finds 58 = .ok (.iload 4, 2) := by decide +kernel
theorem dX6_finds_60 : decode cX6_finds 60 = .ok (.ireturn, 1) := by decide +kernel
set_option maxRecDepth 20000 in
theorem ggX6_together_X6_requireFile : GoodIn wsX6_together wsX6_requireFile := goodIn_ca (goodIn_r _ [7, 8, 9, 10, 11, 12, 13, 14, 15, 16, 66, 67, 68, 69, 70, 71, 72, 73, 74] (by decide +kernel) (by decide +kernel)) (goodIn_sub (fun _ h => List.mem_cons_of_mem _ (List.mem_append_left _ (List.mem_append_right _ h))) (by decide +kernel))
set_option maxRecDepth 20000 in
theorem gX6_together_X6_requireFile : GoodIn wsX6_together (wsV RX6 90 RX6 yX6_requireFile wsX6_requireFile) := goodIn_app (goodIn_of _ (by decide +kernel)) ggX6_together_X6_requireFile
set_option maxRecDepth 20000 in
theorem ggX6_together_Jx4a65c_size_8abf5 : GoodIn wsX6_together wsJx4a65c_size_8abf5 := goodIn_r _ [15, 16, 72, 73, 74] (by decide +kernel) (by decide +kernel)
set_option maxRecDepth 20000 in
theorem gX6_together_Jx4a65c_size_8abf5 : GoodIn wsX6_together (wsV RX6 40 RJx4a65c yJx4a65c_size_8abf5 wsJx4a65c_size_8abf5) := goodIn_app (goodIn_of _ (by decide +kernel)) ggX6_together_Jx4a65c_size_8abf5
set_option maxRecDepth 20000 in
theorem ggX6_together_X6_requireRange : GoodIn wsX6_together wsX6_requireRange := goodIn_ca (goodIn_r _ [19, 20, 21] (by decide +kernel) (by decide +kernel)) (goodIn_sub (fun _ h => List.mem_cons_of_mem _ (List.mem_append_right _ h)) (by decide +kernel))
set_option maxRecDepth 20000 in
theorem gX6_together_X6_requireRange : GoodIn wsX6_together (va_wsS RX6 36 yX6_requireRange wsX6_requireRange) := goodIn_app (goodIn_of _ (by decide +kernel)) ggX6_together_X6_requireRange
set_option maxRecDepth 20000 in
theorem ggX6_together_X6_shareKnowledge : GoodIn wsX6_together wsX6_shareKnowledge := goodIn_r _ [25, 2, 1, 26, 27, 28, 29, 30, 31, 32, 33, 11, 12, 13, 14, 15, 16, 34, 35, 36, 37, 38, 39, 40, 41, 42, 43, 44, 45, 46, 47, 48, 49, 50, 51, 52, 6, 53, 54, 55, 56, 57, 58, 59, 60, 61, 66, 67, 68, 69, 70, 71, 75, 76, 77, 78, 79, 80, 81, 72, 73, 74] (by decide +kernel) (by decide +kernel)
set_option maxRecDepth 20000 in
theorem gX6_together_X6_shareKnowledge : GoodIn wsX6_together (wsV RX6 169 RX6 yX6_shareKnowledge wsX6_shareKnowledge) := goodIn_app (goodIn_of _ (by decide +kernel)) ggX6_together_X6_shareKnowledge
set_option maxRecDepth 20000 in
theorem ggX6_together_X2_knows : GoodIn wsX6_together wsX2_knows := goodIn_r _ [65, 32, 52, 6, 53, 80, 81] (by decide +kernel) (by decide +kernel)
set_option maxRecDepth 20000 in
theorem gX6_together_X2_knows : GoodIn wsX6_together (wsV RX6 165 RX2 yX2_knows wsX2_knows) := goodIn_app (goodIn_of _ (by decide +kernel)) ggX6_together_X2_knows
theorem dX6_together_0 : decode cX6_together 0 = .ok (.aload_n 0, 1) := by decide +kernel
theorem dX6_together_1 : decode cX6_together 1 = .ok (.iload_n 2, 1) := by decide +kernel
theorem dX6_together_2 : decode cX6_together 2 = .ok (.invokevirtual 90, 3) := by decide +kernel
theorem dX6_together_5 : decode cX6_together 5 = .ok (.iload_n 1, 1) := by decide +kernel
theorem dX6_together_6 : decode cX6_together 6 = .ok (.iconst 0, 1) := by decide +kernel
theorem dX6_together_7 : decode cX6_together 7 = .ok (.iconst 1, 1) := by decide +kernel
theorem dX6_together_8 : decode cX6_together 8 = .ok (.aload_n 0, 1) := by decide +kernel
theorem dX6_together_9 : decode cX6_together 9 = .ok (.getfield 16, 3) := by decide +kernel
theorem dX6_together_12 : decode cX6_together 12 = .ok (.invokevirtual 40, 3) := by decide +kernel
theorem dX6_together_15 : decode cX6_together 15 = .ok (.ishl, 1) := by decide +kernel
theorem dX6_together_16 : decode cX6_together 16 = .ok (.iconst 1, 1) := by decide +kernel
theorem dX6_together_17 : decode cX6_together 17 = .ok (.isub, 1) := by decide +kernel
theorem dX6_together_18 : decode cX6_together 18 = .ok (.invokestatic 36, 3) := by decide +kernel
theorem dX6_together_21 : decode cX6_together 21 = .ok (.iconst 0, 1) := by decide +kernel
theorem dX6_together_22 : decode cX6_together 22 = .ok (.istore_n 3, 1) := by decide +kernel
theorem dX6_together_23 : decode cX6_together 23 = .ok (.iconst 0, 1) := by decide +kernel
theorem dX6_together_24 : decode cX6_together 24 = .ok (.istore 4, 2) := by decide +kernel
theorem dX6_together_26 : decode cX6_together 26 = .ok (.iload 4, 2) := by decide +kernel
theorem dX6_together_28 : decode cX6_together 28 = .ok (.bipush 8, 2) := by decide +kernel
theorem dX6_together_30 : decode cX6_together 30 = .ok (.if_icmp .ge 36, 3) := by decide +kernel
theorem dX6_together_33 : decode cX6_together 33 = .ok (.aload_n 0, 1) := by decide +kernel
theorem dX6_together_34 : decode cX6_together 34 = .ok (.iload_n 1, 1) := by decide +kernel
theorem dX6_together_35 : decode cX6_together 35 = .ok (.iload 4, 2) := by decide +kernel
theorem dX6_together_37 : decode cX6_together 37 = .ok (.invokevirtual 169, 3) := by decide +kernel
theorem dX6_together_40 : decode cX6_together 40 = .ok (.aload_n 0, 1) := by decide +kernel
theorem dX6_together_41 : decode cX6_together 41 = .ok (.getfield 25, 3) := by decide +kernel
theorem dX6_together_44 : decode cX6_together 44 = .ok (.iconst 1, 1) := by decide +kernel
theorem dX6_together_45 : decode cX6_together 45 = .ok (.iload_n 2, 1) := by decide +kernel
theorem dX6_together_46 : decode cX6_together 46 = .ok (.ishl, 1) := by decide +kernel
theorem dX6_together_47 : decode cX6_together 47 = .ok (.invokevirtual 165, 3) := by decide +kernel
theorem dX6_together_50 : decode cX6_together 50 = .ok (.ifCond .eq 10, 3) := by decide +kernel
theorem dX6_together_53 : decode cX6_together 53 = .ok (.iload_n 3, 1) := by decide +kernel
theorem dX6_together_54 : decode cX6_together 54 = .ok (.iconst 1, 1) := by decide +kernel
theorem dX6_together_55 : decode cX6_together 55 = .ok (.iload 4, 2) := by decide +kernel
theorem dX6_together_57 : decode cX6_together 57 = .ok (.ishl, 1) := by decide +kernel
theorem dX6_together_58 : decode cX6_together 58 = .ok (.ior, 1) := by decide +kernel
theorem dX6_together_59 : decode cX6_together 59 = .ok (.istore_n 3, 1) := by decide +kernel
theorem dX6_together_60 : decode cX6_together 60 = .ok (.iinc 4 1, 3) := by decide +kernel
theorem dX6_together_63 : decode cX6_together 63 = .ok (.goto (-37), 3) := by decide +kernel
theorem dX6_together_66 : decode cX6_together 66 = .ok (.iload_n 3, 1) := by decide +kernel
theorem dX6_together_67 : decode cX6_together 67 = .ok (.ireturn, 1) := by decide +kernel
set_option maxRecDepth 20000 in
theorem ggX6_rightTo_X6_partyAt : GoodIn wsX6_rightTo wsX6_partyAt := goodIn_ca (goodIn_r _ [6, 7, 8, 9, 10, 11, 12, 13, 14, 15, 16, 17, 18, 19, 20, 21, 22, 23, 24, 25, 26, 27, 28, 29, 30, 31, 32, 33, 57, 58, 59, 60, 61, 62, 63, 64, 65] (by decide +kernel) (by decide +kernel)) (goodIn_sub (fun _ h => List.mem_cons_of_mem _ (List.mem_append_right _ h)) (by decide +kernel))
set_option maxRecDepth 20000 in
theorem gX6_rightTo_X6_partyAt : GoodIn wsX6_rightTo (wsV RX6 83 RX6 yX6_partyAt wsX6_partyAt) := goodIn_app (goodIn_of _ (by decide +kernel)) ggX6_rightTo_X6_partyAt
set_option maxRecDepth 20000 in
theorem ggX6_rightTo_X6_requireFile : GoodIn wsX6_rightTo wsX6_requireFile := goodIn_ca (goodIn_r _ [37, 7, 8, 38, 11, 12, 13, 14, 15, 16, 57, 58, 59, 60, 61, 62, 63, 64, 65] (by decide +kernel) (by decide +kernel)) (goodIn_sub (fun _ h => List.mem_cons_of_mem _ (List.mem_append_right _ h)) (by decide +kernel))
set_option maxRecDepth 20000 in
theorem gX6_rightTo_X6_requireFile : GoodIn wsX6_rightTo (wsV RX6 90 RX6 yX6_requireFile wsX6_requireFile) := goodIn_app (goodIn_of _ (by decide +kernel)) ggX6_rightTo_X6_requireFile
set_option maxRecDepth 20000 in
theorem ggX6_rightTo_X4_rightIn : GoodIn wsX6_rightTo wsX4_rightIn := goodIn_r _ [43, 44, 45, 46, 42, 47, 48, 49, 50, 51, 52, 53, 54, 55, 56, 66, 67, 68, 69, 70, 71, 72, 73] (by decide +kernel) (by decide +kernel)
set_option maxRecDepth 20000 in
theorem gX6_rightTo_X4_rightIn : GoodIn wsX6_rightTo (wsV RX6 172 RX4 yX4_rightIn wsX4_rightIn) := goodIn_app (goodIn_of _ (by decide +kernel)) ggX6_rightTo_X4_rightIn
theorem dX6_rightTo_0 : decode cX6_rightTo 0 = .ok (.aload_n 0, 1) := by decide +kernel
theorem dX6_rightTo_1 : decode cX6_rightTo 1 = .ok (.iload_n 1, 1) := by decide +kernel
theorem dX6_rightTo_2 : decode cX6_rightTo 2 = .ok (.invokevirtual 83, 3) := by decide +kernel
theorem dX6_rightTo_5 : decode cX6_rightTo 5 = .ok (.astore_n 3, 1) := by decide +kernel
theorem dX6_rightTo_6 : decode cX6_rightTo 6 = .ok (.aload_n 0, 1) := by decide +kernel
theorem dX6_rightTo_7 : decode cX6_rightTo 7 = .ok (.iload_n 2, 1) := by decide +kernel
theorem dX6_rightTo_8 : decode cX6_rightTo 8 = .ok (.invokevirtual 90, 3) := by decide +kernel
theorem dX6_rightTo_11 : decode cX6_rightTo 11 = .ok (.aload_n 3, 1) := by decide +kernel
theorem dX6_rightTo_12 : decode cX6_rightTo 12 = .ok (.aload_n 0, 1) := by decide +kernel
theorem dX6_rightTo_13 : decode cX6_rightTo 13 = .ok (.getfield 108, 3) := by decide +kernel
theorem dX6_rightTo_16 : decode cX6_rightTo 16 = .ok (.iload_n 2, 1) := by decide +kernel
theorem dX6_rightTo_17 : decode cX6_rightTo 17 = .ok (.invokevirtual 172, 3) := by decide +kernel
theorem dX6_rightTo_20 : decode cX6_rightTo 20 = .ok (.ireturn, 1) := by decide +kernel
set_option maxRecDepth 20000 in
theorem ggX6_isSealed_X6_fileAt : GoodIn wsX6_isSealed wsX6_fileAt := goodIn_ca (goodIn_r _ [6, 7, 8, 9, 10, 11, 5, 12, 13, 14, 15, 16, 17, 18, 19, 20, 21, 22, 23, 24, 25, 26, 27, 28, 29, 30, 31, 32, 33, 34, 35, 36, 37, 44, 45, 46, 47, 48, 49, 50, 51, 52] (by decide +kernel) (by decide +kernel)) (goodIn_sub (fun _ h => List.mem_cons_of_mem _ (List.mem_append_right _ h)) (by decide +kernel))
set_option maxRecDepth 20000 in
theorem gX6_isSealed_X6_fileAt : GoodIn wsX6_isSealed (wsV RX6 60 RX6 yX6_fileAt wsX6_fileAt) := goodIn_app (goodIn_of _ (by decide +kernel)) ggX6_isSealed_X6_fileAt
set_option maxRecDepth 20000 in
theorem ggX6_isSealed_X1_isClosedIn : GoodIn wsX6_isSealed wsX1_isClosedIn := goodIn_r _ [42, 43, 53, 54] (by decide +kernel) (by decide +kernel)
set_option maxRecDepth 20000 in
theorem gX6_isSealed_X1_isClosedIn : GoodIn wsX6_isSealed (wsV RX6 175 RX1 yX1_isClosedIn wsX1_isClosedIn) := goodIn_app (goodIn_of _ (by decide +kernel)) ggX6_isSealed_X1_isClosedIn
theorem dX6_isSealed_0 : decode cX6_isSealed 0 = .ok (.aload_n 0, 1) := by decide +kernel
theorem dX6_isSealed_1 : decode cX6_isSealed 1 = .ok (.iload_n 1, 1) := by decide +kernel
theorem dX6_isSealed_2 : decode cX6_isSealed 2 = .ok (.invokevirtual 60, 3) := by decide +kernel
theorem dX6_isSealed_5 : decode cX6_isSealed 5 = .ok (.aload_n 0, 1) := by decide +kernel
theorem dX6_isSealed_6 : decode cX6_isSealed 6 = .ok (.getfield 108, 3) := by decide +kernel
theorem dX6_isSealed_9 : decode cX6_isSealed 9 = .ok (.invokevirtual 175, 3) := by decide +kernel
theorem dX6_isSealed_12 : decode cX6_isSealed 12 = .ok (.ireturn, 1) := by decide +kernel
set_option maxRecDepth 20000 in
theorem ggX6_count_X6_partyAt : GoodIn wsX6_count wsX6_partyAt := goodIn_ca (goodIn_r _ [5, 6, 7, 8, 9, 10, 11, 12, 13, 14, 15, 16, 17, 18, 19, 20, 21, 22, 23, 24, 25, 26, 27, 28, 29, 30, 31, 32, 57, 58, 59, 60, 61, 62, 63, 64, 65] (by decide +kernel) (by decide +kernel)) (goodIn_sub (fun _ h => List.mem_cons_of_mem _ (List.mem_append_left _ (List.mem_append_right _ h))) (by decide +kernel))
set_option maxRecDepth 20000 in
theorem gX6_count_X6_partyAt : GoodIn wsX6_count (wsV RX6 83 RX6 yX6_partyAt wsX6_partyAt) := goodIn_app (goodIn_of _ (by decide +kernel)) ggX6_count_X6_partyAt
set_option maxRecDepth 20000 in
theorem ggX6_count_X6_requireRange : GoodIn wsX6_count wsX6_requireRange := goodIn_ca (goodIn_r _ [35, 36, 37] (by decide +kernel) (by decide +kernel)) (goodIn_sub (fun _ h => List.mem_cons_of_mem _ (List.mem_append_right _ h)) (by decide +kernel))
set_option maxRecDepth 20000 in
theorem gX6_count_X6_requireRange : GoodIn wsX6_count (va_wsS RX6 36 yX6_requireRange wsX6_requireRange) := goodIn_app (goodIn_of _ (by decide +kernel)) ggX6_count_X6_requireRange
set_option maxRecDepth 20000 in
theorem ggX6_count_X6_countStanding : GoodIn wsX6_count wsX6_countStanding := goodIn_r _ [41, 42, 43, 10, 11, 12, 13, 14, 15, 16, 17, 18, 19, 20, 21, 22, 23, 24, 25, 26, 27, 28, 29, 30, 31, 32, 44, 45, 46, 47, 48, 49, 50, 57, 58, 59, 60, 61, 62, 63, 64, 65, 66, 67, 68, 69, 70, 71, 72, 73, 74, 75, 76] (by decide +kernel) (by decide +kernel)
set_option maxRecDepth 20000 in
theorem gX6_count_X6_countStanding : GoodIn wsX6_count (wsV RX6 178 RX6 yX6_countStanding wsX6_countStanding) := goodIn_app (goodIn_of _ (by decide +kernel)) ggX6_count_X6_countStanding
set_option maxRecDepth 20000 in
theorem ggX6_count_X4_questions : GoodIn wsX6_count wsX4_questions := goodIn_r _ [55, 56, 72, 73, 74, 75, 76] (by decide +kernel) (by decide +kernel)
set_option maxRecDepth 20000 in
theorem gX6_count_X4_questions : GoodIn wsX6_count (wsV RX6 182 RX4 yX4_questions wsX4_questions) := goodIn_app (goodIn_of _ (by decide +kernel)) ggX6_count_X4_questions
theorem dX6_count_0 : decode cX6_count 0 = .ok (.aload_n 0, 1) := by decide +kernel
theorem dX6_count_1 : decode cX6_count 1 = .ok (.iload_n 1, 1) := by decide +kernel
theorem dX6_count_2 : decode cX6_count 2 = .ok (.invokevirtual 83, 3) := by decide +kernel
theorem dX6_count_5 : decode cX6_count 5 = .ok (.astore_n 3, 1) := by decide +kernel
theorem dX6_count_6 : decode cX6_count 6 = .ok (.iload_n 2, 1) := by decide +kernel
theorem dX6_count_7 : decode cX6_count 7 = .ok (.iconst 0, 1) := by decide +kernel
theorem dX6_count_8 : decode cX6_count 8 = .ok (.iconst 5, 1) := by decide +kernel
theorem dX6_count_9 : decode cX6_count 9 = .ok (.invokestatic 36, 3) := by decide +kernel
theorem dX6_count_12 : decode cX6_count 12 = .ok (.iload_n 2, 1) := by decide +kernel
theorem dX6_count_13 : decode cX6_count 13 = .ok (.iconst 5, 1) := by decide +kernel
theorem dX6_count_14 : decode cX6_count 14 = .ok (.if_icmp .ne 11, 3) := by decide +kernel
theorem dX6_count_17 : decode cX6_count 17 = .ok (.aload_n 0, 1) := by decide +kernel
theorem dX6_count_18 : decode cX6_count 18 = .ok (.aload_n 3, 1) := by decide +kernel
theorem dX6_count_19 : decode cX6_count 19 = .ok (.invokevirtual 178, 3) := by decide +kernel
theorem dX6_count_22 : decode cX6_count 22 = .ok (.goto 8, 3) := by decide +kernel
theorem dX6_count_25 : decode cX6_count 25 = .ok (.aload_n 3, 1) := by decide +kernel
theorem dX6_count_26 : decode cX6_count 26 = .ok (.iload_n 2, 1) := by decide +kernel
theorem dX6_count_27 : decode cX6_count 27 = .ok (.invokevirtual 182, 3) := by decide +kernel
theorem dX6_count_30 : decode cX6_count 30 = .ok (.ireturn, 1) := by decide +kernel
set_option maxRecDepth 20000 in
theorem ggX6_partyAt_Jx4a65c_size_8abf5 : GoodIn wsX6_partyAt wsJx4a65c_size_8abf5 := goodIn_r _ [9, 10, 34, 35, 36] (by decide +kernel) (by decide +kernel)
set_option maxRecDepth 20000 in
theorem gX6_partyAt_Jx4a65c_size_8abf5 : GoodIn wsX6_partyAt (wsV RX6 40 RJx4a65c yJx4a65c_size_8abf5 wsJx4a65c_size_8abf5) := goodIn_app (goodIn_of _ (by decide +kernel)) ggX6_partyAt_Jx4a65c_size_8abf5
set_option maxRecDepth 20000 in
theorem ggX6_partyAt_Jx4a65c_get_915e3 : GoodIn wsX6_partyAt wsJx4a65c_get_915e3 := goodIn_r _ [14, 10, 15, 16, 17, 18, 19, 20, 21, 22, 23, 24, 25, 8, 26, 27, 34, 35, 36] (by decide +kernel) (by decide +kernel)
set_option maxRecDepth 20000 in
theorem gX6_partyAt_Jx4a65c_get_915e3 : GoodIn wsX6_partyAt (wsV RX6 68 RJx4a65c yJx4a65c_get_915e3 wsJx4a65c_get_915e3) := goodIn_app (goodIn_of _ (by decide +kernel)) ggX6_partyAt_Jx4a65c_get_915e3
theorem dX6_partyAt_0 : decode cX6_partyAt 0 = .ok (.iload_n 1, 1) := by decide +kernel
theorem dX6_partyAt_1 : decode cX6_partyAt 1 = .ok (.ifCond .lt 14, 3) := by decide +kernel
theorem dX6_partyAt_4 : decode cX6_partyAt 4 = .ok (.iload_n 1, 1) := by decide +kernel
theorem dX6_partyAt_5 : decode cX6_partyAt 5 = .ok (.aload_n 0, 1) := by decide +kernel
theorem dX6_partyAt_6 : decode cX6_partyAt 6 = .ok (.getfield 16, 3) := by decide +kernel
theorem dX6_partyAt_9 : decode cX6_partyAt 9 = .ok (.invokevirtual 40, 3) := by decide +kernel
theorem dX6_partyAt_12 : decode cX6_partyAt 12 = .ok (.if_icmp .lt 13, 3) := by decide +kernel
theorem dX6_partyAt_15 : decode cX6_partyAt 15 = .ok (.new 143, 3) := by decide +kernel
theorem dX6_partyAt_18 : decode cX6_partyAt 18 = .ok (.dup, 1) := by decide +kernel
theorem dX6_partyAt_19 : decode cX6_partyAt 19 = .ok (.ldc 185, 2) := by decide +kernel
theorem dX6_partyAt_21 : decode cX6_partyAt 21 = .ok (.invokespecial 147, 3) := by decide +kernel
theorem dX6_partyAt_24 : decode cX6_partyAt 24 = .ok (.athrow, 1) := by decide +kernel
theorem dX6_partyAt_25 : decode cX6_partyAt 25 = .ok (.aload_n 0, 1) := by decide +kernel
theorem dX6_partyAt_26 : decode cX6_partyAt 26 = .ok (.getfield 16, 3) := by decide +kernel
theorem dX6_partyAt_29 : decode cX6_partyAt 29 = .ok (.iload_n 1, 1) := by decide +kernel
theorem dX6_partyAt_30 : decode cX6_partyAt 30 = .ok (.invokevirtual 68, 3) := by decide +kernel
theorem dX6_partyAt_33 : decode cX6_partyAt 33 = .ok (.checkcast 72, 3) := by decide +kernel
theorem dX6_partyAt_36 : decode cX6_partyAt 36 = .ok (.areturn, 1) := by decide +kernel
set_option maxRecDepth 20000 in
theorem ggX6_fileAt_X6_requireFile : GoodIn wsX6_fileAt wsX6_requireFile := goodIn_ca (goodIn_r _ [7, 8, 9, 1, 10, 11, 12, 13, 14, 15, 33, 34, 35, 36, 37, 38, 39, 40, 41] (by decide +kernel) (by decide +kernel)) (goodIn_sub (fun _ h => List.mem_cons_of_mem _ (List.mem_append_right _ h)) (by decide +kernel))
set_option maxRecDepth 20000 in
theorem gX6_fileAt_X6_requireFile : GoodIn wsX6_fileAt (wsV RX6 90 RX6 yX6_requireFile wsX6_requireFile) := goodIn_app (goodIn_of _ (by decide +kernel)) ggX6_fileAt_X6_requireFile
set_option maxRecDepth 20000 in
theorem ggX6_fileAt_Jx4a65c_get_915e3 : GoodIn wsX6_fileAt wsJx4a65c_get_915e3 := goodIn_r _ [19, 15, 20, 21, 22, 23, 24, 25, 26, 27, 28, 29, 30, 13, 31, 32, 39, 40, 41] (by decide +kernel) (by decide +kernel)
set_option maxRecDepth 20000 in
theorem gX6_fileAt_Jx4a65c_get_915e3 : GoodIn wsX6_fileAt (wsV RX6 68 RJx4a65c yJx4a65c_get_915e3 wsJx4a65c_get_915e3) := goodIn_app (goodIn_of _ (by decide +kernel)) ggX6_fileAt_Jx4a65c_get_915e3
theorem dX6_fileAt_0 : decode cX6_fileAt 0 = .ok (.aload_n 0, 1) := by decide +kernel
theorem dX6_fileAt_1 : decode cX6_fileAt 1 = .ok (.iload_n 1, 1) := by decide +kernel
theorem dX6_fileAt_2 : decode cX6_fileAt 2 = .ok (.invokevirtual 90, 3) := by decide +kernel
theorem dX6_fileAt_5 : decode cX6_fileAt 5 = .ok (.aload_n 0, 1) := by decide +kernel
theorem dX6_fileAt_6 : decode cX6_fileAt 6 = .ok (.getfield 10, 3) := by decide +kernel
theorem dX6_fileAt_9 : decode cX6_fileAt 9 = .ok (.iload_n 1, 1) := by decide +kernel
theorem dX6_fileAt_10 : decode cX6_fileAt 10 = .ok (.invokevirtual 68, 3) := by decide +kernel
theorem dX6_fileAt_13 : decode cX6_fileAt 13 = .ok (.checkcast 51, 3) := by decide +kernel
theorem dX6_fileAt_16 : decode cX6_fileAt 16 = .ok (.areturn, 1) := by decide +kernel
set_option maxRecDepth 20000 in
theorem ggX6_requireFile_Jx4a65c_size_8abf5 : GoodIn wsX6_requireFile wsJx4a65c_size_8abf5 := goodIn_r _ [8, 9, 16, 17, 18] (by decide +kernel) (by decide +kernel)
set_option maxRecDepth 20000 in
theorem gX6_requireFile_Jx4a65c_size_8abf5 : GoodIn wsX6_requireFile (wsV RX6 40 RJx4a65c yJx4a65c_size_8abf5 wsJx4a65c_size_8abf5) := goodIn_app (goodIn_of _ (by decide +kernel)) ggX6_requireFile_Jx4a65c_size_8abf5
theorem dX6_requireFile_0 : decode cX6_requireFile 0 = .ok (.iload_n 1, 1) := by decide +kernel
theorem dX6_requireFile_1 : decode cX6_requireFile 1 = .ok (.ifCond .lt 14, 3) := by decide +kernel
theorem dX6_requireFile_4 : decode cX6_requireFile 4 = .ok (.iload_n 1, 1) := by decide +kernel
theorem dX6_requireFile_5 : decode cX6_requireFile 5 = .ok (.aload_n 0, 1) := by decide +kernel
theorem dX6_requireFile_6 : decode cX6_requireFile 6 = .ok (.getfield 10, 3) := by decide +kernel
theorem dX6_requireFile_9 : decode cX6_requireFile 9 = .ok (.invokevirtual 40, 3) := by decide +kernel
theorem dX6_requireFile_12 : decode cX6_requireFile 12 = .ok (.if_icmp .lt 13, 3) := by decide +kernel
theorem dX6_requireFile_15 : decode cX6_requireFile 15 = .ok (.new 143, 3) := by decide +kernel
theorem dX6_requireFile_18 : decode cX6_requireFile 18 = .ok (.dup, 1) := by decide +kernel
theorem dX6_requireFile_19 : decode cX6_requireFile 19 = .ok (.ldc 187, 2) := by decide +kernel
theorem dX6_requireFile_21 : decode cX6_requireFile 21 = .ok (.invokespecial 147, 3) := by decide +kernel
theorem dX6_requireFile_24 : decode cX6_requireFile 24 = .ok (.athrow, 1) := by decide +kernel
theorem dX6_requireFile_25 : decode cX6_requireFile 25 = .ok (.return_, 1) := by decide +kernel
theorem dX6_requireRange_0 : decode cX6_requireRange 0 = .ok (.iload_n 0, 1) := by decide +kernel
theorem dX6_requireRange_1 : decode cX6_requireRange 1 = .ok (.iload_n 1, 1) := by decide +kernel
theorem dX6_requireRange_2 : decode cX6_requireRange 2 = .ok (.if_icmp .lt 8, 3) := by decide +kernel
theorem dX6_requireRange_5 : decode cX6_requireRange 5 = .ok (.iload_n 0, 1) := by decide +kernel
theorem dX6_requireRange_6 : decode cX6_requireRange 6 = .ok (.iload_n 2, 1) := by decide +kernel
theorem dX6_requireRange_7 : decode cX6_requireRange 7 = .ok (.if_icmp .le 13, 3) := by decide +kernel
theorem dX6_requireRange_10 : decode cX6_requireRange 10 = .ok (.new 189, 3) := by decide +kernel
theorem dX6_requireRange_13 : decode cX6_requireRange 13 = .ok (.dup, 1) := by decide +kernel
theorem dX6_requireRange_14 : decode cX6_requireRange 14 = .ok (.ldc 191, 2) := by decide +kernel
theorem dX6_requireRange_16 : decode cX6_requireRange 16 = .ok (.invokespecial 193, 3) := by decide +kernel
theorem dX6_requireRange_19 : decode cX6_requireRange 19 = .ok (.athrow, 1) := by decide +kernel
theorem dX6_requireRange_20 : decode cX6_requireRange 20 = .ok (.return_, 1) := by decide +kernel
set_option maxRecDepth 20000 in
theorem ggX6_requireQuestion_Jx4a65c_size_8abf5 : GoodIn wsX6_requireQuestion wsJx4a65c_size_8abf5 := goodIn_r _ [6, 7, 20, 21, 22] (by decide +kernel) (by decide +kernel)
set_option maxRecDepth 20000 in
theorem gX6_requireQuestion_Jx4a65c_size_8abf5 : GoodIn wsX6_requireQuestion (wsV RX6 40 RJx4a65c yJx4a65c_size_8abf5 wsJx4a65c_size_8abf5) := goodIn_app (goodIn_of _ (by decide +kernel)) ggX6_requireQuestion_Jx4a65c_size_8abf5
set_option maxRecDepth 20000 in
theorem ggX6_requireQuestion_X6_requireRange : GoodIn wsX6_requireQuestion wsX6_requireRange := goodIn_ca (goodIn_r _ [11, 12, 13] (by decide +kernel) (by decide +kernel)) (goodIn_sub (fun _ h => List.mem_cons_of_mem _ (List.mem_append_right _ h)) (by decide +kernel))
set_option maxRecDepth 20000 in
theorem gX6_requireQuestion_X6_requireRange : GoodIn wsX6_requireQuestion (va_wsS RX6 36 yX6_requireRange wsX6_requireRange) := goodIn_app (goodIn_of _ (by decide +kernel)) ggX6_requireQuestion_X6_requireRange
theorem dX6_requireQuestion_0 : decode cX6_requireQuestion 0 = .ok (.iload_n 1, 1) := by decide +kernel
theorem dX6_requireQuestion_1 : decode cX6_requireQuestion 1 = .ok (.iconst 1, 1) := by decide +kernel
theorem dX6_requireQuestion_2 : decode cX6_requireQuestion 2 = .ok (.iconst 1, 1) := by decide +kernel
theorem dX6_requireQuestion_3 : decode cX6_requireQuestion 3 = .ok (.aload_n 0, 1) := by decide +kernel
theorem dX6_requireQuestion_4 : decode cX6_requireQuestion 4 = .ok (.getfield 10, 3) := by decide +kernel
theorem dX6_requireQuestion_7 : decode cX6_requireQuestion 7 = .ok (.invokevirtual 40, 3) := by decide +kernel
theorem dX6_requireQuestion_10 : decode cX6_requireQuestion 10 = .ok (.ishl, 1) := by decide +kernel
theorem dX6_requireQuestion_11 : decode cX6_requireQuestion 11 = .ok (.iconst 1, 1) := by decide +kernel
theorem dX6_requireQuestion_12 : decode cX6_requireQuestion 12 = .ok (.isub, 1) := by decide +kernel
theorem dX6_requireQuestion_13 : decode cX6_requireQuestion 13 = .ok (.invokestatic 36, 3) := by decide +kernel
theorem dX6_requireQuestion_16 : decode cX6_requireQuestion 16 = .ok (.iload_n 2, 1) := by decide +kernel
theorem dX6_requireQuestion_17 : decode cX6_requireQuestion 17 = .ok (.iconst (-1), 1) := by decide +kernel
theorem dX6_requireQuestion_18 : decode cX6_requireQuestion 18 = .ok (.bipush 7, 2) := by decide +kernel
theorem dX6_requireQuestion_20 : decode cX6_requireQuestion 20 = .ok (.invokestatic 36, 3) := by decide +kernel
theorem dX6_requireQuestion_23 : decode cX6_requireQuestion 23 = .ok (.return_, 1) := by decide +kernel
theorem dX6_holds_0 : decode cX6_holds 0 = .ok (.iload_n 0, 1) := by decide +kernel
theorem dX6_holds_1 : decode cX6_holds 1 = .ok (.iload_n 1, 1) := by decide +kernel
theorem dX6_holds_2 : decode cX6_holds 2 = .ok (.ishr, 1) := by decide +kernel
theorem dX6_holds_3 : decode cX6_holds 3 = .ok (.iconst 1, 1) := by decide +kernel
theorem dX6_holds_4 : decode cX6_holds 4 = .ok (.iand, 1) := by decide +kernel
theorem dX6_holds_5 : decode cX6_holds 5 = .ok (.ifCond .eq 7, 3) := by decide +kernel
theorem dX6_holds_8 : decode cX6_holds 8 = .ok (.iconst 1, 1) := by decide +kernel
theorem dX6_holds_9 : decode cX6_holds 9 = .ok (.goto 4, 3) := by decide +kernel
theorem dX6_holds_12 : decode cX6_holds 12 = .ok (.iconst 0, 1) := by decide +kernel
theorem dX6_holds_13 : decode cX6_holds 13 = .ok (.ireturn, 1) := by decide +kernel
theorem dX6_covers_0 : decode cX6_covers 0 = .ok (.iload_n 0, 1) := by decide +kernel
theorem dX6_covers_1 : decode cX6_covers 1 = .ok (.iconst (-1), 1) := by decide +kernel
theorem dX6_covers_2 : decode cX6_covers 2 = .ok (.if_icmp .eq 8, 3) := by decide +kernel
theorem dX6_covers_5 : decode cX6_covers 5 = .ok (.iload_n 0, 1) := by decide +kernel
theorem dX6_covers_6 : decode cX6_covers 6 = .ok (.iload_n 1, 1) := by decide +kernel
theorem dX6_covers_7 : decode cX6_covers 7 = .ok (.if_icmp .ne 7, 3) := by decide +kernel
theorem dX6_covers_10 : decode cX6_covers 10 = .ok (.iconst 1, 1) := by decide +kernel
theorem dX6_covers_11 : decode cX6_covers 11 = .ok (.goto 4, 3) := by decide +kernel
theorem dX6_covers_14 : decode cX6_covers 14 = .ok (.iconst 0, 1) := by decide +kernel
theorem dX6_covers_15 : decode cX6_covers 15 = .ok (.ireturn, 1) := by decide +kernel
set_option maxRecDepth 20000 in
theorem ggX6_refusalOf_X6_lacksRight : GoodIn wsX6_refusalOf wsX6_lacksRight := goodIn_r _ [6, 7, 1, 8, 9, 10, 11, 12, 13, 14, 15, 5, 16, 17, 18, 19, 20, 21, 22, 23, 24, 25, 26, 27, 28, 29, 30, 31, 32, 33, 34, 94, 95, 96, 97, 98, 99, 105, 106, 107, 100, 101, 102, 103, 104, 108, 109, 110] (by decide +kernel) (by decide +kernel)
set_option maxRecDepth 20000 in
theorem gX6_refusalOf_X6_lacksRight : GoodIn wsX6_refusalOf (wsV RX6 194 RX6 yX6_lacksRight wsX6_lacksRight) := goodIn_app (goodIn_of _ (by decide +kernel)) ggX6_refusalOf_X6_lacksRight
set_option maxRecDepth 20000 in
theorem ggX6_refusalOf_X6_hasSealed : GoodIn wsX6_refusalOf wsX6_hasSealed := goodIn_r _ [38, 7, 39, 1, 8, 9, 10, 11, 12, 13, 14, 15, 5, 16, 40, 41, 42, 43, 44, 45, 46, 47, 48, 49, 50, 51, 52, 53, 54, 55, 56, 57, 58, 59, 60, 61, 62, 94, 95, 96, 97, 98, 99, 105, 106, 107, 111, 112] (by decide +kernel) (by decide +kernel)
set_option maxRecDepth 20000 in
theorem gX6_refusalOf_X6_hasSealed : GoodIn wsX6_refusalOf (wsV RX6 198 RX6 yX6_hasSealed wsX6_hasSealed) := goodIn_app (goodIn_of _ (by decide +kernel)) ggX6_refusalOf_X6_hasSealed
set_option maxRecDepth 20000 in
theorem ggX6_refusalOf_X4_wouldFindUnread : GoodIn wsX6_refusalOf wsX4_wouldFindUnread := goodIn_r _ [66, 26, 67, 18, 19, 20, 21, 22, 23, 24, 25, 27, 28, 29, 30, 31, 32, 33, 34, 68, 69, 70, 71, 72, 73, 5, 74, 75, 76, 77, 78, 79, 80, 81, 82, 83, 84, 15, 16, 100, 101, 102, 103, 104, 108, 109, 110, 113, 114] (by decide +kernel) (by decide +kernel)
set_option maxRecDepth 20000 in
theorem gX6_refusalOf_X4_wouldFindUnread : GoodIn wsX6_refusalOf (wsV RX6 201 RX4 yX4_wouldFindUnread wsX4_wouldFindUnread) := goodIn_app (goodIn_of _ (by decide +kernel)) ggX6_refusalOf_X4_wouldFindUnread
set_option maxRecDepth 20000 in
theorem ggX6_refusalOf_X4_learnedInAll : GoodIn wsX6_refusalOf wsX4_learnedInAll := goodIn_r _ [88, 72, 100, 101, 102, 103, 104, 113, 114] (by decide +kernel) (by decide +kernel)
set_option maxRecDepth 20000 in
theorem gX6_refusalOf_X4_learnedInAll : GoodIn wsX6_refusalOf (wsV RX6 152 RX4 yX4_learnedInAll wsX4_learnedInAll) := goodIn_app (goodIn_of _ (by decide +kernel)) ggX6_refusalOf_X4_learnedInAll
set_option maxRecDepth 20000 in
theorem ggX6_refusalOf_X4_costOf : GoodIn wsX6_refusalOf wsX4_costOf := goodIn_r _ [92, 72, 73, 5, 74, 93, 81, 82, 78, 83, 84, 15, 16, 100, 101, 102, 103, 104, 113, 114] (by decide +kernel) (by decide +kernel)
set_option maxRecDepth 20000 in
theorem gX6_refusalOf_X4_costOf : GoodIn wsX6_refusalOf (wsV RX6 140 RX4 yX4_costOf wsX4_costOf) := goodIn_app (goodIn_of _ (by decide +kernel)) ggX6_refusalOf_X4_costOf
theorem dX6_refusalOf_0 : decode cX6_refusalOf 0 = .ok (.aload_n 0, 1) := by decide +kernel
theorem dX6_refusalOf_1 : decode cX6_refusalOf 1 = .ok (.aload_n 1, 1) := by decide +kernel
theorem dX6_refusalOf_2 : decode cX6_refusalOf 2 = .ok (.iload_n 2, 1) := by decide +kernel
theorem dX6_refusalOf_3 : decode cX6_refusalOf 3 = .ok (.invokevirtual 194, 3) := by decide +kernel
theorem dX6_refusalOf_6 : decode cX6_refusalOf 6 = .ok (.ifCond .eq 5, 3) := by decide +kernel
theorem dX6_refusalOf_9 : decode cX6_refusalOf 9 = .ok (.iconst (-1), 1) := by decide +kernel
theorem dX6_refusalOf_10 : decode cX6_refusalOf 10 = .ok (.ireturn, 1) := by decide +kernel
theorem dX6_refusalOf_11 : decode cX6_refusalOf 11 = .ok (.aload_n 0, 1) := by decide +kernel
theorem dX6_refusalOf_12 : decode cX6_refusalOf 12 = .ok (.iload_n 2, 1) := by decide +kernel
theorem dX6_refusalOf_13 : decode cX6_refusalOf 13 = .ok (.invokevirtual 198, 3) := by decide +kernel
theorem dX6_refusalOf_16 : decode cX6_refusalOf 16 = .ok (.ifCond .eq 6, 3) := by decide +kernel
theorem dX6_refusalOf_19 : decode cX6_refusalOf 19 = .ok (.bipush (-2), 2) := by decide +kernel
theorem dX6_refusalOf_21 : decode cX6_refusalOf 21 = .ok (.ireturn, 1) := by decide +kernel
theorem dX6_refusalOf_22 : decode cX6_refusalOf 22 = .ok (.aload_n 1, 1) := by decide +kernel
theorem dX6_refusalOf_23 : decode cX6_refusalOf 23 = .ok (.iload_n 2, 1) := by decide +kernel
theorem dX6_refusalOf_24 : decode cX6_refusalOf 24 = .ok (.iload_n 3, 1) := by decide +kernel
theorem dX6_refusalOf_25 : decode cX6_refusalOf 25 = .ok (.aload_n 0, 1) := by decide +kernel
theorem dX6_refusalOf_26 : decode cX6_refusalOf 26 = .ok (.getfield 108, 3) := by decide +kernel
theorem dX6_refusalOf_29 : decode cX6_refusalOf 29 = .ok (.invokevirtual 201, 3) := by decide +kernel
theorem dX6_refusalOf_32 : decode cX6_refusalOf 32 = .ok (.ifCond .eq 6, 3) := by decide +kernel
theorem dX6_refusalOf_35 : decode cX6_refusalOf 35 = .ok (.bipush (-3), 2) := by decide +kernel
theorem dX6_refusalOf_37 : decode cX6_refusalOf 37 = .ok (.ireturn, 1) := by decide +kernel
theorem dX6_refusalOf_38 : decode cX6_refusalOf 38 = .ok (.aload_n 1, 1) := by decide +kernel
theorem dX6_refusalOf_39 : decode cX6_refusalOf 39 = .ok (.invokevirtual 152, 3) := by decide +kernel
theorem dX6_refusalOf_42 : decode cX6_refusalOf 42 = .ok (.aload_n 1, 1) := by decide +kernel
theorem dX6_refusalOf_43 : decode cX6_refusalOf 43 = .ok (.iload_n 2, 1) := by decide +kernel
theorem dX6_refusalOf_44 : decode cX6_refusalOf 44 = .ok (.iload_n 3, 1) := by decide +kernel
theorem dX6_refusalOf_45 : decode cX6_refusalOf 45 = .ok (.invokevirtual 140, 3) := by decide +kernel
theorem dX6_refusalOf_48 : decode cX6_refusalOf 48 = .ok (.iadd, 1) := by decide +kernel
theorem dX6_refusalOf_49 : decode cX6_refusalOf 49 = .ok (.aload_n 1, 1) := by decide +kernel
theorem dX6_refusalOf_50 : decode cX6_refusalOf 50 = .ok (.getfield 87, 3) := by decide +kernel
theorem dX6_refusalOf_53 : decode cX6_refusalOf 53 = .ok (.if_icmp .le 6, 3) := by decide +kernel
theorem dX6_refusalOf_56 : decode cX6_refusalOf 56 = .ok (.bipush (-4), 2) := by decide +kernel
theorem dX6_refusalOf_58 : decode cX6_refusalOf 58 = .ok (.ireturn, 1) := by decide +kernel
theorem dX6_refusalOf_59 : decode cX6_refusalOf 59 = .ok (.iconst 0, 1) := by decide +kernel
theorem dX6_refusalOf_60 : decode cX6_refusalOf 60 = .ok (.ireturn, 1) := by decide +kernel
set_option maxRecDepth 20000 in
theorem ggX6_lacksRight_Jx4a65c_size_8abf5 : GoodIn wsX6_lacksRight wsJx4a65c_size_8abf5 := goodIn_r _ [7, 8, 37, 38, 39] (by decide +kernel) (by decide +kernel)
set_option maxRecDepth 20000 in
theorem gX6_lacksRight_Jx4a65c_size_8abf5 : GoodIn wsX6_lacksRight (wsV RX6 40 RJx4a65c yJx4a65c_size_8abf5 wsJx4a65c_size_8abf5) := goodIn_app (goodIn_of _ (by decide +kernel)) ggX6_lacksRight_Jx4a65c_size_8abf5
set_option maxRecDepth 20000 in
theorem ggX6_lacksRight_X6_holds : GoodIn wsX6_lacksRight wsX6_holds := goodIn_r _ [12] (by decide +kernel) (by decide +kernel)
set_option maxRecDepth 20000 in
theorem gX6_lacksRight_X6_holds : GoodIn wsX6_lacksRight (va_wsS RX6 205 yX6_holds wsX6_holds) := goodIn_app (goodIn_of _ (by decide +kernel)) ggX6_lacksRight_X6_holds
set_option maxRecDepth 20000 in
theorem ggX6_lacksRight_X4_rightIn : GoodIn wsX6_lacksRight wsX4_rightIn := goodIn_r _ [17, 18, 19, 20, 16, 21, 22, 23, 24, 25, 26, 27, 28, 29, 30, 40, 41, 42, 43, 44, 45, 46, 47] (by decide +kernel) (by decide +kernel)
set_option maxRecDepth 20000 in
theorem gX6_lacksRight_X4_rightIn : GoodIn wsX6_lacksRight (wsV RX6 172 RX4 yX4_rightIn wsX4_rightIn) := goodIn_app (goodIn_of _ (by decide +kernel)) ggX6_lacksRight_X4_rightIn
theorem dX6_lacksRight_0 : decode cX6_lacksRight 0 = .ok (.iconst 0, 1) := by decide +kernel
theorem dX6_lacksRight_1 : decode cX6_lacksRight 1 = .ok (.istore_n 3, 1) := by decide +kernel
theorem dX6_lacksRight_2 : decode cX6_lacksRight 2 = .ok (.iload_n 3, 1) := by decide +kernel
theorem dX6_lacksRight_3 : decode cX6_lacksRight 3 = .ok (.aload_n 0, 1) := by decide +kernel
theorem dX6_lacksRight_4 : decode cX6_lacksRight 4 = .ok (.getfield 10, 3) := by decide +kernel
theorem dX6_lacksRight_7 : decode cX6_lacksRight 7 = .ok (.invokevirtual 40, 3) := by decide +kernel
theorem dX6_lacksRight_10 : decode cX6_lacksRight 10 = .ok (.if_icmp .ge 31, 3) := by decide +kernel
theorem dX6_lacksRight_13 : decode cX6_lacksRight 13 = .ok (.iload_n 2, 1) := by decide +kernel
theorem dX6_lacksRight_14 : decode cX6_lacksRight 14 = .ok (.iload_n 3, 1) := by decide +kernel
theorem dX6_lacksRight_15 : decode cX6_lacksRight 15 = .ok (.invokestatic 205, 3) := by decide +kernel
theorem dX6_lacksRight_18 : decode cX6_lacksRight 18 = .ok (.ifCond .eq 17, 3) := by decide +kernel
theorem dX6_lacksRight_21 : decode cX6_lacksRight 21 = .ok (.aload_n 1, 1) := by decide +kernel
theorem dX6_lacksRight_22 : decode cX6_lacksRight 22 = .ok (.aload_n 0, 1) := by decide +kernel
theorem dX6_lacksRight_23 : decode cX6_lacksRight 23 = .ok (.getfield 108, 3) := by decide +kernel
theorem dX6_lacksRight_26 : decode cX6_lacksRight 26 = .ok (.iload_n 3, 1) := by decide +kernel
theorem dX6_lacksRight_27 : decode cX6_lacksRight 27 = .ok (.invokevirtual 172, 3) := by decide +kernel
theorem dX6_lacksRight_30 : decode cX6_lacksRight 30 = .ok (.ifCond .ne 5, 3) := by decide +kernel
theorem dX6_lacksRight_33 : decode cX6_lacksRight 33 = .ok (.iconst 1, 1) := by decide +kernel
theorem dX6_lacksRight_34 : decode cX6_lacksRight 34 = .ok (.ireturn, 1) := by decide +kernel
theorem dX6_lacksRight_35 : decode cX6_lacksRight 35 = .ok (.iinc 3 1, 3) := by decide +kernel
theorem dX6_lacksRight_38 : decode cX6_lacksRight 38 = .ok (.goto (-36), 3) := by decide +kernel
theorem dX6_lacksRight_41 : decode cX6_lacksRight 41 = .ok (.iconst 0, 1) := by decide +kernel
theorem dX6_lacksRight_42 : decode cX6_lacksRight 42 = .ok (.ireturn, 1) := by decide +kernel
set_option maxRecDepth 20000 in
theorem ggX6_hasSealed_Jx4a65c_size_8abf5 : GoodIn wsX6_hasSealed wsJx4a65c_size_8abf5 := goodIn_r _ [8, 9, 43, 44, 45] (by decide +kernel) (by decide +kernel)
set_option maxRecDepth 20000 in
theorem gX6_hasSealed_Jx4a65c_size_8abf5 : GoodIn wsX6_hasSealed (wsV RX6 40 RJx4a65c yJx4a65c_size_8abf5 wsJx4a65c_size_8abf5) := goodIn_app (goodIn_of _ (by decide +kernel)) ggX6_hasSealed_Jx4a65c_size_8abf5
set_option maxRecDepth 20000 in
theorem ggX6_hasSealed_X6_holds : GoodIn wsX6_hasSealed wsX6_holds := goodIn_r _ [13] (by decide +kernel) (by decide +kernel)
set_option maxRecDepth 20000 in
theorem gX6_hasSealed_X6_holds : GoodIn wsX6_hasSealed (va_wsS RX6 205 yX6_holds wsX6_holds) := goodIn_app (goodIn_of _ (by decide +kernel)) ggX6_hasSealed_X6_holds
set_option maxRecDepth 20000 in
theorem ggX6_hasSealed_Jx4a65c_get_915e3 : GoodIn wsX6_hasSealed wsJx4a65c_get_915e3 := goodIn_r _ [17, 9, 18, 19, 20, 21, 22, 23, 24, 25, 26, 27, 28, 7, 29, 30, 43, 44, 45] (by decide +kernel) (by decide +kernel)
set_option maxRecDepth 20000 in
theorem gX6_hasSealed_Jx4a65c_get_915e3 : GoodIn wsX6_hasSealed (wsV RX6 68 RJx4a65c yJx4a65c_get_915e3 wsJx4a65c_get_915e3) := goodIn_app (goodIn_of _ (by decide +kernel)) ggX6_hasSealed_Jx4a65c_get_915e3
set_option maxRecDepth 20000 in
theorem ggX6_hasSealed_X1_isClosedIn : GoodIn wsX6_hasSealed wsX1_isClosedIn := goodIn_r _ [35, 36, 46, 47] (by decide +kernel) (by decide +kernel)
set_option maxRecDepth 20000 in
theorem gX6_hasSealed_X1_isClosedIn : GoodIn wsX6_hasSealed (wsV RX6 175 RX1 yX1_isClosedIn wsX1_isClosedIn) := goodIn_app (goodIn_of _ (by decide +kernel)) ggX6_hasSealed_X1_isClosedIn
theorem dX6_hasSealed_0 : decode cX6_hasSealed 0 = .ok (.iconst 0, 1) := by decide +kernel
theorem dX6_hasSealed_1 : decode cX6_hasSealed 1 = .ok (.istore_n 2, 1) := by decide +kernel
theorem dX6_hasSealed_2 : decode cX6_hasSealed 2 = .ok (.iload_n 2, 1) := by decide +kernel
theorem dX6_hasSealed_3 : decode cX6_hasSealed 3 = .ok (.aload_n 0, 1) := by decide +kernel
theorem dX6_hasSealed_4 : decode cX6_hasSealed 4 = .ok (.getfield 10, 3) := by decide +kernel
theorem dX6_hasSealed_7 : decode cX6_hasSealed 7 = .ok (.invokevirtual 40, 3) := by decide +kernel
theorem dX6_hasSealed_10 : decode cX6_hasSealed 10 = .ok (.if_icmp .ge 40, 3) := by decide +kernel
theorem dX6_hasSealed_13 : decode cX6_hasSealed 13 = .ok (.iload_n 1, 1) := by decide +kernel
theorem dX6_hasSealed_14 : decode cX6_hasSealed 14 = .ok (.iload_n 2, 1) := by decide +kernel
theorem dX6_hasSealed_15 : decode cX6_hasSealed 15 = .ok (.invokestatic 205, 3) := by decide +kernel
theorem dX6_hasSealed_18 : decode cX6_hasSealed 18 = .ok (.ifCond .eq 26, 3) := by decide +kernel
theorem dX6_hasSealed_21 : decode cX6_hasSealed 21 = .ok (.aload_n 0, 1) := by decide +kernel
theorem dX6_hasSealed_22 : decode cX6_hasSealed 22 = .ok (.getfield 10, 3) := by decide +kernel
theorem dX6_hasSealed_25 : decode cX6_hasSealed 25 = .ok (.iload_n 2, 1) := by decide +kernel
theorem dX6_hasSealed_26 : decode cX6_hasSealed 26 = .ok (.invokevirtual 68, 3) := by decide +kernel
theorem dX6_hasSealed_29 : decode cX6_hasSealed 29 = .ok (.checkcast 51, 3) := by decide +kernel
theorem dX6_hasSealed_32 : decode cX6_hasSealed 32 = .ok (.aload_n 0, 1) := by decide +kernel
theorem dX6_hasSealed_33 : decode cX6_hasSealed 33 = .ok (.getfield 108, 3) := by decide +kernel
theorem dX6_hasSealed_36 : decode cX6_hasSealed 36 = .ok (.invokevirtual 175, 3) := by decide +kernel
theorem dX6_hasSealed_39 : decode cX6_hasSealed 39 = .ok (.ifCond .eq 5, 3) := by decide +kernel
theorem dX6_hasSealed_42 : decode cX6_hasSealed 42 = .ok (.iconst 1, 1) := by decide +kernel
theorem dX6_hasSealed_43 : decode cX6_hasSealed 43 = .ok (.ireturn, 1) := by decide +kernel
theorem dX6_hasSealed_44 : decode cX6_hasSealed 44 = .ok (.iinc 2 1, 3) := by decide +kernel
theorem dX6_hasSealed_47 : decode cX6_hasSealed 47 = .ok (.goto (-45), 3) := by decide +kernel
theorem dX6_hasSealed_50 : decode cX6_hasSealed 50 = .ok (.iconst 0, 1) := by decide +kernel
theorem dX6_hasSealed_51 : decode cX6_hasSealed 51 = .ok (.ireturn, 1) := by decide +kernel
set_option maxRecDepth 20000 in
theorem ggX6_sumOf_Jx4a65c_size_8abf5 : GoodIn wsX6_sumOf wsJx4a65c_size_8abf5 := goodIn_r _ [7, 8, 38, 39, 40] (by decide +kernel) (by decide +kernel)
set_option maxRecDepth 20000 in
theorem gX6_sumOf_Jx4a65c_size_8abf5 : GoodIn wsX6_sumOf (wsV RX6 40 RJx4a65c yJx4a65c_size_8abf5 wsJx4a65c_size_8abf5) := goodIn_app (goodIn_of _ (by decide +kernel)) ggX6_sumOf_Jx4a65c_size_8abf5
set_option maxRecDepth 20000 in
theorem ggX6_sumOf_X6_holds : GoodIn wsX6_sumOf wsX6_holds := goodIn_r _ [12] (by decide +kernel) (by decide +kernel)
set_option maxRecDepth 20000 in
theorem gX6_sumOf_X6_holds : GoodIn wsX6_sumOf (va_wsS RX6 205 yX6_holds wsX6_holds) := goodIn_app (goodIn_of _ (by decide +kernel)) ggX6_sumOf_X6_holds
set_option maxRecDepth 20000 in
theorem ggX6_sumOf_Jx4a65c_get_915e3 : GoodIn wsX6_sumOf wsJx4a65c_get_915e3 := goodIn_r _ [16, 8, 17, 18, 19, 20, 21, 22, 23, 24, 25, 26, 27, 6, 28, 29, 38, 39, 40] (by decide +kernel) (by decide +kernel)
set_option maxRecDepth 20000 in
theorem gX6_sumOf_Jx4a65c_get_915e3 : GoodIn wsX6_sumOf (wsV RX6 68 RJx4a65c yJx4a65c_get_915e3 wsJx4a65c_get_915e3) := goodIn_app (goodIn_of _ (by decide +kernel)) ggX6_sumOf_Jx4a65c_get_915e3
theorem dX6_sumOf_0 : decode cX6_sumOf 0 = .ok (.iconst 0, 1) := by decide +kernel
theorem dX6_sumOf_1 : decode cX6_sumOf 1 = .ok (.istore_n 3, 1) := by decide +kernel
theorem dX6_sumOf_2 : decode cX6_sumOf 2 = .ok (.iconst 0, 1) := by decide +kernel
theorem dX6_sumOf_3 : decode cX6_sumOf 3 = .ok (.istore 4, 2) := by decide +kernel
theorem dX6_sumOf_5 : decode cX6_sumOf 5 = .ok (.iload 4, 2) := by decide +kernel
theorem dX6_sumOf_7 : decode cX6_sumOf 7 = .ok (.aload_n 0, 1) := by decide +kernel
theorem dX6_sumOf_8 : decode cX6_sumOf 8 = .ok (.getfield 10, 3) := by decide +kernel
theorem dX6_sumOf_11 : decode cX6_sumOf 11 = .ok (.invokevirtual 40, 3) := by decide +kernel
theorem dX6_sumOf_14 : decode cX6_sumOf 14 = .ok (.if_icmp .ge 36, 3) := by decide +kernel
theorem dX6_sumOf_17 : decode cX6_sumOf 17 = .ok (.iload_n 1, 1) := by decide +kernel
theorem dX6_sumOf_18 : decode cX6_sumOf 18 = .ok (.iload 4, 2) := by decide +kernel
theorem dX6_sumOf_20 : decode cX6_sumOf 20 = .ok (.invokestatic 205, 3) := by decide +kernel
theorem dX6_sumOf_23 : decode cX6_sumOf 23 = .ok (.ifCond .eq 21, 3) := by decide +kernel
theorem dX6_sumOf_26 : decode cX6_sumOf 26 = .ok (.iload_n 3, 1) := by decide +kernel
theorem dX6_sumOf_27 : decode cX6_sumOf 27 = .ok (.aload_n 0, 1) := by decide +kernel
theorem dX6_sumOf_28 : decode cX6_sumOf 28 = .ok (.getfield 10, 3) := by decide +kernel
theorem dX6_sumOf_31 : decode cX6_sumOf 31 = .ok (.iload 4, 2) := by decide +kernel
theorem dX6_sumOf_33 : decode cX6_sumOf 33 = .ok (.invokevirtual 68, 3) := by decide +kernel
theorem dX6_sumOf_36 : decode cX6_sumOf 36 = .ok (.checkcast 51, 3) := by decide +kernel
theorem dX6_sumOf_39 : decode cX6_sumOf 39 = .ok (.getfield 64, 3) := by decide +kernel
theorem dX6_sumOf_42 : decode cX6_sumOf 42 = .ok (.ixor, 1) := by decide +kernel
theorem dX6_sumOf_43 : decode cX6_sumOf 43 = .ok (.istore_n 3, 1) := by decide +kernel
theorem dX6_sumOf_44 : decode cX6_sumOf 44 = .ok (.iinc 4 1, 3) := by decide +kernel
theorem dX6_sumOf_47 : decode cX6_sumOf 47 = .ok (.goto (-42), 3) := by decide +kernel
theorem dX6_sumOf_50 : decode cX6_sumOf 50 = .ok (.iload_n 2, 1) := by decide +kernel
theorem dX6_sumOf_51 : decode cX6_sumOf 51 = .ok (.iconst (-1), 1) := by decide +kernel
theorem dX6_sumOf_52 : decode cX6_sumOf 52 = .ok (.if_icmp .ne 7, 3) := by decide +kernel
theorem dX6_sumOf_55 : decode cX6_sumOf 55 = .ok (.iload_n 3, 1) := by decide +kernel
theorem dX6_sumOf_56 : decode cX6_sumOf 56 = .ok (.goto 8, 3) := by decide +kernel
theorem dX6_sumOf_59 : decode cX6_sumOf 59 = .ok (.iload_n 3, 1) := by decide +kernel
theorem dX6_sumOf_60 : decode cX6_sumOf 60 = .ok (.iload_n 2, 1) := by decide +kernel
theorem dX6_sumOf_61 : decode cX6_sumOf 61 = .ok (.ishr, 1) := by decide +kernel
theorem dX6_sumOf_62 : decode cX6_sumOf 62 = .ok (.iconst 1, 1) := by decide +kernel
theorem dX6_sumOf_63 : decode cX6_sumOf 63 = .ok (.iand, 1) := by decide +kernel
theorem dX6_sumOf_64 : decode cX6_sumOf 64 = .ok (.ireturn, 1) := by decide +kernel
set_option maxRecDepth 20000 in
theorem ggX6_recall_Jx4a65c_size_8abf5 : GoodIn wsX6_recall wsJx4a65c_size_8abf5 := goodIn_r _ [7, 8, 76, 77, 78] (by decide +kernel) (by decide +kernel)
set_option maxRecDepth 20000 in
theorem gX6_recall_Jx4a65c_size_8abf5 : GoodIn wsX6_recall (wsV RX6 40 RJx4a65c yJx4a65c_size_8abf5 wsJx4a65c_size_8abf5) := goodIn_app (goodIn_of _ (by decide +kernel)) ggX6_recall_Jx4a65c_size_8abf5
set_option maxRecDepth 20000 in
theorem ggX6_recall_Jx4a65c_get_915e3 : GoodIn wsX6_recall wsJx4a65c_get_915e3 := goodIn_r _ [12, 8, 13, 14, 15, 16, 17, 18, 19, 20, 21, 22, 23, 6, 24, 25, 76, 77, 78] (by decide +kernel) (by decide +kernel)
set_option maxRecDepth 20000 in
theorem gX6_recall_Jx4a65c_get_915e3 : GoodIn wsX6_recall (wsV RX6 68 RJx4a65c yJx4a65c_get_915e3 wsJx4a65c_get_915e3) := goodIn_app (goodIn_of _ (by decide +kernel)) ggX6_recall_Jx4a65c_get_915e3
set_option maxRecDepth 20000 in
theorem ggX6_recall_X0_standsFor : GoodIn wsX6_recall wsX0_standsFor := goodIn_r _ [30, 31, 32, 70, 71, 72, 73, 74, 75, 79, 80, 81, 82, 83] (by decide +kernel) (by decide +kernel)
set_option maxRecDepth 20000 in
theorem gX6_recall_X0_standsFor : GoodIn wsX6_recall (wsV RX6 209 RX0 yX0_standsFor wsX0_standsFor) := goodIn_app (goodIn_of _ (by decide +kernel)) ggX6_recall_X0_standsFor
set_option maxRecDepth 20000 in
theorem ggX6_recall_X6_holds : GoodIn wsX6_recall wsX6_holds := goodIn_r _ [36] (by decide +kernel) (by decide +kernel)
set_option maxRecDepth 20000 in
theorem gX6_recall_X6_holds : GoodIn wsX6_recall (va_wsS RX6 205 yX6_holds wsX6_holds) := goodIn_app (goodIn_of _ (by decide +kernel)) ggX6_recall_X6_holds
set_option maxRecDepth 20000 in
theorem ggX6_recall_X6_learnAnew : GoodIn wsX6_recall wsX6_learnAnew := goodIn_r _ [40, 1, 2, 41, 42, 43, 44, 45, 46, 47, 48, 49, 50, 51, 52, 53, 3, 4, 5, 6, 7, 8, 9, 10, 11, 12, 13, 14, 15, 16, 17, 18, 19, 20, 21, 22, 23, 24, 25, 26, 27, 28, 29, 30, 31, 32, 54, 55, 56, 57, 58, 35, 59, 60, 61, 62, 63, 34, 36, 64, 65, 66, 67, 68, 69, 70, 71, 72, 73, 74, 75, 79, 80, 81, 82, 83, 84, 85, 76, 77, 78] (by decide +kernel) (by decide +kernel)
set_option maxRecDepth 20000 in
theorem gX6_recall_X6_learnAnew : GoodIn wsX6_recall (wsV RX6 220 RX6 yX6_learnAnew wsX6_learnAnew) := goodIn_app (goodIn_of _ (by decide +kernel)) ggX6_recall_X6_learnAnew
theorem dX6_recall_0 : decode cX6_recall 0 = .ok (.iconst 0, 1) := by decide +kernel
theorem dX6_recall_1 : decode cX6_recall 1 = .ok (.istore_n 3, 1) := by decide +kernel
theorem dX6_recall_2 : decode cX6_recall 2 = .ok (.iconst 0, 1) := by decide +kernel
theorem dX6_recall_3 : decode cX6_recall 3 = .ok (.istore 4, 2) := by decide +kernel
theorem dX6_recall_5 : decode cX6_recall 5 = .ok (.iload 4, 2) := by decide +kernel
theorem dX6_recall_7 : decode cX6_recall 7 = .ok (.aload_n 0, 1) := by decide +kernel
theorem dX6_recall_8 : decode cX6_recall 8 = .ok (.getfield 19, 3) := by decide +kernel
theorem dX6_recall_11 : decode cX6_recall 11 = .ok (.invokevirtual 40, 3) := by decide +kernel
theorem dX6_recall_14 : decode cX6_recall 14 = .ok (.if_icmp .ge 53, 3) := by decide +kernel
theorem dX6_recall_17 : decode cX6_recall 17 = .ok (.aload_n 0, 1) := by decide +kernel
theorem dX6_recall_18 : decode cX6_recall 18 = .ok (.getfield 19, 3) := by decide +kernel
theorem dX6_recall_21 : decode cX6_recall 21 = .ok (.iload 4, 2) := by decide +kernel
theorem dX6_recall_23 : decode cX6_recall 23 = .ok (.invokevirtual 68, 3) := by decide +kernel
theorem dX6_recall_26 : decode cX6_recall 26 = .ok (.checkcast 129, 3) := by decide +kernel
theorem dX6_recall_29 : decode cX6_recall 29 = .ok (.astore 5, 2) := by decide +kernel
theorem dX6_recall_31 : decode cX6_recall 31 = .ok (.aload 5, 2) := by decide +kernel
theorem dX6_recall_33 : decode cX6_recall 33 = .ok (.aload_n 1, 1) := by decide +kernel
theorem dX6_recall_34 : decode cX6_recall 34 = .ok (.invokevirtual 209, 3) := by decide +kernel
theorem dX6_recall_37 : decode cX6_recall 37 = .ok (.ifCond .eq 24, 3) := by decide +kernel
theorem dX6_recall_40 : decode cX6_recall 40 = .ok (.aload 5, 2) := by decide +kernel
theorem dX6_recall_42 : decode cX6_recall 42 = .ok (.getfield 213, 3) := by decide +kernel
theorem dX6_recall_45 : decode cX6_recall 45 = .ok (.iload_n 2, 1) := by decide +kernel
theorem dX6_recall_46 : decode cX6_recall 46 = .ok (.invokestatic 205, 3) := by decide +kernel
theorem dX6_recall_49 : decode cX6_recall 49 = .ok (.ifCond .eq 12, 3) := by decide +kernel
theorem dX6_recall_52 : decode cX6_recall 52 = .ok (.aload 5, 2) := by decide +kernel
theorem dX6_recall_54 : decode cX6_recall 54 = .ok (.iconst 1, 1) := by decide +kernel
theorem dX6_recall_55 : decode cX6_recall 55 = .ok (.putfield 216, 3) := by decide +kernel
theorem dX6_recall_58 : decode cX6_recall 58 = .ok (.iinc 3 1, 3) := by decide +kernel
theorem dX6_recall_61 : decode cX6_recall 61 = .ok (.iinc 4 1, 3) := by decide +kernel
theorem dX6_recall_64 : decode cX6_recall 64 = .ok (.goto (-59), 3) := by decide +kernel
theorem dX6_recall_67 : decode cX6_recall 67 = .ok (.iload_n 3, 1) := by decide +kernel
theorem dX6_recall_68 : decode cX6_recall 68 = .ok (.ifCond .le 8, 3) := by decide +kernel
theorem dX6_recall_71 : decode cX6_recall 71 = .ok (.aload_n 0, 1) := by decide +kernel
theorem dX6_recall_72 : decode cX6_recall 72 = .ok (.aload_n 1, 1) := by decide +kernel
theorem dX6_recall_73 : decode cX6_recall 73 = .ok (.invokevirtual 220, 3) := by decide +kernel
theorem dX6_recall_76 : decode cX6_recall 76 = .ok (.iload_n 3, 1) := by decide +kernel
theorem dX6_recall_77 : decode cX6_recall 77 = .ok (.ireturn, 1) := by decide +kernel
set_option maxRecDepth 20000 in
theorem ggX6_learnAnew_X4_forget : GoodIn wsX6_learnAnew wsX4_forget := goodIn_r _ [7, 8, 9, 10, 11, 12, 13, 14, 15, 71, 72, 73, 74, 75, 76, 77] (by decide +kernel) (by decide +kernel)
set_option maxRecDepth 20000 in
theorem gX6_learnAnew_X4_forget : GoodIn wsX6_learnAnew (wsV RX6 224 RX4 yX4_forget wsX4_forget) := goodIn_app (goodIn_of _ (by decide +kernel)) ggX6_learnAnew_X4_forget
set_option maxRecDepth 20000 in
theorem ggX6_learnAnew_Jx4a65c_size_8abf5 : GoodIn wsX6_learnAnew wsJx4a65c_size_8abf5 := goodIn_r _ [20, 21, 78, 79, 80] (by decide +kernel) (by decide +kernel)
set_option maxRecDepth 20000 in
theorem gX6_learnAnew_Jx4a65c_size_8abf5 : GoodIn wsX6_learnAnew (wsV RX6 40 RJx4a65c yJx4a65c_size_8abf5 wsJx4a65c_size_8abf5) := goodIn_app (goodIn_of _ (by decide +kernel)) ggX6_learnAnew_Jx4a65c_size_8abf5
set_option maxRecDepth 20000 in
theorem ggX6_learnAnew_Jx4a65c_get_915e3 : GoodIn wsX6_learnAnew wsJx4a65c_get_915e3 := goodIn_r _ [25, 21, 26, 27, 28, 29, 30, 31, 32, 33, 34, 35, 36, 19, 37, 38, 78, 79, 80] (by decide +kernel) (by decide +kernel)
set_option maxRecDepth 20000 in
theorem gX6_learnAnew_Jx4a65c_get_915e3 : GoodIn wsX6_learnAnew (wsV RX6 68 RJx4a65c yJx4a65c_get_915e3 wsJx4a65c_get_915e3) := goodIn_app (goodIn_of _ (by decide +kernel)) ggX6_learnAnew_Jx4a65c_get_915e3
set_option maxRecDepth 20000 in
theorem ggX6_learnAnew_X0_standsFor : GoodIn wsX6_learnAnew wsX0_standsFor := goodIn_r _ [43, 44, 45, 65, 66, 67, 68, 69, 70, 71, 72, 73, 74, 75] (by decide +kernel) (by decide +kernel)
set_option maxRecDepth 20000 in
theorem gX6_learnAnew_X0_standsFor : GoodIn wsX6_learnAnew (wsV RX6 209 RX0 yX0_standsFor wsX0_standsFor) := goodIn_app (goodIn_of _ (by decide +kernel)) ggX6_learnAnew_X0_standsFor
set_option maxRecDepth 20000 in
theorem ggX6_learnAnew_X4_learn : GoodIn wsX6_learnAnew wsX4_learn := goodIn_r _ [49, 8, 50, 51, 52, 53, 54, 55, 12, 56, 14, 15, 57, 58, 71, 72, 73, 74, 75, 76, 77] (by decide +kernel) (by decide +kernel)
set_option maxRecDepth 20000 in
theorem gX6_learnAnew_X4_learn : GoodIn wsX6_learnAnew (wsV RX6 137 RX4 yX4_learn wsX4_learn) := goodIn_app (goodIn_of _ (by decide +kernel)) ggX6_learnAnew_X4_learn
theorem dX6_learnAnew_0 : decode cX6_learnAnew 0 = .ok (.aload_n 1, 1) := by decide +kernel
theorem dX6_learnAnew_1 : decode cX6_learnAnew 1 = .ok (.invokevirtual 224, 3) := by decide +kernel
theorem dX6_learnAnew_4 : decode cX6_learnAnew 4 = .ok (.iconst 0, 1) := by decide +kernel
theorem dX6_learnAnew_5 : decode cX6_learnAnew 5 = .ok (.istore_n 2, 1) := by decide +kernel
theorem dX6_learnAnew_6 : decode cX6_learnAnew 6 = .ok (.iload_n 2, 1) := by decide +kernel
theorem dX6_learnAnew_7 : decode cX6_learnAnew 7 = .ok (.aload_n 0, 1) := by decide +kernel
theorem dX6_learnAnew_8 : decode cX6_learnAnew 8 = .ok (.getfield 19, 3) := by decide +kernel
theorem dX6_learnAnew_11 : decode cX6_learnAnew 11 = .ok (.invokevirtual 40, 3) := by decide +kernel
theorem dX6_learnAnew_14 : decode cX6_learnAnew 14 = .ok (.if_icmp .ge 41, 3) := by decide +kernel
theorem dX6_learnAnew_17 : decode cX6_learnAnew 17 = .ok (.aload_n 0, 1) := by decide +kernel
theorem dX6_learnAnew_18 : decode cX6_learnAnew 18 = .ok (.getfield 19, 3) := by decide +kernel
theorem dX6_learnAnew_21 : decode cX6_learnAnew 21 = .ok (.iload_n 2, 1) := by decide +kernel
theorem dX6_learnAnew_22 : decode cX6_learnAnew 22 = .ok (.invokevirtual 68, 3) := by decide +kernel
theorem dX6_learnAnew_25 : decode cX6_learnAnew 25 = .ok (.checkcast 129, 3) := by decide +kernel
theorem dX6_learnAnew_28 : decode cX6_learnAnew 28 = .ok (.astore_n 3, 1) := by decide +kernel
theorem dX6_learnAnew_29 : decode cX6_learnAnew 29 = .ok (.aload_n 3, 1) := by decide +kernel
theorem dX6_learnAnew_30 : decode cX6_learnAnew 30 = .ok (.aload_n 1, 1) := by decide +kernel
theorem dX6_learnAnew_31 : decode cX6_learnAnew 31 = .ok (.invokevirtual 209, 3) := by decide +kernel
theorem dX6_learnAnew_34 : decode cX6_learnAnew 34 = .ok (.ifCond .eq 15, 3) := by decide +kernel
theorem dX6_learnAnew_37 : decode cX6_learnAnew 37 = .ok (.aload_n 1, 1) := by decide +kernel
theorem dX6_learnAnew_38 : decode cX6_learnAnew 38 = .ok (.aload_n 3, 1) := by decide +kernel
theorem dX6_learnAnew_39 : decode cX6_learnAnew 39 = .ok (.getfield 213, 3) := by decide +kernel
theorem dX6_learnAnew_42 : decode cX6_learnAnew 42 = .ok (.aload_n 3, 1) := by decide +kernel
theorem dX6_learnAnew_43 : decode cX6_learnAnew 43 = .ok (.getfield 227, 3) := by decide +kernel
theorem dX6_learnAnew_46 : decode cX6_learnAnew 46 = .ok (.invokevirtual 137, 3) := by decide +kernel
theorem dX6_learnAnew_49 : decode cX6_learnAnew 49 = .ok (.iinc 2 1, 3) := by decide +kernel
theorem dX6_learnAnew_52 : decode cX6_learnAnew 52 = .ok (.goto (-46), 3) := by decide +kernel
theorem dX6_learnAnew_55 : decode cX6_learnAnew 55 = .ok (.return_, 1) := by decide +kernel
set_option maxRecDepth 20000 in
theorem ggX6_countStanding_Jx4a65c_size_8abf5 : GoodIn wsX6_countStanding wsJx4a65c_size_8abf5 := goodIn_r _ [7, 8, 39, 40, 41] (by decide +kernel) (by decide +kernel)
set_option maxRecDepth 20000 in
theorem gX6_countStanding_Jx4a65c_size_8abf5 : GoodIn wsX6_countStanding (wsV RX6 40 RJx4a65c yJx4a65c_size_8abf5 wsJx4a65c_size_8abf5) := goodIn_app (goodIn_of _ (by decide +kernel)) ggX6_countStanding_Jx4a65c_size_8abf5
set_option maxRecDepth 20000 in
theorem ggX6_countStanding_Jx4a65c_get_915e3 : GoodIn wsX6_countStanding wsJx4a65c_get_915e3 := goodIn_r _ [12, 8, 13, 14, 15, 16, 17, 18, 19, 20, 21, 22, 23, 6, 24, 25, 39, 40, 41] (by decide +kernel) (by decide +kernel)
set_option maxRecDepth 20000 in
theorem gX6_countStanding_Jx4a65c_get_915e3 : GoodIn wsX6_countStanding (wsV RX6 68 RJx4a65c yJx4a65c_get_915e3 wsJx4a65c_get_915e3) := goodIn_app (goodIn_of _ (by decide +kernel)) ggX6_countStanding_Jx4a65c_get_915e3
set_option maxRecDepth 20000 in
theorem ggX6_countStanding_X0_standsFor : GoodIn wsX6_countStanding wsX0_standsFor := goodIn_r _ [30, 31, 32, 42, 43, 44, 45, 46, 47, 48, 49, 50, 51, 52] (by decide +kernel) (by decide +kernel)
set_option maxRecDepth 20000 in
theorem gX6_countStanding_X0_standsFor : GoodIn wsX6_countStanding (wsV RX6 209 RX0 yX0_standsFor wsX0_standsFor) := goodIn_app (goodIn_of _ (by decide +kernel)) ggX6_countStanding_X0_standsFor
theorem dX6_countStanding_0 : decode cX6_countStanding 0 = .ok (.iconst 0, 1) := by decide +kernel
theorem dX6_countStanding_1 : decode cX6_countStanding 1 = .ok (.istore_n 2, 1) := by decide +kernel
theorem dX6_countStanding_2 : decode cX6_countStanding 2 = .ok (.iconst 0, 1) := by decide +kernel
theorem dX6_countStanding_3 : decode cX6_countStanding 3 = .ok (.istore_n 3, 1) := by decide +kernel
theorem dX6_countStanding_4 : decode cX6_countStanding 4 = .ok (.iload_n 3, 1) := by decide +kernel
theorem dX6_countStanding_5 : decode cX6_countStanding 5 = .ok (.aload_n 0, 1) := by decide +kernel
theorem dX6_countStanding_6 : decode cX6_countStanding 6 = .ok (.getfield 19, 3) := by decide +kernel
theorem dX6_countStanding_9 : decode cX6_countStanding 9 = .ok (.invokevirtual 40, 3) := by decide +kernel
theorem dX6_countStanding_12 : decode cX6_countStanding 12 = .ok (.if_icmp .ge 30, 3) := by decide +kernel
theorem dX6_countStanding_15 : decode cX6_countStanding 15 = .ok (.aload_n 0, 1) := by decide +kernel
theorem dX6_countStanding_16 : decode cX6_countStanding 16 = .ok (.getfield 19, 3) := by decide +kernel
theorem dX6_countStanding_19 : decode cX6_countStanding 19 = .ok (.iload_n 3, 1) := by decide +kernel
theorem dX6_countStanding_20 : decode cX6_countStanding 20 = .ok (.invokevirtual 68, 3) := by decide +kernel
theorem dX6_countStanding_23 : decode cX6_countStanding 23 = .ok (.checkcast 129, 3) := by decide +kernel
theorem dX6_countStanding_26 : decode cX6_countStanding 26 = .ok (.aload_n 1, 1) := by decide +kernel
theorem dX6_countStanding_27 : decode cX6_countStanding 27 = .ok (.invokevirtual 209, 3) := by decide +kernel
theorem dX6_countStanding_30 : decode cX6_countStanding 30 = .ok (.ifCond .eq 6, 3) := by decide +kernel
theorem dX6_countStanding_33 : decode cX6_countStanding 33 = .ok (.iinc 2 1, 3) := by decide +kernel
theorem dX6_countStanding_36 : decode cX6_countStanding 36 = .ok (.iinc 3 1, 3) := by decide +kernel
theorem dX6_countStanding_39 : decode cX6_countStanding 39 = .ok (.goto (-35), 3) := by decide +kernel
theorem dX6_countStanding_42 : decode cX6_countStanding 42 = .ok (.iload_n 2, 1) := by decide +kernel
theorem dX6_countStanding_43 : decode cX6_countStanding 43 = .ok (.ireturn, 1) := by decide +kernel
set_option maxRecDepth 20000 in
theorem ggX6_countKnownSets_Jx4a65c_size_8abf5 : GoodIn wsX6_countKnownSets wsJx4a65c_size_8abf5 := goodIn_r _ [9, 10, 90, 91, 92] (by decide +kernel) (by decide +kernel)
set_option maxRecDepth 20000 in
theorem gX6_countKnownSets_Jx4a65c_size_8abf5 : GoodIn wsX6_countKnownSets (wsV RX6 40 RJx4a65c yJx4a65c_size_8abf5 wsJx4a65c_size_8abf5) := goodIn_app (goodIn_of _ (by decide +kernel)) ggX6_countKnownSets_Jx4a65c_size_8abf5
set_option maxRecDepth 20000 in
theorem ggX6_countKnownSets_X3_begin : GoodIn wsX6_countKnownSets wsX3_begin := goodIn_r _ [15, 16, 17, 18, 19, 20, 21, 22, 23, 24, 93, 94] (by decide +kernel) (by decide +kernel)
set_option maxRecDepth 20000 in
theorem gX6_countKnownSets_X3_begin : GoodIn wsX6_countKnownSets (wsV RX6 230 RX3 yX3_begin wsX3_begin) := goodIn_app (goodIn_of _ (by decide +kernel)) ggX6_countKnownSets_X3_begin
set_option maxRecDepth 20000 in
theorem ggX6_countKnownSets_Jx4a65c_get_915e3 : GoodIn wsX6_countKnownSets wsJx4a65c_get_915e3 := goodIn_r _ [28, 10, 29, 30, 31, 32, 33, 34, 35, 36, 37, 38, 39, 8, 40, 41, 90, 91, 92] (by decide +kernel) (by decide +kernel)
set_option maxRecDepth 20000 in
theorem gX6_countKnownSets_Jx4a65c_get_915e3 : GoodIn wsX6_countKnownSets (wsV RX6 68 RJx4a65c yJx4a65c_get_915e3 wsJx4a65c_get_915e3) := goodIn_app (goodIn_of _ (by decide +kernel)) ggX6_countKnownSets_Jx4a65c_get_915e3
set_option maxRecDepth 20000 in
theorem ggX6_countKnownSets_X0_standsFor : GoodIn wsX6_countKnownSets wsX0_standsFor := goodIn_r _ [46, 47, 48, 84, 85, 86, 87, 88, 89, 95, 96, 97, 98, 99] (by decide +kernel) (by decide +kernel)
set_option maxRecDepth 20000 in
theorem gX6_countKnownSets_X0_standsFor : GoodIn wsX6_countKnownSets (wsV RX6 209 RX0 yX0_standsFor wsX0_standsFor) := goodIn_app (goodIn_of _ (by decide +kernel)) ggX6_countKnownSets_X0_standsFor
set_option maxRecDepth 20000 in
theorem ggX6_countKnownSets_X6_covers : GoodIn wsX6_countKnownSets wsX6_covers := goodIn_r _ [52] (by decide +kernel) (by decide +kernel)
set_option maxRecDepth 20000 in
theorem gX6_countKnownSets_X6_covers : GoodIn wsX6_countKnownSets (va_wsS RX6 233 yX6_covers wsX6_covers) := goodIn_app (goodIn_of _ (by decide +kernel)) ggX6_countKnownSets_X6_covers
set_option maxRecDepth 20000 in
theorem ggX6_countKnownSets_X3_add : GoodIn wsX6_countKnownSets wsX3_add := goodIn_r _ [56, 24, 16, 57, 58, 59, 14, 60, 61, 62, 63, 64, 65, 51, 66, 93, 94] (by decide +kernel) (by decide +kernel)
set_option maxRecDepth 20000 in
theorem gX6_countKnownSets_X3_add : GoodIn wsX6_countKnownSets (wsV RX6 236 RX3 yX3_add wsX3_add) := goodIn_app (goodIn_of _ (by decide +kernel)) ggX6_countKnownSets_X3_add
set_option maxRecDepth 20000 in
theorem ggX6_countKnownSets_X3_sets : GoodIn wsX6_countKnownSets wsX3_sets := goodIn_r _ [70, 24, 16, 71, 72, 73, 74, 75, 76, 77, 93, 94] (by decide +kernel) (by decide +kernel)
set_option maxRecDepth 20000 in
theorem gX6_countKnownSets_X3_sets : GoodIn wsX6_countKnownSets (wsV RX6 238 RX3 yX3_sets wsX3_sets) := goodIn_app (goodIn_of _ (by decide +kernel)) ggX6_countKnownSets_X3_sets
theorem dX6_countKnownSets_0 : decode cX6_countKnownSets 0 = .ok (.aload_n 0, 1) := by decide +kernel
theorem dX6_countKnownSets_1 : decode cX6_countKnownSets 1 = .ok (.getfield 32, 3) := by decide +kernel
theorem dX6_countKnownSets_4 : decode cX6_countKnownSets 4 = .ok (.aload_n 0, 1) := by decide +kernel
theorem dX6_countKnownSets_5 : decode cX6_countKnownSets 5 = .ok (.getfield 10, 3) := by decide +kernel
theorem dX6_countKnownSets_8 : decode cX6_countKnownSets 8 = .ok (.invokevirtual 40, 3) := by decide +kernel
theorem dX6_countKnownSets_11 : decode cX6_countKnownSets 11 = .ok (.invokevirtual 230, 3) := by decide +kernel
theorem dX6_countKnownSets_14 : decode cX6_countKnownSets 14 = .ok (.iconst 0, 1) := by decide +kernel
theorem dX6_countKnownSets_15 : decode cX6_countKnownSets 15 = .ok (.istore_n 3, 1) := by decide +kernel
theorem dX6_countKnownSets_16 : decode cX6_countKnownSets 16 = .ok (.iload_n 3, 1) := by decide +kernel
theorem dX6_countKnownSets_17 : decode cX6_countKnownSets 17 = .ok (.aload_n 0, 1) := by decide +kernel
theorem dX6_countKnownSets_18 : decode cX6_countKnownSets 18 = .ok (.getfield 19, 3) := by decide +kernel
theorem dX6_countKnownSets_21 : decode cX6_countKnownSets 21 = .ok (.invokevirtual 40, 3) := by decide +kernel
theorem dX6_countKnownSets_24 : decode cX6_countKnownSets 24 = .ok (.if_icmp .ge 55, 3) := by decide +kernel
theorem dX6_countKnownSets_27 : decode cX6_countKnownSets 27 = .ok (.aload_n 0, 1) := by decide +kernel
theorem dX6_countKnownSets_28 : decode cX6_countKnownSets 28 = .ok (.getfield 19, 3) := by decide +kernel
theorem dX6_countKnownSets_31 : decode cX6_countKnownSets 31 = .ok (.iload_n 3, 1) := by decide +kernel
theorem dX6_countKnownSets_32 : decode cX6_countKnownSets 32 = .ok (.invokevirtual 68, 3) := by decide +kernel
theorem dX6_countKnownSets_35 : decode cX6_countKnownSets 35 = .ok (.checkcast 129, 3) := by decide +kernel
theorem dX6_countKnownSets_38 : decode cX6_countKnownSets 38 = .ok (.astore 4, 2) := by decide +kernel
theorem dX6_countKnownSets_40 : decode cX6_countKnownSets 40 = .ok (.aload 4, 2) := by decide +kernel
theorem dX6_countKnownSets_42 : decode cX6_countKnownSets 42 = .ok (.aload_n 1, 1) := by decide +kernel
theorem dX6_countKnownSets_43 : decode cX6_countKnownSets 43 = .ok (.invokevirtual 209, 3) := by decide +kernel
theorem dX6_countKnownSets_46 : decode cX6_countKnownSets 46 = .ok (.ifCond .eq 27, 3) := by decide +kernel
theorem dX6_countKnownSets_49 : decode cX6_countKnownSets 49 = .ok (.aload 4, 2) := by decide +kernel
theorem dX6_countKnownSets_51 : decode cX6_countKnownSets 51 = .ok (.getfield 227, 3) := by decide +kernel
theorem dX6_countKnownSets_54 : decode cX6_countKnownSets 54 = .ok (.iload_n 2, 1) := by decide +kernel
theorem dX6_countKnownSets_55 : decode cX6_countKnownSets 55 = .ok (.invokestatic 233, 3) := by decide +kernel
theorem dX6_countKnownSets_58 : decode cX6_countKnownSets 58 = .ok (.ifCond .eq 15, 3) := by decide +kernel
theorem dX6_countKnownSets_61 : decode cX6_countKnownSets 61 = .ok (.aload_n 0, 1) := by decide +kernel
theorem dX6_countKnownSets_62 : decode cX6_countKnownSets 62 = .ok (.getfield 32, 3) := by decide +kernel
theorem dX6_countKnownSets_65 : decode cX6_countKnownSets 65 = .ok (.aload 4, 2) := by decide +kernel
theorem dX6_countKnownSets_67 : decode cX6_countKnownSets 67 = .ok (.getfield 213, 3) := by decide +kernel
theorem dX6_countKnownSets_70 : decode cX6_countKnownSets 70 = .ok (.invokevirtual 236, 3) := by decide +kernel
theorem dX6_countKnownSets_73 : decode cX6_countKnownSets 73 = .ok (.iinc 3 1, 3) := by decide +kernel
theorem dX6_countKnownSets_76 : decode cX6_countKnownSets 76 = .ok (.goto (-60), 3) := by decide +kernel
theorem dX6_countKnownSets_79 : decode cX6_countKnownSets 79 = .ok (.aload_n 0, 1) := by decide +kernel
theorem dX6_countKnownSets_80 : decode cX6_countKnownSets 80 = .ok (.getfield 32, 3) := by decide +kernel
theorem dX6_countKnownSets_83 : decode cX6_countKnownSets 83 = .ok (.invokevirtual 238, 3) := by decide +kernel
theorem dX6_countKnownSets_86 : decode cX6_countKnownSets 86 = .ok (.ireturn, 1) := by decide +kernel
theorem dX6_generatorsOf_0 : decode cX6_generatorsOf 0 = .ok (.iconst 0, 1) := by decide +kernel
theorem dX6_generatorsOf_1 : decode cX6_generatorsOf 1 = .ok (.istore_n 1, 1) := by decide +kernel
theorem dX6_generatorsOf_2 : decode cX6_generatorsOf 2 = .ok (.iload_n 0, 1) := by decide +kernel
theorem dX6_generatorsOf_3 : decode cX6_generatorsOf 3 = .ok (.istore_n 2, 1) := by decide +kernel
theorem dX6_generatorsOf_4 : decode cX6_generatorsOf 4 = .ok (.iload_n 2, 1) := by decide +kernel
theorem dX6_generatorsOf_5 : decode cX6_generatorsOf 5 = .ok (.iconst 1, 1) := by decide +kernel
theorem dX6_generatorsOf_6 : decode cX6_generatorsOf 6 = .ok (.if_icmp .le 13, 3) := by decide +kernel
theorem dX6_generatorsOf_9 : decode cX6_generatorsOf 9 = .ok (.iinc 1 1, 3) := by decide +kernel
theorem dX6_generatorsOf_12 : decode cX6_generatorsOf 12 = .ok (.iload_n 2, 1) := by decide +kernel
theorem dX6_generatorsOf_13 : decode cX6_generatorsOf 13 = .ok (.iconst 1, 1) := by decide +kernel
theorem dX6_generatorsOf_14 : decode cX6_generatorsOf 14 = .ok (.ishr, 1) := by decide +kernel
theorem dX6_generatorsOf_15 : decode cX6_generatorsOf 15 = .ok (.istore_n 2, 1) := by decide +kernel
theorem dX6_generatorsOf_16 : decode cX6_generatorsOf 16 = .ok (.goto (-12), 3) := by decide +kernel
theorem dX6_generatorsOf_19 : decode cX6_generatorsOf 19 = .ok (.iload_n 1, 1) := by decide +kernel
theorem dX6_generatorsOf_20 : decode cX6_generatorsOf 20 = .ok (.ireturn, 1) := by decide +kernel
set_option maxRecDepth 20000 in
theorem ggX6_shareKnowledge_X2_forget : GoodIn wsX6_shareKnowledge wsX2_forget := goodIn_r _ [8, 9, 10, 57, 58] (by decide +kernel) (by decide +kernel)
set_option maxRecDepth 20000 in
theorem gX6_shareKnowledge_X2_forget : GoodIn wsX6_shareKnowledge (wsV RX6 241 RX2 yX2_forget wsX2_forget) := goodIn_app (goodIn_of _ (by decide +kernel)) ggX6_shareKnowledge_X2_forget
set_option maxRecDepth 20000 in
theorem ggX6_shareKnowledge_Jx4a65c_size_8abf5 : GoodIn wsX6_shareKnowledge wsJx4a65c_size_8abf5 := goodIn_r _ [15, 16, 59, 60, 61] (by decide +kernel) (by decide +kernel)
set_option maxRecDepth 20000 in
theorem gX6_shareKnowledge_Jx4a65c_size_8abf5 : GoodIn wsX6_shareKnowledge (wsV RX6 40 RJx4a65c yJx4a65c_size_8abf5 wsJx4a65c_size_8abf5) := goodIn_app (goodIn_of _ (by decide +kernel)) ggX6_shareKnowledge_Jx4a65c_size_8abf5
set_option maxRecDepth 20000 in
theorem ggX6_shareKnowledge_Jx4a65c_get_915e3 : GoodIn wsX6_shareKnowledge wsJx4a65c_get_915e3 := goodIn_r _ [20, 16, 21, 22, 23, 24, 25, 26, 27, 28, 29, 30, 31, 14, 32, 33, 59, 60, 61] (by decide +kernel) (by decide +kernel)
set_option maxRecDepth 20000 in
theorem gX6_shareKnowledge_Jx4a65c_get_915e3 : GoodIn wsX6_shareKnowledge (wsV RX6 68 RJx4a65c yJx4a65c_get_915e3 wsJx4a65c_get_915e3) := goodIn_app (goodIn_of _ (by decide +kernel)) ggX6_shareKnowledge_Jx4a65c_get_915e3
set_option maxRecDepth 20000 in
theorem ggX6_shareKnowledge_X6_holds : GoodIn wsX6_shareKnowledge wsX6_holds := goodIn_r _ [37] (by decide +kernel) (by decide +kernel)
set_option maxRecDepth 20000 in
theorem gX6_shareKnowledge_X6_holds : GoodIn wsX6_shareKnowledge (va_wsS RX6 205 yX6_holds wsX6_holds) := goodIn_app (goodIn_of _ (by decide +kernel)) ggX6_shareKnowledge_X6_holds
set_option maxRecDepth 20000 in
theorem ggX6_shareKnowledge_X2_learnFrom : GoodIn wsX6_shareKnowledge wsX2_learnFrom := goodIn_r _ [41, 9, 42, 43, 44, 7, 45, 10, 35, 36, 37, 57, 58] (by decide +kernel) (by decide +kernel)
set_option maxRecDepth 20000 in
theorem gX6_shareKnowledge_X2_learnFrom : GoodIn wsX6_shareKnowledge (wsV RX6 242 RX2 yX2_learnFrom wsX2_learnFrom) := goodIn_app (goodIn_of _ (by decide +kernel)) ggX6_shareKnowledge_X2_learnFrom
theorem dX6_shareKnowledge_0 : decode cX6_shareKnowledge 0 = .ok (.aload_n 0, 1) := by decide +kernel
theorem dX6_shareKnowledge_1 : decode cX6_shareKnowledge 1 = .ok (.getfield 25, 3) := by decide +kernel
theorem dX6_shareKnowledge_4 : decode cX6_shareKnowledge 4 = .ok (.invokevirtual 241, 3) := by decide +kernel
theorem dX6_shareKnowledge_7 : decode cX6_shareKnowledge 7 = .ok (.iconst 0, 1) := by decide +kernel
theorem dX6_shareKnowledge_8 : decode cX6_shareKnowledge 8 = .ok (.istore_n 3, 1) := by decide +kernel
theorem dX6_shareKnowledge_9 : decode cX6_shareKnowledge 9 = .ok (.iload_n 3, 1) := by decide +kernel
theorem dX6_shareKnowledge_10 : decode cX6_shareKnowledge 10 = .ok (.aload_n 0, 1) := by decide +kernel
theorem dX6_shareKnowledge_11 : decode cX6_shareKnowledge 11 = .ok (.getfield 16, 3) := by decide +kernel
theorem dX6_shareKnowledge_14 : decode cX6_shareKnowledge 14 = .ok (.invokevirtual 40, 3) := by decide +kernel
theorem dX6_shareKnowledge_17 : decode cX6_shareKnowledge 17 = .ok (.if_icmp .ge 54, 3) := by decide +kernel
theorem dX6_shareKnowledge_20 : decode cX6_shareKnowledge 20 = .ok (.aload_n 0, 1) := by decide +kernel
theorem dX6_shareKnowledge_21 : decode cX6_shareKnowledge 21 = .ok (.getfield 16, 3) := by decide +kernel
theorem dX6_shareKnowledge_24 : decode cX6_shareKnowledge 24 = .ok (.iload_n 3, 1) := by decide +kernel
theorem dX6_shareKnowledge_25 : decode cX6_shareKnowledge 25 = .ok (.invokevirtual 68, 3) := by decide +kernel
theorem dX6_shareKnowledge_28 : decode cX6_shareKnowledge 28 = .ok (.checkcast 72, 3) := by decide +kernel
theorem dX6_shareKnowledge_31 : decode cX6_shareKnowledge 31 = .ok (.astore 4, 2) := by decide +kernel
theorem dX6_shareKnowledge_33 : decode cX6_shareKnowledge 33 = .ok (.iload_n 1, 1) := by decide +kernel
theorem dX6_shareKnowledge_34 : decode cX6_shareKnowledge 34 = .ok (.iload_n 3, 1) := by decide +kernel
theorem dX6_shareKnowledge_35 : decode cX6_shareKnowledge 35 = .ok (.invokestatic 205, 3) := by decide +kernel
theorem dX6_shareKnowledge_38 : decode cX6_shareKnowledge 38 = .ok (.ifCond .eq 27, 3) := by decide +kernel
theorem dX6_shareKnowledge_41 : decode cX6_shareKnowledge 41 = .ok (.iload_n 2, 1) := by decide +kernel
theorem dX6_shareKnowledge_42 : decode cX6_shareKnowledge 42 = .ok (.aload 4, 2) := by decide +kernel
theorem dX6_shareKnowledge_44 : decode cX6_shareKnowledge 44 = .ok (.getfield 161, 3) := by decide +kernel
theorem dX6_shareKnowledge_47 : decode cX6_shareKnowledge 47 = .ok (.arraylength, 1) := by decide +kernel
theorem dX6_shareKnowledge_48 : decode cX6_shareKnowledge 48 = .ok (.if_icmp .ge 17, 3) := by decide +kernel
theorem dX6_shareKnowledge_51 : decode cX6_shareKnowledge 51 = .ok (.aload_n 0, 1) := by decide +kernel
theorem dX6_shareKnowledge_52 : decode cX6_shareKnowledge 52 = .ok (.getfield 25, 3) := by decide +kernel
theorem dX6_shareKnowledge_55 : decode cX6_shareKnowledge 55 = .ok (.aload 4, 2) := by decide +kernel
theorem dX6_shareKnowledge_57 : decode cX6_shareKnowledge 57 = .ok (.getfield 161, 3) := by decide +kernel
theorem dX6_shareKnowledge_60 : decode cX6_shareKnowledge 60 = .ok (.iload_n 2, 1) := by decide +kernel
theorem dX6_shareKnowledge_61 : decode cX6_shareKnowledge 61 = .ok (.aaload, 1) := by decide +kernel
theorem dX6_shareKnowledge_62 : decode cX6_shareKnowledge 62 = .ok (.invokevirtual 242, 3) := by decide +kernel
theorem dX6_shareKnowledge_65 : decode cX6_shareKnowledge 65 = .ok (.iinc 3 1, 3) := by decide +kernel
theorem dX6_shareKnowledge_68 : decode cX6_shareKnowledge 68 = .ok (.goto (-59), 3) := by decide +kernel
theorem dX6_shareKnowledge_71 : decode cX6_shareKnowledge 71 = .ok (.return_, 1) := by decide +kernel
end
section
theorem dX7_init_0 : decode cX7_init 0 = .ok (.aload_n 0, 1) := by decide +kernel
theorem dX7_init_1 : decode cX7_init 1 = .ok (.invokespecial 1, 3) := by decide +kernel
theorem dX7_init_4 : decode cX7_init 4 = .ok (.aload_n 0, 1) := by decide +kernel
theorem dX7_init_5 : decode cX7_init 5 = .ok (.bipush 16, 2) := by decide +kernel
theorem dX7_init_7 : decode cX7_init 7 = .ok (.newarray .int, 2) := by decide +kernel
theorem dX7_init_9 : decode cX7_init 9 = .ok (.putfield 7, 3) := by decide +kernel
theorem dX7_init_12 : decode cX7_init 12 = .ok (.aload_n 0, 1) := by decide +kernel
theorem dX7_init_13 : decode cX7_init 13 = .ok (.bipush 16, 2) := by decide +kernel
theorem dX7_init_15 : decode cX7_init 15 = .ok (.newarray .int, 2) := by decide +kernel
theorem dX7_init_17 : decode cX7_init 17 = .ok (.dup, 1) := by decide +kernel
theorem dX7_init_18 : decode cX7_init 18 = .ok (.iconst 0, 1) := by decide +kernel
theorem dX7_init_19 : decode cX7_init 19 = .ok (.iconst (-1), 1) := by decide +kernel
theorem dX7_init_20 : decode cX7_init 20 = .ok (.iastore, 1) := by decide +kernel
theorem dX7_init_21 : decode cX7_init 21 = .ok (.dup, 1) := by decide +kernel
theorem dX7_init_22 : decode cX7_init 22 = .ok (.iconst 1, 1) := by decide +kernel
theorem dX7_init_23 : decode cX7_init 23 = .ok (.iconst (-1), 1) := by decide +kernel
theorem dX7_init_24 : decode cX7_init 24 = .ok (.iastore, 1) := by decide +kernel
theorem dX7_init_25 : decode cX7_init 25 = .ok (.dup, 1) := by decide +kernel
theorem dX7_init_26 : decode cX7_init 26 = .ok (.iconst 2, 1) := by decide +kernel
theorem dX7_init_27 : decode cX7_init 27 = .ok (.iconst (-1), 1) := by decide +kernel
theorem dX7_init_28 : decode cX7_init 28 = .ok (.iastore, 1) := by decide +kernel
theorem dX7_init_29 : decode cX7_init 29 = .ok (.dup, 1) := by decide +kernel
theorem dX7_init_30 : decode cX7_init 30 = .ok (.iconst 3, 1) := by decide +kernel
theorem dX7_init_31 : decode cX7_init 31 = .ok (.iconst (-1), 1) := by decide +kernel
theorem dX7_init_32 : decode cX7_init 32 = .ok (.iastore, 1) := by decide +kernel
theorem dX7_init_33 : decode cX7_init 33 = .ok (.dup, 1) := by decide +kernel
theorem dX7_init_34 : decode cX7_init 34 = .ok (.iconst 4, 1) := by decide +kernel
theorem dX7_init_35 : decode cX7_init 35 = .ok (.iconst (-1), 1) := by decide +kernel
theorem dX7_init_36 : decode cX7_init 36 = .ok (.iastore, 1) := by decide +kernel
theorem dX7_init_37 : decode cX7_init 37 = .ok (.dup, 1) := by decide +kernel
theorem dX7_init_38 : decode cX7_init 38 = .ok (.iconst 5, 1) := by decide +kernel
theorem dX7_init_39 : decode cX7_init 39 = .ok (.iconst (-1), 1) := by decide +kernel
theorem dX7_init_40 : decode cX7_init 40 = .ok (.iastore, 1) := by decide +kernel
theorem dX7_init_41 : decode cX7_init 41 = .ok (.dup, 1) := by decide +kernel
theorem dX7_init_42 : decode cX7_init 42 = .ok (.bipush 6, 2) := by decide +kernel
theorem dX7_init_44 : decode cX7_init 44 = .ok (.iconst (-1), 1) := by decide +kernel
theorem dX7_init_45 : decode cX7_init 45 = .ok (.iastore, 1) := by decide +kernel
theorem dX7_init_46 : decode cX7_init 46 = .ok (.dup, 1) := by decide +kernel
theorem dX7_init_47 : decode cX7_init 47 = .ok (.bipush 7, 2) := by decide +kernel
theorem dX7_init_49 : decode cX7_init 49 = .ok (.iconst (-1), 1) := by decide +kernel
theorem dX7_init_50 : decode cX7_init 50 = .ok (.iastore, 1) := by decide +kernel
theorem dX7_init_51 : decode cX7_init 51 = .ok (.dup, 1) := by decide +kernel
theorem dX7_init_52 : decode cX7_init 52 = .ok (.bipush 8, 2) := by decide +kernel
theorem dX7_init_54 : decode cX7_init 54 = .ok (.iconst (-1), 1) := by decide +kernel
theorem dX7_init_55 : decode cX7_init 55 = .ok (.iastore, 1) := by decide +kernel
theorem dX7_init_56 : decode cX7_init 56 = .ok (.dup, 1) := by decide +kernel
theorem dX7_init_57 : decode cX7_init 57 = .ok (.bipush 9, 2) := by decide +kernel
theorem dX7_init_59 : decode cX7_init 59 = .ok (.iconst (-1), 1) := by decide +kernel
theorem dX7_init_60 : decode cX7_init 60 = .ok (.iastore, 1) := by decide +kernel
theorem dX7_init_61 : decode cX7_init 61 = .ok (.dup, 1) := by decide +kernel
theorem dX7_init_62 : decode cX7_init 62 = .ok (.bipush 10, 2) := by decide +kernel
theorem dX7_init_64 : decode cX7_init 64 = .ok (.iconst (-1), 1) := by decide +kernel
theorem dX7_init_65 : decode cX7_init 65 = .ok (.iastore, 1) := by decide +kernel
theorem dX7_init_66 : decode cX7_init 66 = .ok (.dup, 1) := by decide +kernel
theorem dX7_init_67 : decode cX7_init 67 = .ok (.bipush 11, 2) := by decide +kernel
theorem dX7_init_69 : decode cX7_init 69 = .ok (.iconst (-1), 1) := by decide +kernel
theorem dX7_init_70 : decode cX7_init 70 = .ok (.iastore, 1) := by decide +kernel
theorem dX7_init_71 : decode cX7_init 71 = .ok (.dup, 1) := by decide +kernel
theorem dX7_init_72 : decode cX7_init 72 = .ok (.bipush 12, 2) := by decide +kernel
theorem dX7_init_74 : decode cX7_init 74 = .ok (.iconst (-1), 1) := by decide +kernel
theorem dX7_init_75 : decode cX7_init 75 = .ok (.iastore, 1) := by decide +kernel
theorem dX7_init_76 : decode cX7_init 76 = .ok (.dup, 1) := by decide +kernel
theorem dX7_init_77 : decode cX7_init 77 = .ok (.bipush 13, 2) := by decide +kernel
theorem dX7_init_79 : decode cX7_init 79 = .ok (.iconst (-1), 1) := by decide +kernel
theorem dX7_init_80 : decode cX7_init 80 = .ok (.iastore, 1) := by decide +kernel
theorem dX7_init_81 : decode cX7_init 81 = .ok (.dup, 1) := by decide +kernel
theorem dX7_init_82 : decode cX7_init 82 = .ok (.bipush 14, 2) := by decide +kernel
theorem dX7_init_84 : decode cX7_init 84 = .ok (.iconst (-1), 1) := by decide +kernel
theorem dX7_init_85 : decode cX7_init 85 = .ok (.iastore, 1) := by decide +kernel
theorem dX7_init_86 : decode cX7_init 86 = .ok (.dup, 1) := by decide +kernel
theorem dX7_init_87 : decode cX7_init 87 = .ok (.bipush 15, 2) := by decide +kernel
theorem dX7_init_89 : decode cX7_init 89 = .ok (.iconst (-1), 1) := by decide +kernel
theorem dX7_init_90 : decode cX7_init 90 = .ok (.iastore, 1) := by decide +kernel
theorem dX7_init_91 : decode cX7_init 91 = .ok (.putfield 13, 3) := by decide +kernel
theorem dX7_init_94 : decode cX7_init 94 = .ok (.aload_n 0, 1) := by decide +kernel
theorem dX7_init_95 : decode cX7_init 95 = .ok (.bipush 6, 2) := by decide +kernel
theorem dX7_init_97 : decode cX7_init 97 = .ok (.newarray .int, 2) := by decide +kernel
theorem dX7_init_99 : decode cX7_init 99 = .ok (.putfield 16, 3) := by decide +kernel
theorem dX7_init_102 : decode cX7_init 102 = .ok (.aload_n 0, 1) := by decide +kernel
theorem dX7_init_103 : decode cX7_init 103 = .ok (.bipush 96, 2) := by decide +kernel
theorem dX7_init_105 : decode cX7_init 105 = .ok (.newarray .int, 2) := by decide +kernel
theorem dX7_init_107 : decode cX7_init 107 = .ok (.putfield 19, 3) := by decide +kernel
theorem dX7_init_110 : decode cX7_init 110 = .ok (.aload_n 0, 1) := by decide +kernel
theorem dX7_init_111 : decode cX7_init 111 = .ok (.bipush 96, 2) := by decide +kernel
theorem dX7_init_113 : decode cX7_init 113 = .ok (.newarray .int, 2) := by decide +kernel
theorem dX7_init_115 : decode cX7_init 115 = .ok (.putfield 22, 3) := by decide +kernel
theorem dX7_init_118 : decode cX7_init 118 = .ok (.aload_n 0, 1) := by decide +kernel
theorem dX7_init_119 : decode cX7_init 119 = .ok (.bipush 96, 2) := by decide +kernel
theorem dX7_init_121 : decode cX7_init 121 = .ok (.newarray .int, 2) := by decide +kernel
theorem dX7_init_123 : decode cX7_init 123 = .ok (.putfield 25, 3) := by decide +kernel
theorem dX7_init_126 : decode cX7_init 126 = .ok (.aload_n 0, 1) := by decide +kernel
theorem dX7_init_127 : decode cX7_init 127 = .ok (.sipush 150, 3) := by decide +kernel
theorem dX7_init_130 : decode cX7_init 130 = .ok (.newarray .int, 2) := by decide +kernel
theorem dX7_init_132 : decode cX7_init 132 = .ok (.putfield 28, 3) := by decide +kernel
theorem dX7_init_135 : decode cX7_init 135 = .ok (.aload_n 0, 1) := by decide +kernel
theorem dX7_init_136 : decode cX7_init 136 = .ok (.sipush 150, 3) := by decide +kernel
theorem dX7_init_139 : decode cX7_init 139 = .ok (.newarray .int, 2) := by decide +kernel
theorem dX7_init_141 : decode cX7_init 141 = .ok (.putfield 31, 3) := by decide +kernel
theorem dX7_init_144 : decode cX7_init 144 = .ok (.aload_n 0, 1) := by decide +kernel
theorem dX7_init_145 : decode cX7_init 145 = .ok (.sipush 150, 3) := by decide +kernel
theorem dX7_init_148 : decode cX7_init 148 = .ok (.newarray .int, 2) := by decide +kernel
theorem dX7_init_150 : decode cX7_init 150 = .ok (.putfield 34, 3) := by decide +kernel
theorem dX7_init_153 : decode cX7_init 153 = .ok (.aload_n 0, 1) := by decide +kernel
theorem dX7_init_154 : decode cX7_init 154 = .ok (.sipush 150, 3) := by decide +kernel
theorem dX7_init_157 : decode cX7_init 157 = .ok (.newarray .int, 2) := by decide +kernel
theorem dX7_init_159 : decode cX7_init 159 = .ok (.putfield 37, 3) := by decide +kernel
theorem dX7_init_162 : decode cX7_init 162 = .ok (.aload_n 0, 1) := by decide +kernel
theorem dX7_init_163 : decode cX7_init 163 = .ok (.sipush 150, 3) := by decide +kernel
theorem dX7_init_166 : decode cX7_init 166 = .ok (.newarray .int, 2) := by decide +kernel
theorem dX7_init_168 : decode cX7_init 168 = .ok (.putfield 40, 3) := by decide +kernel
theorem dX7_init_171 : decode cX7_init 171 = .ok (.aload_n 0, 1) := by decide +kernel
theorem dX7_init_172 : decode cX7_init 172 = .ok (.sipush 150, 3) := by decide +kernel
theorem dX7_init_175 : decode cX7_init 175 = .ok (.newarray .boolean, 2) := by decide +kernel
theorem dX7_init_177 : decode cX7_init 177 = .ok (.putfield 43, 3) := by decide +kernel
theorem dX7_init_180 : decode cX7_init 180 = .ok (.aload_n 0, 1) := by decide +kernel
theorem dX7_init_181 : decode cX7_init 181 = .ok (.bipush 36, 2) := by decide +kernel
theorem dX7_init_183 : decode cX7_init 183 = .ok (.newarray .int, 2) := by decide +kernel
theorem dX7_init_185 : decode cX7_init 185 = .ok (.putfield 47, 3) := by decide +kernel
theorem dX7_init_188 : decode cX7_init 188 = .ok (.aload_n 0, 1) := by decide +kernel
theorem dX7_init_189 : decode cX7_init 189 = .ok (.bipush 16, 2) := by decide +kernel
theorem dX7_init_191 : decode cX7_init 191 = .ok (.newarray .int, 2) := by decide +kernel
theorem dX7_init_193 : decode cX7_init 193 = .ok (.putfield 50, 3) := by decide +kernel
theorem dX7_init_196 : decode cX7_init 196 = .ok (.return_, 1) := by decide +kernel
theorem dX7_thrown_0 : decode cX7_thrown 0 = .ok (.aload_n 0, 1) := by decide +kernel
theorem dX7_thrown_1 : decode cX7_thrown 1 = .ok (.getfield 53, 3) := by decide +kernel
theorem dX7_thrown_4 : decode cX7_thrown 4 = .ok (.ireturn, 1) := by decide +kernel
theorem dX7_goesWell_0 : decode cX7_goesWell 0 = .ok (.aload_n 0, 1) := by decide +kernel
theorem dX7_goesWell_1 : decode cX7_goesWell 1 = .ok (.iload_n 1, 1) := by decide +kernel
theorem dX7_goesWell_2 : decode cX7_goesWell 2 = .ok (.putfield 53, 3) := by decide +kernel
theorem dX7_goesWell_5 : decode cX7_goesWell 5 = .ok (.iload_n 1, 1) := by decide +kernel
theorem dX7_goesWell_6 : decode cX7_goesWell 6 = .ok (.ifCond .ne 7, 3) := by decide +kernel
theorem dX7_goesWell_9 : decode cX7_goesWell 9 = .ok (.iconst 1, 1) := by decide +kernel
theorem dX7_goesWell_10 : decode cX7_goesWell 10 = .ok (.goto 4, 3) := by decide +kernel
theorem dX7_goesWell_13 : decode cX7_goesWell 13 = .ok (.iconst 0, 1) := by decide +kernel
theorem dX7_goesWell_14 : decode cX7_goesWell 14 = .ok (.ireturn, 1) := by decide +kernel
theorem dX7_in_0 : decode cX7_in 0 = .ok (.iload_n 0, 1) := by decide +kernel
theorem dX7_in_1 : decode cX7_in 1 = .ok (.iload_n 1, 1) := by decide +kernel
theorem dX7_in_2 : decode cX7_in 2 = .ok (.if_icmp .lt 12, 3) := by decide +kernel
theorem dX7_in_5 : decode cX7_in 5 = .ok (.iload_n 0, 1) := by decide +kernel
theorem dX7_in_6 : decode cX7_in 6 = .ok (.iload_n 2, 1) := by decide +kernel
theorem dX7_in_7 : decode cX7_in 7 = .ok (.if_icmp .gt 7, 3) := by decide +kernel
theorem dX7_in_10 : decode cX7_in 10 = .ok (.iconst 1, 1) := by decide +kernel
theorem dX7_in_11 : decode cX7_in 11 = .ok (.goto 4, 3) := by decide +kernel
theorem dX7_in_14 : decode cX7_in 14 = .ok (.iconst 0, 1) := by decide +kernel
theorem dX7_in_15 : decode cX7_in 15 = .ok (.ireturn, 1) := by decide +kernel
set_option maxRecDepth 20000 in
theorem ggX7_isFile_X7_in : GoodIn wsX7_isFile wsX7_in := goodIn_r _ [5] (by decide +kernel) (by decide +kernel)
set_option maxRecDepth 20000 in
theorem gX7_isFile_X7_in : GoodIn wsX7_isFile (va_wsS RX7 60 yX7_in wsX7_in) := goodIn_app (goodIn_of _ (by decide +kernel)) ggX7_isFile_X7_in
theorem dX7_isFile_0 : decode cX7_isFile 0 = .ok (.iload_n 1, 1) := by decide +kernel
theorem dX7_isFile_1 : decode cX7_isFile 1 = .ok (.iconst 0, 1) := by decide +kernel
theorem dX7_isFile_2 : decode cX7_isFile 2 = .ok (.aload_n 0, 1) := by decide +kernel
theorem dX7_isFile_3 : decode cX7_isFile 3 = .ok (.getfield 57, 3) := by decide +kernel
theorem dX7_isFile_6 : decode cX7_isFile 6 = .ok (.iconst 1, 1) := by decide +kernel
theorem dX7_isFile_7 : decode cX7_isFile 7 = .ok (.isub, 1) := by decide +kernel
theorem dX7_isFile_8 : decode cX7_isFile 8 = .ok (.invokestatic 60, 3) := by decide +kernel
theorem dX7_isFile_11 : decode cX7_isFile 11 = .ok (.ireturn, 1) := by decide +kernel
set_option maxRecDepth 20000 in
theorem ggX7_isParty_X7_in : GoodIn wsX7_isParty wsX7_in := goodIn_r _ [5] (by decide +kernel) (by decide +kernel)
set_option maxRecDepth 20000 in
theorem gX7_isParty_X7_in : GoodIn wsX7_isParty (va_wsS RX7 60 yX7_in wsX7_in) := goodIn_app (goodIn_of _ (by decide +kernel)) ggX7_isParty_X7_in
theorem dX7_isParty_0 : decode cX7_isParty 0 = .ok (.iload_n 1, 1) := by decide +kernel
theorem dX7_isParty_1 : decode cX7_isParty 1 = .ok (.iconst 0, 1) := by decide +kernel
theorem dX7_isParty_2 : decode cX7_isParty 2 = .ok (.aload_n 0, 1) := by decide +kernel
theorem dX7_isParty_3 : decode cX7_isParty 3 = .ok (.getfield 64, 3) := by decide +kernel
theorem dX7_isParty_6 : decode cX7_isParty 6 = .ok (.iconst 1, 1) := by decide +kernel
theorem dX7_isParty_7 : decode cX7_isParty 7 = .ok (.isub, 1) := by decide +kernel
theorem dX7_isParty_8 : decode cX7_isParty 8 = .ok (.invokestatic 60, 3) := by decide +kernel
theorem dX7_isParty_11 : decode cX7_isParty 11 = .ok (.ireturn, 1) := by decide +kernel
set_option maxRecDepth 20000 in
theorem ggX7_file_X7_in : GoodIn wsX7_file wsX7_in := goodIn_r _ [6] (by decide +kernel) (by decide +kernel)
set_option maxRecDepth 20000 in
theorem gX7_file_X7_in : GoodIn wsX7_file (va_wsS RX7 60 yX7_in wsX7_in) := goodIn_app (goodIn_of _ (by decide +kernel)) ggX7_file_X7_in
set_option maxRecDepth 20000 in
theorem ggX7_file_X7_goesWell : GoodIn wsX7_file wsX7_goesWell := goodIn_r _ [10, 11, 12, 13, 14, 15, 16, 17, 18, 19, 20, 21, 22, 23, 24, 25, 26, 27, 28, 29, 30] (by decide +kernel) (by decide +kernel)
set_option maxRecDepth 20000 in
theorem gX7_file_X7_goesWell : GoodIn wsX7_file (wsV RX7 67 RX7 yX7_goesWell wsX7_goesWell) := goodIn_app (goodIn_of _ (by decide +kernel)) ggX7_file_X7_goesWell
theorem dX7_file_0 : decode cX7_file 0 = .ok (.iload_n 1, 1) := by decide +kernel
theorem dX7_file_1 : decode cX7_file 1 = .ok (.iconst 0, 1) := by decide +kernel
theorem dX7_file_2 : decode cX7_file 2 = .ok (.sipush 255, 3) := by decide +kernel
theorem dX7_file_5 : decode cX7_file 5 = .ok (.invokestatic 60, 3) := by decide +kernel
theorem dX7_file_8 : decode cX7_file 8 = .ok (.istore_n 2, 1) := by decide +kernel
theorem dX7_file_9 : decode cX7_file 9 = .ok (.aload_n 0, 1) := by decide +kernel
theorem dX7_file_10 : decode cX7_file 10 = .ok (.iload_n 2, 1) := by decide +kernel
theorem dX7_file_11 : decode cX7_file 11 = .ok (.ifCond .ne 7, 3) := by decide +kernel
theorem dX7_file_14 : decode cX7_file 14 = .ok (.iconst 1, 1) := by decide +kernel
theorem dX7_file_15 : decode cX7_file 15 = .ok (.goto 17, 3) := by decide +kernel
theorem dX7_file_18 : decode cX7_file 18 = .ok (.aload_n 0, 1) := by decide +kernel
theorem dX7_file_19 : decode cX7_file 19 = .ok (.getfield 57, 3) := by decide +kernel
theorem dX7_file_22 : decode cX7_file 22 = .ok (.bipush 16, 2) := by decide +kernel
theorem dX7_file_24 : decode cX7_file 24 = .ok (.if_icmp .ne 7, 3) := by decide +kernel
theorem dX7_file_27 : decode cX7_file 27 = .ok (.iconst 2, 1) := by decide +kernel
theorem dX7_file_28 : decode cX7_file 28 = .ok (.goto 4, 3) := by decide +kernel
theorem dX7_file_31 : decode cX7_file 31 = .ok (.iconst 0, 1) := by decide +kernel
theorem dX7_file_32 : decode cX7_file 32 = .ok (.invokevirtual 67, 3) := by decide +kernel
theorem dX7_file_35 : decode cX7_file 35 = .ok (.ifCond .ne 5, 3) := by decide +kernel
theorem dX7_file_38 : decode cX7_file 38 = .ok (.iconst 0, 1) := by decide +kernel
theorem dX7_file_39 : decode cX7_file 39 = .ok (.ireturn, 1) := by decide +kernel
theorem dX7_file_40 : decode cX7_file 40 = .ok (.aload_n 0, 1) := by decide +kernel
theorem dX7_file_41 : decode cX7_file 41 = .ok (.getfield 7, 3) := by decide +kernel
theorem dX7_file_44 : decode cX7_file 44 = .ok (.aload_n 0, 1) := by decide +kernel
theorem dX7_file_45 : decode cX7_file 45 = .ok (.getfield 57, 3) := by decide +kernel
theorem dX7_file_48 : decode cX7_file 48 = .ok (.iload_n 1, 1) := by decide +kernel
theorem dX7_file_49 : decode cX7_file 49 = .ok (.iastore, 1) := by decide +kernel
theorem dX7_file_50 : decode cX7_file 50 = .ok (.aload_n 0, 1) := by decide +kernel
theorem dX7_file_51 : decode cX7_file 51 = .ok (.dup, 1) := by decide +kernel
theorem dX7_file_52 : decode cX7_file 52 = .ok (.getfield 57, 3) := by decide +kernel
theorem dX7_file_55 : decode cX7_file 55 = .ok (.iconst 1, 1) := by decide +kernel
theorem dX7_file_56 : decode cX7_file 56 = .ok (.iadd, 1) := by decide +kernel
theorem dX7_file_57 : decode cX7_file 57 = .ok (.putfield 57, 3) := by decide +kernel
theorem dX7_file_60 : decode cX7_file 60 = .ok (.aload_n 0, 1) := by decide +kernel
theorem dX7_file_61 : decode cX7_file 61 = .ok (.getfield 57, 3) := by decide +kernel
theorem dX7_file_64 : decode cX7_file 64 = .ok (.iconst 1, 1) := by decide +kernel
theorem dX7_file_65 : decode cX7_file 65 = .ok (.isub, 1) := by decide +kernel
theorem dX7_file_66 : decode cX7_file 66 = .ok (.ireturn, 1) := by decide +kernel
theorem dX7_recall_0 : decode cX7_recall 0 = .ok (.iconst 0, 1) := by decide +kernel
theorem dX7_recall_1 : decode cX7_recall 1 = .ok (.istore_n 3, 1) := by decide +kernel
theorem dX7_recall_2 : decode cX7_recall 2 = .ok (.iconst 0, 1) := by decide +kernel
theorem dX7_recall_3 : decode cX7_recall 3 = .ok (.istore 4, 2) := by decide +kernel
theorem dX7_recall_5 : decode cX7_recall 5 = .ok (.iload 4, 2) := by decide +kernel
theorem dX7_recall_7 : decode cX7_recall 7 = .ok (.aload_n 0, 1) := by decide +kernel
theorem dX7_recall_8 : decode cX7_recall 8 = .ok (.getfield 71, 3) := by decide +kernel
theorem dX7_recall_11 : decode cX7_recall 11 = .ok (.if_icmp .ge 97, 3) := by decide +kernel
theorem dX7_recall_14 : decode cX7_recall 14 = .ok (.aload_n 0, 1) := by decide +kernel
theorem dX7_recall_15 : decode cX7_recall 15 = .ok (.getfield 43, 3) := by decide +kernel
theorem dX7_recall_18 : decode cX7_recall 18 = .ok (.iload 4, 2) := by decide +kernel
theorem dX7_recall_20 : decode cX7_recall 20 = .ok (.baload, 1) := by decide +kernel
theorem dX7_recall_21 : decode cX7_recall 21 = .ok (.ifCond .ne 38, 3) := by decide +kernel
theorem dX7_recall_24 : decode cX7_recall 24 = .ok (.aload_n 0, 1) := by decide +kernel
theorem dX7_recall_25 : decode cX7_recall 25 = .ok (.getfield 31, 3) := by decide +kernel
theorem dX7_recall_28 : decode cX7_recall 28 = .ok (.iload 4, 2) := by decide +kernel
theorem dX7_recall_30 : decode cX7_recall 30 = .ok (.iaload, 1) := by decide +kernel
theorem dX7_recall_31 : decode cX7_recall 31 = .ok (.iload_n 1, 1) := by decide +kernel
theorem dX7_recall_32 : decode cX7_recall 32 = .ok (.ishr, 1) := by decide +kernel
theorem dX7_recall_33 : decode cX7_recall 33 = .ok (.iconst 1, 1) := by decide +kernel
theorem dX7_recall_34 : decode cX7_recall 34 = .ok (.iand, 1) := by decide +kernel
theorem dX7_recall_35 : decode cX7_recall 35 = .ok (.iconst 1, 1) := by decide +kernel
theorem dX7_recall_36 : decode cX7_recall 36 = .ok (.if_icmp .ne 23, 3) := by decide +kernel
theorem dX7_recall_39 : decode cX7_recall 39 = .ok (.iload_n 2, 1) := by decide +kernel
theorem dX7_recall_40 : decode cX7_recall 40 = .ok (.iconst (-1), 1) := by decide +kernel
theorem dX7_recall_41 : decode cX7_recall 41 = .ok (.if_icmp .eq 14, 3) := by decide +kernel
theorem dX7_recall_44 : decode cX7_recall 44 = .ok (.aload_n 0, 1) := by decide +kernel
theorem dX7_recall_45 : decode cX7_recall 45 = .ok (.getfield 28, 3) := by decide +kernel
theorem dX7_recall_48 : decode cX7_recall 48 = .ok (.iload 4, 2) := by decide +kernel
theorem dX7_recall_50 : decode cX7_recall 50 = .ok (.iaload, 1) := by decide +kernel
theorem dX7_recall_51 : decode cX7_recall 51 = .ok (.iload_n 2, 1) := by decide +kernel
theorem dX7_recall_52 : decode cX7_recall 52 = .ok (.if_icmp .ne 7, 3) := by decide +kernel
theorem dX7_recall_55 : decode cX7_recall 55 = .ok (.iconst 1, 1) := by decide +kernel
theorem dX7_recall_56 : decode cX7_recall 56 = .ok (.goto 4, 3) := by decide +kernel
theorem dX7_recall_59 : decode cX7_recall 59 = .ok (.iconst 0, 1) := by decide +kernel
theorem dX7_recall_60 : decode cX7_recall 60 = .ok (.istore 5, 2) := by decide +kernel
theorem dX7_recall_62 : decode cX7_recall 62 = .ok (.aload_n 0, 1) := by decide +kernel
theorem dX7_recall_63 : decode cX7_recall 63 = .ok (.getfield 43, 3) := by decide +kernel
theorem dX7_recall_66 : decode cX7_recall 66 = .ok (.iload 4, 2) := by decide +kernel
theorem dX7_recall_68 : decode cX7_recall 68 = .ok (.aload_n 0, 1) := by decide +kernel
theorem dX7_recall_69 : decode cX7_recall 69 = .ok (.getfield 43, 3) := by decide +kernel
theorem dX7_recall_72 : decode cX7_recall 72 = .ok (.iload 4, 2) := by decide +kernel
theorem dX7_recall_74 : decode cX7_recall 74 = .ok (.baload, 1) := by decide +kernel
theorem dX7_recall_75 : decode cX7_recall 75 = .ok (.ifCond .ne 8, 3) := by decide +kernel
theorem dX7_recall_78 : decode cX7_recall 78 = .ok (.iload 5, 2) := by decide +kernel
theorem dX7_recall_80 : decode cX7_recall 80 = .ok (.ifCond .eq 7, 3) := by decide +kernel
theorem dX7_recall_83 : decode cX7_recall 83 = .ok (.iconst 1, 1) := by decide +kernel
theorem dX7_recall_84 : decode cX7_recall 84 = .ok (.goto 4, 3) := by decide +kernel
theorem dX7_recall_87 : decode cX7_recall 87 = .ok (.iconst 0, 1) := by decide +kernel
theorem dX7_recall_88 : decode cX7_recall 88 = .ok (.bastore, 1) := by decide +kernel
theorem dX7_recall_89 : decode cX7_recall 89 = .ok (.iload_n 3, 1) := by decide +kernel
theorem dX7_recall_90 : decode cX7_recall 90 = .ok (.iload 5, 2) := by decide +kernel
theorem dX7_recall_92 : decode cX7_recall 92 = .ok (.ifCond .eq 7, 3) := by decide +kernel
theorem dX7_recall_95 : decode cX7_recall 95 = .ok (.iconst 1, 1) := by decide +kernel
theorem dX7_recall_96 : decode cX7_recall 96 = .ok (.goto 4, 3) := by decide +kernel
theorem dX7_recall_99 : decode cX7_recall 99 = .ok (.iconst 0, 1) := by decide +kernel
theorem dX7_recall_100 : decode cX7_recall 100 = .ok (.iadd, 1) := by decide +kernel
theorem dX7_recall_101 : decode cX7_recall 101 = .ok (.istore_n 3, 1) := by decide +kernel
theorem dX7_recall_102 : decode cX7_recall 102 = .ok (.iinc 4 1, 3) := by decide +kernel
theorem dX7_recall_105 : decode cX7_recall 105 = .ok (.goto (-100), 3) := by decide +kernel
theorem dX7_recall_108 : decode cX7_recall 108 = .ok (.iload_n 3, 1) := by decide +kernel
theorem dX7_recall_109 : decode cX7_recall 109 = .ok (.ireturn, 1) := by decide +kernel
set_option maxRecDepth 20000 in
theorem ggX7_change_X7_isFile : GoodIn wsX7_change wsX7_isFile := goodIn_r _ [6, 7, 8, 9, 5, 10, 24, 25, 26, 27, 28, 29, 30, 31, 32, 33, 34, 35, 36, 37, 38, 39, 40, 41, 42] (by decide +kernel) (by decide +kernel)
set_option maxRecDepth 20000 in
theorem gX7_change_X7_isFile : GoodIn wsX7_change (wsV RX7 74 RX7 yX7_isFile wsX7_isFile) := goodIn_app (goodIn_of _ (by decide +kernel)) ggX7_change_X7_isFile
set_option maxRecDepth 20000 in
theorem ggX7_change_X7_in : GoodIn wsX7_change wsX7_in := goodIn_r _ [10] (by decide +kernel) (by decide +kernel)
set_option maxRecDepth 20000 in
theorem gX7_change_X7_in : GoodIn wsX7_change (va_wsS RX7 60 yX7_in wsX7_in) := goodIn_app (goodIn_of _ (by decide +kernel)) ggX7_change_X7_in
set_option maxRecDepth 20000 in
theorem ggX7_change_X7_goesWell : GoodIn wsX7_change wsX7_goesWell := goodIn_r _ [14, 15, 24, 25, 26, 27, 28, 29, 30, 31, 32, 33, 34, 35, 36, 37, 38, 39, 40, 41, 42] (by decide +kernel) (by decide +kernel)
set_option maxRecDepth 20000 in
theorem gX7_change_X7_goesWell : GoodIn wsX7_change (wsV RX7 67 RX7 yX7_goesWell wsX7_goesWell) := goodIn_app (goodIn_of _ (by decide +kernel)) ggX7_change_X7_goesWell
set_option maxRecDepth 20000 in
theorem ggX7_change_X7_recall : GoodIn wsX7_change wsX7_recall := goodIn_r _ [19, 20, 21, 22, 23, 24, 25, 26, 27, 28, 29, 30, 31, 32, 33, 34, 35, 36, 37, 38, 39, 40, 41, 42] (by decide +kernel) (by decide +kernel)
set_option maxRecDepth 20000 in
theorem gX7_change_X7_recall : GoodIn wsX7_change (wsV RX7 77 RX7 yX7_recall wsX7_recall) := goodIn_app (goodIn_of _ (by decide +kernel)) ggX7_change_X7_recall
theorem dX7_change_0 : decode cX7_change 0 = .ok (.aload_n 0, 1) := by decide +kernel
theorem dX7_change_1 : decode cX7_change 1 = .ok (.iload_n 1, 1) := by decide +kernel
theorem dX7_change_2 : decode cX7_change 2 = .ok (.invokevirtual 74, 3) := by decide +kernel
theorem dX7_change_5 : decode cX7_change 5 = .ok (.istore_n 3, 1) := by decide +kernel
theorem dX7_change_6 : decode cX7_change 6 = .ok (.aload_n 0, 1) := by decide +kernel
theorem dX7_change_7 : decode cX7_change 7 = .ok (.iload_n 3, 1) := by decide +kernel
theorem dX7_change_8 : decode cX7_change 8 = .ok (.ifCond .ne 7, 3) := by decide +kernel
theorem dX7_change_11 : decode cX7_change 11 = .ok (.iconst 1, 1) := by decide +kernel
theorem dX7_change_12 : decode cX7_change 12 = .ok (.goto 19, 3) := by decide +kernel
theorem dX7_change_15 : decode cX7_change 15 = .ok (.iload_n 2, 1) := by decide +kernel
theorem dX7_change_16 : decode cX7_change 16 = .ok (.iconst 0, 1) := by decide +kernel
theorem dX7_change_17 : decode cX7_change 17 = .ok (.sipush 255, 3) := by decide +kernel
theorem dX7_change_20 : decode cX7_change 20 = .ok (.invokestatic 60, 3) := by decide +kernel
theorem dX7_change_23 : decode cX7_change 23 = .ok (.ifCond .eq 7, 3) := by decide +kernel
theorem dX7_change_26 : decode cX7_change 26 = .ok (.iconst 0, 1) := by decide +kernel
theorem dX7_change_27 : decode cX7_change 27 = .ok (.goto 4, 3) := by decide +kernel
theorem dX7_change_30 : decode cX7_change 30 = .ok (.iconst 2, 1) := by decide +kernel
theorem dX7_change_31 : decode cX7_change 31 = .ok (.invokevirtual 67, 3) := by decide +kernel
theorem dX7_change_34 : decode cX7_change 34 = .ok (.ifCond .ne 5, 3) := by decide +kernel
theorem dX7_change_37 : decode cX7_change 37 = .ok (.iconst 0, 1) := by decide +kernel
theorem dX7_change_38 : decode cX7_change 38 = .ok (.ireturn, 1) := by decide +kernel
theorem dX7_change_39 : decode cX7_change 39 = .ok (.aload_n 0, 1) := by decide +kernel
theorem dX7_change_40 : decode cX7_change 40 = .ok (.getfield 7, 3) := by decide +kernel
theorem dX7_change_43 : decode cX7_change 43 = .ok (.iload_n 1, 1) := by decide +kernel
theorem dX7_change_44 : decode cX7_change 44 = .ok (.iload_n 2, 1) := by decide +kernel
theorem dX7_change_45 : decode cX7_change 45 = .ok (.iastore, 1) := by decide +kernel
theorem dX7_change_46 : decode cX7_change 46 = .ok (.aload_n 0, 1) := by decide +kernel
theorem dX7_change_47 : decode cX7_change 47 = .ok (.iload_n 1, 1) := by decide +kernel
theorem dX7_change_48 : decode cX7_change 48 = .ok (.iconst (-1), 1) := by decide +kernel
theorem dX7_change_49 : decode cX7_change 49 = .ok (.invokevirtual 77, 3) := by decide +kernel
theorem dX7_change_52 : decode cX7_change 52 = .ok (.ireturn, 1) := by decide +kernel
set_option maxRecDepth 20000 in
theorem ggX7_party_X7_in : GoodIn wsX7_party wsX7_in := goodIn_r _ [6] (by decide +kernel) (by decide +kernel)
set_option maxRecDepth 20000 in
theorem gX7_party_X7_in : GoodIn wsX7_party (va_wsS RX7 60 yX7_in wsX7_in) := goodIn_app (goodIn_of _ (by decide +kernel)) ggX7_party_X7_in
set_option maxRecDepth 20000 in
theorem ggX7_party_X7_goesWell : GoodIn wsX7_party wsX7_goesWell := goodIn_r _ [10, 11, 12, 13, 14, 15, 16, 17, 18, 19, 20, 21, 22, 23, 24, 25, 26, 27, 28, 29, 30] (by decide +kernel) (by decide +kernel)
set_option maxRecDepth 20000 in
theorem gX7_party_X7_goesWell : GoodIn wsX7_party (wsV RX7 67 RX7 yX7_goesWell wsX7_goesWell) := goodIn_app (goodIn_of _ (by decide +kernel)) ggX7_party_X7_goesWell
theorem dX7_party_0 : decode cX7_party 0 = .ok (.iload_n 1, 1) := by decide +kernel
theorem dX7_party_1 : decode cX7_party 1 = .ok (.iconst 0, 1) := by decide +kernel
theorem dX7_party_2 : decode cX7_party 2 = .ok (.sipush 128, 3) := by decide +kernel
theorem dX7_party_5 : decode cX7_party 5 = .ok (.invokestatic 60, 3) := by decide +kernel
theorem dX7_party_8 : decode cX7_party 8 = .ok (.istore_n 2, 1) := by decide +kernel
theorem dX7_party_9 : decode cX7_party 9 = .ok (.aload_n 0, 1) := by decide +kernel
theorem dX7_party_10 : decode cX7_party 10 = .ok (.iload_n 2, 1) := by decide +kernel
theorem dX7_party_11 : decode cX7_party 11 = .ok (.ifCond .ne 7, 3) := by decide +kernel
theorem dX7_party_14 : decode cX7_party 14 = .ok (.iconst 1, 1) := by decide +kernel
theorem dX7_party_15 : decode cX7_party 15 = .ok (.goto 17, 3) := by decide +kernel
theorem dX7_party_18 : decode cX7_party 18 = .ok (.aload_n 0, 1) := by decide +kernel
theorem dX7_party_19 : decode cX7_party 19 = .ok (.getfield 64, 3) := by decide +kernel
theorem dX7_party_22 : decode cX7_party 22 = .ok (.bipush 6, 2) := by decide +kernel
theorem dX7_party_24 : decode cX7_party 24 = .ok (.if_icmp .ne 7, 3) := by decide +kernel
theorem dX7_party_27 : decode cX7_party 27 = .ok (.iconst 2, 1) := by decide +kernel
theorem dX7_party_28 : decode cX7_party 28 = .ok (.goto 4, 3) := by decide +kernel
theorem dX7_party_31 : decode cX7_party 31 = .ok (.iconst 0, 1) := by decide +kernel
theorem dX7_party_32 : decode cX7_party 32 = .ok (.invokevirtual 67, 3) := by decide +kernel
theorem dX7_party_35 : decode cX7_party 35 = .ok (.ifCond .ne 5, 3) := by decide +kernel
theorem dX7_party_38 : decode cX7_party 38 = .ok (.iconst 0, 1) := by decide +kernel
theorem dX7_party_39 : decode cX7_party 39 = .ok (.ireturn, 1) := by decide +kernel
theorem dX7_party_40 : decode cX7_party 40 = .ok (.aload_n 0, 1) := by decide +kernel
theorem dX7_party_41 : decode cX7_party 41 = .ok (.getfield 16, 3) := by decide +kernel
theorem dX7_party_44 : decode cX7_party 44 = .ok (.aload_n 0, 1) := by decide +kernel
theorem dX7_party_45 : decode cX7_party 45 = .ok (.getfield 64, 3) := by decide +kernel
theorem dX7_party_48 : decode cX7_party 48 = .ok (.iload_n 1, 1) := by decide +kernel
theorem dX7_party_49 : decode cX7_party 49 = .ok (.iastore, 1) := by decide +kernel
theorem dX7_party_50 : decode cX7_party 50 = .ok (.aload_n 0, 1) := by decide +kernel
theorem dX7_party_51 : decode cX7_party 51 = .ok (.dup, 1) := by decide +kernel
theorem dX7_party_52 : decode cX7_party 52 = .ok (.getfield 64, 3) := by decide +kernel
theorem dX7_party_55 : decode cX7_party 55 = .ok (.iconst 1, 1) := by decide +kernel
theorem dX7_party_56 : decode cX7_party 56 = .ok (.iadd, 1) := by decide +kernel
theorem dX7_party_57 : decode cX7_party 57 = .ok (.putfield 64, 3) := by decide +kernel
theorem dX7_party_60 : decode cX7_party 60 = .ok (.aload_n 0, 1) := by decide +kernel
theorem dX7_party_61 : decode cX7_party 61 = .ok (.getfield 64, 3) := by decide +kernel
theorem dX7_party_64 : decode cX7_party 64 = .ok (.iconst 1, 1) := by decide +kernel
theorem dX7_party_65 : decode cX7_party 65 = .ok (.isub, 1) := by decide +kernel
theorem dX7_party_66 : decode cX7_party 66 = .ok (.ireturn, 1) := by decide +kernel
set_option maxRecDepth 20000 in
theorem ggX7_budget_X7_isParty : GoodIn wsX7_budget wsX7_isParty := goodIn_r _ [6, 7, 8, 9, 5, 10, 16, 17, 18, 19, 20, 21, 22, 23, 24, 25, 26, 27, 28, 29, 30, 31, 32, 33, 34] (by decide +kernel) (by decide +kernel)
set_option maxRecDepth 20000 in
theorem gX7_budget_X7_isParty : GoodIn wsX7_budget (wsV RX7 81 RX7 yX7_isParty wsX7_isParty) := goodIn_app (goodIn_of _ (by decide +kernel)) ggX7_budget_X7_isParty
set_option maxRecDepth 20000 in
theorem ggX7_budget_X7_in : GoodIn wsX7_budget wsX7_in := goodIn_r _ [10] (by decide +kernel) (by decide +kernel)
set_option maxRecDepth 20000 in
theorem gX7_budget_X7_in : GoodIn wsX7_budget (va_wsS RX7 60 yX7_in wsX7_in) := goodIn_app (goodIn_of _ (by decide +kernel)) ggX7_budget_X7_in
set_option maxRecDepth 20000 in
theorem ggX7_budget_X7_goesWell : GoodIn wsX7_budget wsX7_goesWell := goodIn_r _ [14, 15, 16, 17, 18, 19, 20, 21, 22, 23, 24, 25, 26, 27, 28, 29, 30, 31, 32, 33, 34] (by decide +kernel) (by decide +kernel)
set_option maxRecDepth 20000 in
theorem gX7_budget_X7_goesWell : GoodIn wsX7_budget (wsV RX7 67 RX7 yX7_goesWell wsX7_goesWell) := goodIn_app (goodIn_of _ (by decide +kernel)) ggX7_budget_X7_goesWell
theorem dX7_budget_0 : decode cX7_budget 0 = .ok (.aload_n 0, 1) := by decide +kernel
theorem dX7_budget_1 : decode cX7_budget 1 = .ok (.iload_n 1, 1) := by decide +kernel
theorem dX7_budget_2 : decode cX7_budget 2 = .ok (.invokevirtual 81, 3) := by decide +kernel
theorem dX7_budget_5 : decode cX7_budget 5 = .ok (.istore_n 3, 1) := by decide +kernel
theorem dX7_budget_6 : decode cX7_budget 6 = .ok (.aload_n 0, 1) := by decide +kernel
theorem dX7_budget_7 : decode cX7_budget 7 = .ok (.iload_n 3, 1) := by decide +kernel
theorem dX7_budget_8 : decode cX7_budget 8 = .ok (.ifCond .ne 7, 3) := by decide +kernel
theorem dX7_budget_11 : decode cX7_budget 11 = .ok (.iconst 1, 1) := by decide +kernel
theorem dX7_budget_12 : decode cX7_budget 12 = .ok (.goto 19, 3) := by decide +kernel
theorem dX7_budget_15 : decode cX7_budget 15 = .ok (.iload_n 2, 1) := by decide +kernel
theorem dX7_budget_16 : decode cX7_budget 16 = .ok (.iconst 0, 1) := by decide +kernel
theorem dX7_budget_17 : decode cX7_budget 17 = .ok (.sipush 128, 3) := by decide +kernel
theorem dX7_budget_20 : decode cX7_budget 20 = .ok (.invokestatic 60, 3) := by decide +kernel
theorem dX7_budget_23 : decode cX7_budget 23 = .ok (.ifCond .eq 7, 3) := by decide +kernel
theorem dX7_budget_26 : decode cX7_budget 26 = .ok (.iconst 0, 1) := by decide +kernel
theorem dX7_budget_27 : decode cX7_budget 27 = .ok (.goto 4, 3) := by decide +kernel
theorem dX7_budget_30 : decode cX7_budget 30 = .ok (.iconst 2, 1) := by decide +kernel
theorem dX7_budget_31 : decode cX7_budget 31 = .ok (.invokevirtual 67, 3) := by decide +kernel
theorem dX7_budget_34 : decode cX7_budget 34 = .ok (.ifCond .ne 5, 3) := by decide +kernel
theorem dX7_budget_37 : decode cX7_budget 37 = .ok (.iconst 0, 1) := by decide +kernel
theorem dX7_budget_38 : decode cX7_budget 38 = .ok (.ireturn, 1) := by decide +kernel
theorem dX7_budget_39 : decode cX7_budget 39 = .ok (.aload_n 0, 1) := by decide +kernel
theorem dX7_budget_40 : decode cX7_budget 40 = .ok (.getfield 16, 3) := by decide +kernel
theorem dX7_budget_43 : decode cX7_budget 43 = .ok (.iload_n 1, 1) := by decide +kernel
theorem dX7_budget_44 : decode cX7_budget 44 = .ok (.iaload, 1) := by decide +kernel
theorem dX7_budget_45 : decode cX7_budget 45 = .ok (.istore 4, 2) := by decide +kernel
theorem dX7_budget_47 : decode cX7_budget 47 = .ok (.aload_n 0, 1) := by decide +kernel
theorem dX7_budget_48 : decode cX7_budget 48 = .ok (.getfield 16, 3) := by decide +kernel
theorem dX7_budget_51 : decode cX7_budget 51 = .ok (.iload_n 1, 1) := by decide +kernel
theorem dX7_budget_52 : decode cX7_budget 52 = .ok (.iload_n 2, 1) := by decide +kernel
theorem dX7_budget_53 : decode cX7_budget 53 = .ok (.iastore, 1) := by decide +kernel
theorem dX7_budget_54 : decode cX7_budget 54 = .ok (.iload 4, 2) := by decide +kernel
theorem dX7_budget_56 : decode cX7_budget 56 = .ok (.ireturn, 1) := by decide +kernel
set_option maxRecDepth 20000 in
theorem ggX7_right_X7_isParty : GoodIn wsX7_right wsX7_isParty := goodIn_r _ [8, 9, 10, 11, 7, 12, 23, 24, 25, 26, 27, 28, 29, 30, 31, 32, 33, 34, 35, 36, 37, 38, 39, 40, 41] (by decide +kernel) (by decide +kernel)
set_option maxRecDepth 20000 in
theorem gX7_right_X7_isParty : GoodIn wsX7_right (wsV RX7 81 RX7 yX7_isParty wsX7_isParty) := goodIn_app (goodIn_of _ (by decide +kernel)) ggX7_right_X7_isParty
set_option maxRecDepth 20000 in
theorem ggX7_right_X7_isFile : GoodIn wsX7_right wsX7_isFile := goodIn_r _ [16, 17, 10, 11, 7, 12, 23, 24, 25, 26, 27, 28, 29, 30, 31, 32, 33, 34, 35, 36, 37, 38, 39, 40, 41] (by decide +kernel) (by decide +kernel)
set_option maxRecDepth 20000 in
theorem gX7_right_X7_isFile : GoodIn wsX7_right (wsV RX7 74 RX7 yX7_isFile wsX7_isFile) := goodIn_app (goodIn_of _ (by decide +kernel)) ggX7_right_X7_isFile
set_option maxRecDepth 20000 in
theorem ggX7_right_X7_in : GoodIn wsX7_right wsX7_in := goodIn_r _ [12] (by decide +kernel) (by decide +kernel)
set_option maxRecDepth 20000 in
theorem gX7_right_X7_in : GoodIn wsX7_right (va_wsS RX7 60 yX7_in wsX7_in) := goodIn_app (goodIn_of _ (by decide +kernel)) ggX7_right_X7_in
set_option maxRecDepth 20000 in
theorem ggX7_right_X7_goesWell : GoodIn wsX7_right wsX7_goesWell := goodIn_r _ [21, 22, 23, 24, 25, 26, 27, 28, 29, 30, 31, 32, 33, 34, 35, 36, 37, 38, 39, 40, 41] (by decide +kernel) (by decide +kernel)
set_option maxRecDepth 20000 in
theorem gX7_right_X7_goesWell : GoodIn wsX7_right (wsV RX7 67 RX7 yX7_goesWell wsX7_goesWell) := goodIn_app (goodIn_of _ (by decide +kernel)) ggX7_right_X7_goesWell
theorem dX7_right_0 : decode cX7_right 0 = .ok (.aload_n 0, 1) := by decide +kernel
theorem dX7_right_1 : decode cX7_right 1 = .ok (.iload_n 1, 1) := by decide +kernel
theorem dX7_right_2 : decode cX7_right 2 = .ok (.invokevirtual 81, 3) := by decide +kernel
theorem dX7_right_5 : decode cX7_right 5 = .ok (.ifCond .eq 15, 3) := by decide +kernel
theorem dX7_right_8 : decode cX7_right 8 = .ok (.aload_n 0, 1) := by decide +kernel
theorem dX7_right_9 : decode cX7_right 9 = .ok (.iload_n 2, 1) := by decide +kernel
theorem dX7_right_10 : decode cX7_right 10 = .ok (.invokevirtual 74, 3) := by decide +kernel
theorem dX7_right_13 : decode cX7_right 13 = .ok (.ifCond .eq 7, 3) := by decide +kernel
theorem dX7_right_16 : decode cX7_right 16 = .ok (.iconst 1, 1) := by decide +kernel
theorem dX7_right_17 : decode cX7_right 17 = .ok (.goto 4, 3) := by decide +kernel
theorem dX7_right_20 : decode cX7_right 20 = .ok (.iconst 0, 1) := by decide +kernel
theorem dX7_right_21 : decode cX7_right 21 = .ok (.istore 6, 2) := by decide +kernel
theorem dX7_right_23 : decode cX7_right 23 = .ok (.iload_n 3, 1) := by decide +kernel
theorem dX7_right_24 : decode cX7_right 24 = .ok (.iconst 1, 1) := by decide +kernel
theorem dX7_right_25 : decode cX7_right 25 = .ok (.iconst 2, 1) := by decide +kernel
theorem dX7_right_26 : decode cX7_right 26 = .ok (.invokestatic 60, 3) := by decide +kernel
theorem dX7_right_29 : decode cX7_right 29 = .ok (.ifCond .eq 32, 3) := by decide +kernel
theorem dX7_right_32 : decode cX7_right 32 = .ok (.iload 4, 2) := by decide +kernel
theorem dX7_right_34 : decode cX7_right 34 = .ok (.iconst 0, 1) := by decide +kernel
theorem dX7_right_35 : decode cX7_right 35 = .ok (.sipush 5000, 3) := by decide +kernel
theorem dX7_right_38 : decode cX7_right 38 = .ok (.invokestatic 60, 3) := by decide +kernel
theorem dX7_right_41 : decode cX7_right 41 = .ok (.ifCond .eq 20, 3) := by decide +kernel
theorem dX7_right_44 : decode cX7_right 44 = .ok (.iload 5, 2) := by decide +kernel
theorem dX7_right_46 : decode cX7_right 46 = .ok (.iload 4, 2) := by decide +kernel
theorem dX7_right_48 : decode cX7_right 48 = .ok (.sipush 5000, 3) := by decide +kernel
theorem dX7_right_51 : decode cX7_right 51 = .ok (.invokestatic 60, 3) := by decide +kernel
theorem dX7_right_54 : decode cX7_right 54 = .ok (.ifCond .eq 7, 3) := by decide +kernel
theorem dX7_right_57 : decode cX7_right 57 = .ok (.iconst 1, 1) := by decide +kernel
theorem dX7_right_58 : decode cX7_right 58 = .ok (.goto 4, 3) := by decide +kernel
theorem dX7_right_61 : decode cX7_right 61 = .ok (.iconst 0, 1) := by decide +kernel
theorem dX7_right_62 : decode cX7_right 62 = .ok (.istore 7, 2) := by decide +kernel
theorem dX7_right_64 : decode cX7_right 64 = .ok (.aload_n 0, 1) := by decide +kernel
theorem dX7_right_65 : decode cX7_right 65 = .ok (.iload 6, 2) := by decide +kernel
theorem dX7_right_67 : decode cX7_right 67 = .ok (.ifCond .ne 7, 3) := by decide +kernel
theorem dX7_right_70 : decode cX7_right 70 = .ok (.iconst 1, 1) := by decide +kernel
theorem dX7_right_71 : decode cX7_right 71 = .ok (.goto 13, 3) := by decide +kernel
theorem dX7_right_74 : decode cX7_right 74 = .ok (.iload 7, 2) := by decide +kernel
theorem dX7_right_76 : decode cX7_right 76 = .ok (.ifCond .eq 7, 3) := by decide +kernel
theorem dX7_right_79 : decode cX7_right 79 = .ok (.iconst 0, 1) := by decide +kernel
theorem dX7_right_80 : decode cX7_right 80 = .ok (.goto 4, 3) := by decide +kernel
theorem dX7_right_83 : decode cX7_right 83 = .ok (.iconst 2, 1) := by decide +kernel
theorem dX7_right_84 : decode cX7_right 84 = .ok (.invokevirtual 67, 3) := by decide +kernel
theorem dX7_right_87 : decode cX7_right 87 = .ok (.ifCond .eq 41, 3) := by decide +kernel
theorem dX7_right_90 : decode cX7_right 90 = .ok (.aload_n 0, 1) := by decide +kernel
theorem dX7_right_91 : decode cX7_right 91 = .ok (.getfield 19, 3) := by decide +kernel
theorem dX7_right_94 : decode cX7_right 94 = .ok (.bipush 16, 2) := by decide +kernel
theorem dX7_right_96 : decode cX7_right 96 = .ok (.iload_n 1, 1) := by decide +kernel
theorem dX7_right_97 : decode cX7_right 97 = .ok (.imul, 1) := by decide +kernel
theorem dX7_right_98 : decode cX7_right 98 = .ok (.iload_n 2, 1) := by decide +kernel
theorem dX7_right_99 : decode cX7_right 99 = .ok (.iadd, 1) := by decide +kernel
theorem dX7_right_100 : decode cX7_right 100 = .ok (.iload_n 3, 1) := by decide +kernel
theorem dX7_right_101 : decode cX7_right 101 = .ok (.iastore, 1) := by decide +kernel
theorem dX7_right_102 : decode cX7_right 102 = .ok (.aload_n 0, 1) := by decide +kernel
theorem dX7_right_103 : decode cX7_right 103 = .ok (.getfield 22, 3) := by decide +kernel
theorem dX7_right_106 : decode cX7_right 106 = .ok (.bipush 16, 2) := by decide +kernel
theorem dX7_right_108 : decode cX7_right 108 = .ok (.iload_n 1, 1) := by decide +kernel
theorem dX7_right_109 : decode cX7_right 109 = .ok (.imul, 1) := by decide +kernel
theorem dX7_right_110 : decode cX7_right 110 = .ok (.iload_n 2, 1) := by decide +kernel
theorem dX7_right_111 : decode cX7_right 111 = .ok (.iadd, 1) := by decide +kernel
theorem dX7_right_112 : decode cX7_right 112 = .ok (.iload 4, 2) := by decide +kernel
theorem dX7_right_114 : decode cX7_right 114 = .ok (.iastore, 1) := by decide +kernel
theorem dX7_right_115 : decode cX7_right 115 = .ok (.aload_n 0, 1) := by decide +kernel
theorem dX7_right_116 : decode cX7_right 116 = .ok (.getfield 25, 3) := by decide +kernel
theorem dX7_right_119 : decode cX7_right 119 = .ok (.bipush 16, 2) := by decide +kernel
theorem dX7_right_121 : decode cX7_right 121 = .ok (.iload_n 1, 1) := by decide +kernel
theorem dX7_right_122 : decode cX7_right 122 = .ok (.imul, 1) := by decide +kernel
theorem dX7_right_123 : decode cX7_right 123 = .ok (.iload_n 2, 1) := by decide +kernel
theorem dX7_right_124 : decode cX7_right 124 = .ok (.iadd, 1) := by decide +kernel
theorem dX7_right_125 : decode cX7_right 125 = .ok (.iload 5, 2) := by decide +kernel
theorem dX7_right_127 : decode cX7_right 127 = .ok (.iastore, 1) := by decide +kernel
theorem dX7_right_128 : decode cX7_right 128 = .ok (.return_, 1) := by decide +kernel
set_option maxRecDepth 20000 in
theorem ggX7_takeBack_X7_isParty : GoodIn wsX7_takeBack wsX7_isParty := goodIn_r _ [6, 7, 8, 9, 5, 10, 29, 30, 31, 32, 33, 34, 35, 36, 37, 38, 39, 40, 41, 42, 43, 44, 45, 46, 47] (by decide +kernel) (by decide +kernel)
set_option maxRecDepth 20000 in
theorem gX7_takeBack_X7_isParty : GoodIn wsX7_takeBack (wsV RX7 81 RX7 yX7_isParty wsX7_isParty) := goodIn_app (goodIn_of _ (by decide +kernel)) ggX7_takeBack_X7_isParty
set_option maxRecDepth 20000 in
theorem ggX7_takeBack_X7_isFile : GoodIn wsX7_takeBack wsX7_isFile := goodIn_r _ [14, 15, 8, 9, 5, 10, 29, 30, 31, 32, 33, 34, 35, 36, 37, 38, 39, 40, 41, 42, 43, 44, 45, 46, 47] (by decide +kernel) (by decide +kernel)
set_option maxRecDepth 20000 in
theorem gX7_takeBack_X7_isFile : GoodIn wsX7_takeBack (wsV RX7 74 RX7 yX7_isFile wsX7_isFile) := goodIn_app (goodIn_of _ (by decide +kernel)) ggX7_takeBack_X7_isFile
set_option maxRecDepth 20000 in
theorem ggX7_takeBack_X7_goesWell : GoodIn wsX7_takeBack wsX7_goesWell := goodIn_r _ [19, 20, 29, 30, 31, 32, 33, 34, 35, 36, 37, 38, 39, 40, 41, 42, 43, 44, 45, 46, 47] (by decide +kernel) (by decide +kernel)
set_option maxRecDepth 20000 in
theorem gX7_takeBack_X7_goesWell : GoodIn wsX7_takeBack (wsV RX7 67 RX7 yX7_goesWell wsX7_goesWell) := goodIn_app (goodIn_of _ (by decide +kernel)) ggX7_takeBack_X7_goesWell
set_option maxRecDepth 20000 in
theorem ggX7_takeBack_X7_recall : GoodIn wsX7_takeBack wsX7_recall := goodIn_r _ [24, 25, 26, 27, 28, 29, 30, 31, 32, 33, 34, 35, 36, 37, 38, 39, 40, 41, 42, 43, 44, 45, 46, 47] (by decide +kernel) (by decide +kernel)
set_option maxRecDepth 20000 in
theorem gX7_takeBack_X7_recall : GoodIn wsX7_takeBack (wsV RX7 77 RX7 yX7_recall wsX7_recall) := goodIn_app (goodIn_of _ (by decide +kernel)) ggX7_takeBack_X7_recall
theorem dX7_takeBack_0 : decode cX7_takeBack 0 = .ok (.aload_n 0, 1) := by decide +kernel
theorem dX7_takeBack_1 : decode cX7_takeBack 1 = .ok (.aload_n 0, 1) := by decide +kernel
theorem dX7_takeBack_2 : decode cX7_takeBack 2 = .ok (.iload_n 1, 1) := by decide +kernel
theorem dX7_takeBack_3 : decode cX7_takeBack 3 = .ok (.invokevirtual 81, 3) := by decide +kernel
theorem dX7_takeBack_6 : decode cX7_takeBack 6 = .ok (.ifCond .eq 15, 3) := by decide +kernel
theorem dX7_takeBack_9 : decode cX7_takeBack 9 = .ok (.aload_n 0, 1) := by decide +kernel
theorem dX7_takeBack_10 : decode cX7_takeBack 10 = .ok (.iload_n 2, 1) := by decide +kernel
theorem dX7_takeBack_11 : decode cX7_takeBack 11 = .ok (.invokevirtual 74, 3) := by decide +kernel
theorem dX7_takeBack_14 : decode cX7_takeBack 14 = .ok (.ifCond .eq 7, 3) := by decide +kernel
theorem dX7_takeBack_17 : decode cX7_takeBack 17 = .ok (.iconst 0, 1) := by decide +kernel
theorem dX7_takeBack_18 : decode cX7_takeBack 18 = .ok (.goto 4, 3) := by decide +kernel
theorem dX7_takeBack_21 : decode cX7_takeBack 21 = .ok (.iconst 1, 1) := by decide +kernel
theorem dX7_takeBack_22 : decode cX7_takeBack 22 = .ok (.invokevirtual 67, 3) := by decide +kernel
theorem dX7_takeBack_25 : decode cX7_takeBack 25 = .ok (.ifCond .ne 5, 3) := by decide +kernel
theorem dX7_takeBack_28 : decode cX7_takeBack 28 = .ok (.iconst 0, 1) := by decide +kernel
theorem dX7_takeBack_29 : decode cX7_takeBack 29 = .ok (.ireturn, 1) := by decide +kernel
theorem dX7_takeBack_30 : decode cX7_takeBack 30 = .ok (.aload_n 0, 1) := by decide +kernel
theorem dX7_takeBack_31 : decode cX7_takeBack 31 = .ok (.getfield 19, 3) := by decide +kernel
theorem dX7_takeBack_34 : decode cX7_takeBack 34 = .ok (.bipush 16, 2) := by decide +kernel
theorem dX7_takeBack_36 : decode cX7_takeBack 36 = .ok (.iload_n 1, 1) := by decide +kernel
theorem dX7_takeBack_37 : decode cX7_takeBack 37 = .ok (.imul, 1) := by decide +kernel
theorem dX7_takeBack_38 : decode cX7_takeBack 38 = .ok (.iload_n 2, 1) := by decide +kernel
theorem dX7_takeBack_39 : decode cX7_takeBack 39 = .ok (.iadd, 1) := by decide +kernel
theorem dX7_takeBack_40 : decode cX7_takeBack 40 = .ok (.iaload, 1) := by decide +kernel
theorem dX7_takeBack_41 : decode cX7_takeBack 41 = .ok (.ifCond .eq 7, 3) := by decide +kernel
theorem dX7_takeBack_44 : decode cX7_takeBack 44 = .ok (.iconst 1, 1) := by decide +kernel
theorem dX7_takeBack_45 : decode cX7_takeBack 45 = .ok (.goto 4, 3) := by decide +kernel
theorem dX7_takeBack_48 : decode cX7_takeBack 48 = .ok (.iconst 0, 1) := by decide +kernel
theorem dX7_takeBack_49 : decode cX7_takeBack 49 = .ok (.istore_n 3, 1) := by decide +kernel
theorem dX7_takeBack_50 : decode cX7_takeBack 50 = .ok (.aload_n 0, 1) := by decide +kernel
theorem dX7_takeBack_51 : decode cX7_takeBack 51 = .ok (.getfield 19, 3) := by decide +kernel
theorem dX7_takeBack_54 : decode cX7_takeBack 54 = .ok (.bipush 16, 2) := by decide +kernel
theorem dX7_takeBack_56 : decode cX7_takeBack 56 = .ok (.iload_n 1, 1) := by decide +kernel
theorem dX7_takeBack_57 : decode cX7_takeBack 57 = .ok (.imul, 1) := by decide +kernel
theorem dX7_takeBack_58 : decode cX7_takeBack 58 = .ok (.iload_n 2, 1) := by decide +kernel
theorem dX7_takeBack_59 : decode cX7_takeBack 59 = .ok (.iadd, 1) := by decide +kernel
theorem dX7_takeBack_60 : decode cX7_takeBack 60 = .ok (.iconst 0, 1) := by decide +kernel
theorem dX7_takeBack_61 : decode cX7_takeBack 61 = .ok (.iastore, 1) := by decide +kernel
theorem dX7_takeBack_62 : decode cX7_takeBack 62 = .ok (.iload_n 3, 1) := by decide +kernel
theorem dX7_takeBack_63 : decode cX7_takeBack 63 = .ok (.ifCond .eq 12, 3) := by decide +kernel
theorem dX7_takeBack_66 : decode cX7_takeBack 66 = .ok (.aload_n 0, 1) := by decide +kernel
theorem dX7_takeBack_67 : decode cX7_takeBack 67 = .ok (.iload_n 2, 1) := by decide +kernel
theorem dX7_takeBack_68 : decode cX7_takeBack 68 = .ok (.iload_n 1, 1) := by decide +kernel
theorem dX7_takeBack_69 : decode cX7_takeBack 69 = .ok (.invokevirtual 77, 3) := by decide +kernel
theorem dX7_takeBack_72 : decode cX7_takeBack 72 = .ok (.goto 4, 3) := by decide +kernel
theorem dX7_takeBack_75 : decode cX7_takeBack 75 = .ok (.iconst 0, 1) := by decide +kernel
theorem dX7_takeBack_76 : decode cX7_takeBack 76 = .ok (.ireturn, 1) := by decide +kernel
set_option maxRecDepth 20000 in
theorem ggX7_seal_X7_isFile : GoodIn wsX7_seal wsX7_isFile := goodIn_r _ [6, 7, 8, 9, 5, 10, 16, 17, 18, 19, 20, 21, 22, 23, 24, 25, 26, 27, 28, 29, 30, 31, 32, 33, 34] (by decide +kernel) (by decide +kernel)
set_option maxRecDepth 20000 in
theorem gX7_seal_X7_isFile : GoodIn wsX7_seal (wsV RX7 74 RX7 yX7_isFile wsX7_isFile) := goodIn_app (goodIn_of _ (by decide +kernel)) ggX7_seal_X7_isFile
set_option maxRecDepth 20000 in
theorem ggX7_seal_X7_in : GoodIn wsX7_seal wsX7_in := goodIn_r _ [10] (by decide +kernel) (by decide +kernel)
set_option maxRecDepth 20000 in
theorem gX7_seal_X7_in : GoodIn wsX7_seal (va_wsS RX7 60 yX7_in wsX7_in) := goodIn_app (goodIn_of _ (by decide +kernel)) ggX7_seal_X7_in
set_option maxRecDepth 20000 in
theorem ggX7_seal_X7_goesWell : GoodIn wsX7_seal wsX7_goesWell := goodIn_r _ [14, 15, 16, 17, 18, 19, 20, 21, 22, 23, 24, 25, 26, 27, 28, 29, 30, 31, 32, 33, 34] (by decide +kernel) (by decide +kernel)
set_option maxRecDepth 20000 in
theorem gX7_seal_X7_goesWell : GoodIn wsX7_seal (wsV RX7 67 RX7 yX7_goesWell wsX7_goesWell) := goodIn_app (goodIn_of _ (by decide +kernel)) ggX7_seal_X7_goesWell
theorem dX7_seal_0 : decode cX7_seal 0 = .ok (.aload_n 0, 1) := by decide +kernel
theorem dX7_seal_1 : decode cX7_seal 1 = .ok (.iload_n 1, 1) := by decide +kernel
theorem dX7_seal_2 : decode cX7_seal 2 = .ok (.invokevirtual 74, 3) := by decide +kernel
theorem dX7_seal_5 : decode cX7_seal 5 = .ok (.istore_n 3, 1) := by decide +kernel
theorem dX7_seal_6 : decode cX7_seal 6 = .ok (.aload_n 0, 1) := by decide +kernel
theorem dX7_seal_7 : decode cX7_seal 7 = .ok (.iload_n 3, 1) := by decide +kernel
theorem dX7_seal_8 : decode cX7_seal 8 = .ok (.ifCond .ne 7, 3) := by decide +kernel
theorem dX7_seal_11 : decode cX7_seal 11 = .ok (.iconst 1, 1) := by decide +kernel
theorem dX7_seal_12 : decode cX7_seal 12 = .ok (.goto 19, 3) := by decide +kernel
theorem dX7_seal_15 : decode cX7_seal 15 = .ok (.iload_n 2, 1) := by decide +kernel
theorem dX7_seal_16 : decode cX7_seal 16 = .ok (.iconst 0, 1) := by decide +kernel
theorem dX7_seal_17 : decode cX7_seal 17 = .ok (.sipush 5000, 3) := by decide +kernel
theorem dX7_seal_20 : decode cX7_seal 20 = .ok (.invokestatic 60, 3) := by decide +kernel
theorem dX7_seal_23 : decode cX7_seal 23 = .ok (.ifCond .eq 7, 3) := by decide +kernel
theorem dX7_seal_26 : decode cX7_seal 26 = .ok (.iconst 0, 1) := by decide +kernel
theorem dX7_seal_27 : decode cX7_seal 27 = .ok (.goto 4, 3) := by decide +kernel
theorem dX7_seal_30 : decode cX7_seal 30 = .ok (.iconst 2, 1) := by decide +kernel
theorem dX7_seal_31 : decode cX7_seal 31 = .ok (.invokevirtual 67, 3) := by decide +kernel
theorem dX7_seal_34 : decode cX7_seal 34 = .ok (.ifCond .eq 10, 3) := by decide +kernel
theorem dX7_seal_37 : decode cX7_seal 37 = .ok (.aload_n 0, 1) := by decide +kernel
theorem dX7_seal_38 : decode cX7_seal 38 = .ok (.getfield 13, 3) := by decide +kernel
theorem dX7_seal_41 : decode cX7_seal 41 = .ok (.iload_n 1, 1) := by decide +kernel
theorem dX7_seal_42 : decode cX7_seal 42 = .ok (.iload_n 2, 1) := by decide +kernel
theorem dX7_seal_43 : decode cX7_seal 43 = .ok (.iastore, 1) := by decide +kernel
theorem dX7_seal_44 : decode cX7_seal 44 = .ok (.return_, 1) := by decide +kernel
set_option maxRecDepth 20000 in
theorem ggX7_pass_X7_in : GoodIn wsX7_pass wsX7_in := goodIn_r _ [5] (by decide +kernel) (by decide +kernel)
set_option maxRecDepth 20000 in
theorem gX7_pass_X7_in : GoodIn wsX7_pass (va_wsS RX7 60 yX7_in wsX7_in) := goodIn_app (goodIn_of _ (by decide +kernel)) ggX7_pass_X7_in
set_option maxRecDepth 20000 in
theorem ggX7_pass_X7_goesWell : GoodIn wsX7_pass wsX7_goesWell := goodIn_r _ [9, 10, 11, 12, 13, 14, 15, 16, 17, 18, 19, 20, 21, 22, 23, 24, 25, 26, 27, 28, 29] (by decide +kernel) (by decide +kernel)
set_option maxRecDepth 20000 in
theorem gX7_pass_X7_goesWell : GoodIn wsX7_pass (wsV RX7 67 RX7 yX7_goesWell wsX7_goesWell) := goodIn_app (goodIn_of _ (by decide +kernel)) ggX7_pass_X7_goesWell
theorem dX7_pass_0 : decode cX7_pass 0 = .ok (.iload_n 1, 1) := by decide +kernel
theorem dX7_pass_1 : decode cX7_pass 1 = .ok (.iconst 1, 1) := by decide +kernel
theorem dX7_pass_2 : decode cX7_pass 2 = .ok (.sipush 500, 3) := by decide +kernel
theorem dX7_pass_5 : decode cX7_pass 5 = .ok (.invokestatic 60, 3) := by decide +kernel
theorem dX7_pass_8 : decode cX7_pass 8 = .ok (.istore_n 2, 1) := by decide +kernel
theorem dX7_pass_9 : decode cX7_pass 9 = .ok (.aload_n 0, 1) := by decide +kernel
theorem dX7_pass_10 : decode cX7_pass 10 = .ok (.iload_n 2, 1) := by decide +kernel
theorem dX7_pass_11 : decode cX7_pass 11 = .ok (.ifCond .ne 7, 3) := by decide +kernel
theorem dX7_pass_14 : decode cX7_pass 14 = .ok (.iconst 1, 1) := by decide +kernel
theorem dX7_pass_15 : decode cX7_pass 15 = .ok (.goto 20, 3) := by decide +kernel
theorem dX7_pass_18 : decode cX7_pass 18 = .ok (.aload_n 0, 1) := by decide +kernel
theorem dX7_pass_19 : decode cX7_pass 19 = .ok (.getfield 84, 3) := by decide +kernel
theorem dX7_pass_22 : decode cX7_pass 22 = .ok (.iload_n 1, 1) := by decide +kernel
theorem dX7_pass_23 : decode cX7_pass 23 = .ok (.iadd, 1) := by decide +kernel
theorem dX7_pass_24 : decode cX7_pass 24 = .ok (.sipush 5000, 3) := by decide +kernel
theorem dX7_pass_27 : decode cX7_pass 27 = .ok (.if_icmp .le 7, 3) := by decide +kernel
theorem dX7_pass_30 : decode cX7_pass 30 = .ok (.iconst 2, 1) := by decide +kernel
theorem dX7_pass_31 : decode cX7_pass 31 = .ok (.goto 4, 3) := by decide +kernel
theorem dX7_pass_34 : decode cX7_pass 34 = .ok (.iconst 0, 1) := by decide +kernel
theorem dX7_pass_35 : decode cX7_pass 35 = .ok (.invokevirtual 67, 3) := by decide +kernel
theorem dX7_pass_38 : decode cX7_pass 38 = .ok (.ifCond .ne 5, 3) := by decide +kernel
theorem dX7_pass_41 : decode cX7_pass 41 = .ok (.iconst 0, 1) := by decide +kernel
theorem dX7_pass_42 : decode cX7_pass 42 = .ok (.ireturn, 1) := by decide +kernel
theorem dX7_pass_43 : decode cX7_pass 43 = .ok (.aload_n 0, 1) := by decide +kernel
theorem dX7_pass_44 : decode cX7_pass 44 = .ok (.dup, 1) := by decide +kernel
theorem dX7_pass_45 : decode cX7_pass 45 = .ok (.getfield 84, 3) := by decide +kernel
theorem dX7_pass_48 : decode cX7_pass 48 = .ok (.iload_n 1, 1) := by decide +kernel
theorem dX7_pass_49 : decode cX7_pass 49 = .ok (.iadd, 1) := by decide +kernel
theorem dX7_pass_50 : decode cX7_pass 50 = .ok (.putfield 84, 3) := by decide +kernel
theorem dX7_pass_53 : decode cX7_pass 53 = .ok (.aload_n 0, 1) := by decide +kernel
theorem dX7_pass_54 : decode cX7_pass 54 = .ok (.getfield 84, 3) := by decide +kernel
theorem dX7_pass_57 : decode cX7_pass 57 = .ok (.ireturn, 1) := by decide +kernel
set_option maxRecDepth 20000 in
theorem ggX7_rightOf_X7_in : GoodIn wsX7_rightOf wsX7_in := goodIn_r _ [8] (by decide +kernel) (by decide +kernel)
set_option maxRecDepth 20000 in
theorem gX7_rightOf_X7_in : GoodIn wsX7_rightOf (va_wsS RX7 60 yX7_in wsX7_in) := goodIn_app (goodIn_of _ (by decide +kernel)) ggX7_rightOf_X7_in
theorem dX7_rightOf_0 : decode cX7_rightOf 0 = .ok (.bipush 16, 2) := by decide +kernel
theorem dX7_rightOf_2 : decode cX7_rightOf 2 = .ok (.iload_n 1, 1) := by decide +kernel
theorem dX7_rightOf_3 : decode cX7_rightOf 3 = .ok (.imul, 1) := by decide +kernel
theorem dX7_rightOf_4 : decode cX7_rightOf 4 = .ok (.iload_n 2, 1) := by decide +kernel
theorem dX7_rightOf_5 : decode cX7_rightOf 5 = .ok (.iadd, 1) := by decide +kernel
theorem dX7_rightOf_6 : decode cX7_rightOf 6 = .ok (.istore_n 3, 1) := by decide +kernel
theorem dX7_rightOf_7 : decode cX7_rightOf 7 = .ok (.aload_n 0, 1) := by decide +kernel
theorem dX7_rightOf_8 : decode cX7_rightOf 8 = .ok (.getfield 19, 3) := by decide +kernel
theorem dX7_rightOf_11 : decode cX7_rightOf 11 = .ok (.iload_n 3, 1) := by decide +kernel
theorem dX7_rightOf_12 : decode cX7_rightOf 12 = .ok (.iaload, 1) := by decide +kernel
theorem dX7_rightOf_13 : decode cX7_rightOf 13 = .ok (.ifCond .eq 34, 3) := by decide +kernel
theorem dX7_rightOf_16 : decode cX7_rightOf 16 = .ok (.aload_n 0, 1) := by decide +kernel
theorem dX7_rightOf_17 : decode cX7_rightOf 17 = .ok (.getfield 84, 3) := by decide +kernel
theorem dX7_rightOf_20 : decode cX7_rightOf 20 = .ok (.aload_n 0, 1) := by decide +kernel
theorem dX7_rightOf_21 : decode cX7_rightOf 21 = .ok (.getfield 22, 3) := by decide +kernel
theorem dX7_rightOf_24 : decode cX7_rightOf 24 = .ok (.iload_n 3, 1) := by decide +kernel
theorem dX7_rightOf_25 : decode cX7_rightOf 25 = .ok (.iaload, 1) := by decide +kernel
theorem dX7_rightOf_26 : decode cX7_rightOf 26 = .ok (.aload_n 0, 1) := by decide +kernel
theorem dX7_rightOf_27 : decode cX7_rightOf 27 = .ok (.getfield 25, 3) := by decide +kernel
theorem dX7_rightOf_30 : decode cX7_rightOf 30 = .ok (.iload_n 3, 1) := by decide +kernel
theorem dX7_rightOf_31 : decode cX7_rightOf 31 = .ok (.iaload, 1) := by decide +kernel
theorem dX7_rightOf_32 : decode cX7_rightOf 32 = .ok (.invokestatic 60, 3) := by decide +kernel
theorem dX7_rightOf_35 : decode cX7_rightOf 35 = .ok (.ifCond .eq 12, 3) := by decide +kernel
theorem dX7_rightOf_38 : decode cX7_rightOf 38 = .ok (.aload_n 0, 1) := by decide +kernel
theorem dX7_rightOf_39 : decode cX7_rightOf 39 = .ok (.getfield 19, 3) := by decide +kernel
theorem dX7_rightOf_42 : decode cX7_rightOf 42 = .ok (.iload_n 3, 1) := by decide +kernel
theorem dX7_rightOf_43 : decode cX7_rightOf 43 = .ok (.iaload, 1) := by decide +kernel
theorem dX7_rightOf_44 : decode cX7_rightOf 44 = .ok (.goto 4, 3) := by decide +kernel
theorem dX7_rightOf_47 : decode cX7_rightOf 47 = .ok (.iconst 0, 1) := by decide +kernel
theorem dX7_rightOf_48 : decode cX7_rightOf 48 = .ok (.ireturn, 1) := by decide +kernel
theorem dX7_reduce_0 : decode cX7_reduce 0 = .ok (.iload_n 1, 1) := by decide +kernel
theorem dX7_reduce_1 : decode cX7_reduce 1 = .ok (.istore_n 2, 1) := by decide +kernel
theorem dX7_reduce_2 : decode cX7_reduce 2 = .ok (.bipush 15, 2) := by decide +kernel
theorem dX7_reduce_4 : decode cX7_reduce 4 = .ok (.istore_n 3, 1) := by decide +kernel
theorem dX7_reduce_5 : decode cX7_reduce 5 = .ok (.iload_n 3, 1) := by decide +kernel
theorem dX7_reduce_6 : decode cX7_reduce 6 = .ok (.ifCond .lt 31, 3) := by decide +kernel
theorem dX7_reduce_9 : decode cX7_reduce 9 = .ok (.iload_n 2, 1) := by decide +kernel
theorem dX7_reduce_10 : decode cX7_reduce 10 = .ok (.iload_n 2, 1) := by decide +kernel
theorem dX7_reduce_11 : decode cX7_reduce 11 = .ok (.iload_n 3, 1) := by decide +kernel
theorem dX7_reduce_12 : decode cX7_reduce 12 = .ok (.ishr, 1) := by decide +kernel
theorem dX7_reduce_13 : decode cX7_reduce 13 = .ok (.iconst 1, 1) := by decide +kernel
theorem dX7_reduce_14 : decode cX7_reduce 14 = .ok (.iand, 1) := by decide +kernel
theorem dX7_reduce_15 : decode cX7_reduce 15 = .ok (.iconst 1, 1) := by decide +kernel
theorem dX7_reduce_16 : decode cX7_reduce 16 = .ok (.if_icmp .ne 12, 3) := by decide +kernel
theorem dX7_reduce_19 : decode cX7_reduce 19 = .ok (.aload_n 0, 1) := by decide +kernel
theorem dX7_reduce_20 : decode cX7_reduce 20 = .ok (.getfield 50, 3) := by decide +kernel
theorem dX7_reduce_23 : decode cX7_reduce 23 = .ok (.iload_n 3, 1) := by decide +kernel
theorem dX7_reduce_24 : decode cX7_reduce 24 = .ok (.iaload, 1) := by decide +kernel
theorem dX7_reduce_25 : decode cX7_reduce 25 = .ok (.goto 4, 3) := by decide +kernel
theorem dX7_reduce_28 : decode cX7_reduce 28 = .ok (.iconst 0, 1) := by decide +kernel
theorem dX7_reduce_29 : decode cX7_reduce 29 = .ok (.ixor, 1) := by decide +kernel
theorem dX7_reduce_30 : decode cX7_reduce 30 = .ok (.istore_n 2, 1) := by decide +kernel
theorem dX7_reduce_31 : decode cX7_reduce 31 = .ok (.iinc 3 (-1), 3) := by decide +kernel
theorem dX7_reduce_34 : decode cX7_reduce 34 = .ok (.goto (-29), 3) := by decide +kernel
theorem dX7_reduce_37 : decode cX7_reduce 37 = .ok (.iload_n 2, 1) := by decide +kernel
theorem dX7_reduce_38 : decode cX7_reduce 38 = .ok (.ireturn, 1) := by decide +kernel
theorem dX7_highest_0 : decode cX7_highest 0 = .ok (.iconst (-1), 1) := by decide +kernel
theorem dX7_highest_1 : decode cX7_highest 1 = .ok (.istore_n 1, 1) := by decide +kernel
theorem dX7_highest_2 : decode cX7_highest 2 = .ok (.iconst 0, 1) := by decide +kernel
theorem dX7_highest_3 : decode cX7_highest 3 = .ok (.istore_n 2, 1) := by decide +kernel
theorem dX7_highest_4 : decode cX7_highest 4 = .ok (.iload_n 2, 1) := by decide +kernel
theorem dX7_highest_5 : decode cX7_highest 5 = .ok (.bipush 16, 2) := by decide +kernel
theorem dX7_highest_7 : decode cX7_highest 7 = .ok (.if_icmp .ge 24, 3) := by decide +kernel
theorem dX7_highest_10 : decode cX7_highest 10 = .ok (.iload_n 0, 1) := by decide +kernel
theorem dX7_highest_11 : decode cX7_highest 11 = .ok (.iload_n 2, 1) := by decide +kernel
theorem dX7_highest_12 : decode cX7_highest 12 = .ok (.ishr, 1) := by decide +kernel
theorem dX7_highest_13 : decode cX7_highest 13 = .ok (.iconst 1, 1) := by decide +kernel
theorem dX7_highest_14 : decode cX7_highest 14 = .ok (.iand, 1) := by decide +kernel
theorem dX7_highest_15 : decode cX7_highest 15 = .ok (.iconst 1, 1) := by decide +kernel
theorem dX7_highest_16 : decode cX7_highest 16 = .ok (.if_icmp .ne 7, 3) := by decide +kernel
theorem dX7_highest_19 : decode cX7_highest 19 = .ok (.iload_n 2, 1) := by decide +kernel
theorem dX7_highest_20 : decode cX7_highest 20 = .ok (.goto 4, 3) := by decide +kernel
theorem dX7_highest_23 : decode cX7_highest 23 = .ok (.iload_n 1, 1) := by decide +kernel
theorem dX7_highest_24 : decode cX7_highest 24 = .ok (.istore_n 1, 1) := by decide +kernel
theorem dX7_highest_25 : decode cX7_highest 25 = .ok (.iinc 2 1, 3) := by decide +kernel
theorem dX7_highest_28 : decode cX7_highest 28 = .ok (.goto (-24), 3) := by decide +kernel
theorem dX7_highest_31 : decode cX7_highest 31 = .ok (.iload_n 1, 1) := by decide +kernel
theorem dX7_highest_32 : decode cX7_highest 32 = .ok (.ireturn, 1) := by decide +kernel
set_option maxRecDepth 20000 in
theorem ggX7_learn_X7_reduce : GoodIn wsX7_learn wsX7_reduce := goodIn_r _ [6, 1, 10, 11, 12, 13, 14, 15, 16, 17, 18, 19, 20, 21, 22, 23, 24, 25, 26, 27, 28] (by decide +kernel) (by decide +kernel)
set_option maxRecDepth 20000 in
theorem gX7_learn_X7_reduce : GoodIn wsX7_learn (wsV RX7 87 RX7 yX7_reduce wsX7_reduce) := goodIn_app (goodIn_of _ (by decide +kernel)) ggX7_learn_X7_reduce
set_option maxRecDepth 20000 in
theorem ggX7_learn_X7_highest : GoodIn wsX7_learn wsX7_highest := goodIn_r _ [9] (by decide +kernel) (by decide +kernel)
set_option maxRecDepth 20000 in
theorem gX7_learn_X7_highest : GoodIn wsX7_learn (va_wsS RX7 91 yX7_highest wsX7_highest) := goodIn_app (goodIn_of _ (by decide +kernel)) ggX7_learn_X7_highest
theorem dX7_learn_0 : decode cX7_learn 0 = .ok (.aload_n 0, 1) := by decide +kernel
theorem dX7_learn_1 : decode cX7_learn 1 = .ok (.iload_n 1, 1) := by decide +kernel
theorem dX7_learn_2 : decode cX7_learn 2 = .ok (.invokevirtual 87, 3) := by decide +kernel
theorem dX7_learn_5 : decode cX7_learn 5 = .ok (.istore_n 2, 1) := by decide +kernel
theorem dX7_learn_6 : decode cX7_learn 6 = .ok (.iload_n 2, 1) := by decide +kernel
theorem dX7_learn_7 : decode cX7_learn 7 = .ok (.ifCond .eq 13, 3) := by decide +kernel
theorem dX7_learn_10 : decode cX7_learn 10 = .ok (.aload_n 0, 1) := by decide +kernel
theorem dX7_learn_11 : decode cX7_learn 11 = .ok (.getfield 50, 3) := by decide +kernel
theorem dX7_learn_14 : decode cX7_learn 14 = .ok (.iload_n 2, 1) := by decide +kernel
theorem dX7_learn_15 : decode cX7_learn 15 = .ok (.invokestatic 91, 3) := by decide +kernel
theorem dX7_learn_18 : decode cX7_learn 18 = .ok (.iload_n 2, 1) := by decide +kernel
theorem dX7_learn_19 : decode cX7_learn 19 = .ok (.iastore, 1) := by decide +kernel
theorem dX7_learn_20 : decode cX7_learn 20 = .ok (.iload_n 2, 1) := by decide +kernel
theorem dX7_learn_21 : decode cX7_learn 21 = .ok (.ifCond .eq 7, 3) := by decide +kernel
theorem dX7_learn_24 : decode cX7_learn 24 = .ok (.iconst 1, 1) := by decide +kernel
theorem dX7_learn_25 : decode cX7_learn 25 = .ok (.goto 4, 3) := by decide +kernel
theorem dX7_learn_28 : decode cX7_learn 28 = .ok (.iconst 0, 1) := by decide +kernel
theorem dX7_learn_29 : decode cX7_learn 29 = .ok (.ireturn, 1) := by decide +kernel
set_option maxRecDepth 20000 in
theorem ggX7_know_X7_learn : GoodIn wsX7_know wsX7_learn := goodIn_r _ [11, 1, 12, 13, 14, 10, 15, 16, 17, 18, 19, 20, 21, 22, 23, 24, 25, 26, 27, 28, 29, 30, 31, 32, 33, 34, 35, 36, 37] (by decide +kernel) (by decide +kernel)
set_option maxRecDepth 20000 in
theorem gX7_know_X7_learn : GoodIn wsX7_know (wsV RX7 94 RX7 yX7_learn wsX7_learn) := goodIn_app (goodIn_of _ (by decide +kernel)) ggX7_know_X7_learn
theorem dX7_know_0 : decode cX7_know 0 = .ok (.iconst 0, 1) := by decide +kernel
theorem dX7_know_1 : decode cX7_know 1 = .ok (.istore_n 3, 1) := by decide +kernel
theorem dX7_know_2 : decode cX7_know 2 = .ok (.iload_n 3, 1) := by decide +kernel
theorem dX7_know_3 : decode cX7_know 3 = .ok (.bipush 16, 2) := by decide +kernel
theorem dX7_know_5 : decode cX7_know 5 = .ok (.if_icmp .ge 16, 3) := by decide +kernel
theorem dX7_know_8 : decode cX7_know 8 = .ok (.aload_n 0, 1) := by decide +kernel
theorem dX7_know_9 : decode cX7_know 9 = .ok (.getfield 50, 3) := by decide +kernel
theorem dX7_know_12 : decode cX7_know 12 = .ok (.iload_n 3, 1) := by decide +kernel
theorem dX7_know_13 : decode cX7_know 13 = .ok (.iconst 0, 1) := by decide +kernel
theorem dX7_know_14 : decode cX7_know 14 = .ok (.iastore, 1) := by decide +kernel
theorem dX7_know_15 : decode cX7_know 15 = .ok (.iinc 3 1, 3) := by decide +kernel
theorem dX7_know_18 : decode cX7_know 18 = .ok (.goto (-16), 3) := by decide +kernel
theorem dX7_know_21 : decode cX7_know 21 = .ok (.iconst 0, 1) := by decide +kernel
theorem dX7_know_22 : decode cX7_know 22 = .ok (.istore_n 3, 1) := by decide +kernel
theorem dX7_know_23 : decode cX7_know 23 = .ok (.iconst 0, 1) := by decide +kernel
theorem dX7_know_24 : decode cX7_know 24 = .ok (.istore 4, 2) := by decide +kernel
theorem dX7_know_26 : decode cX7_know 26 = .ok (.iload 4, 2) := by decide +kernel
theorem dX7_know_28 : decode cX7_know 28 = .ok (.aload_n 0, 1) := by decide +kernel
theorem dX7_know_29 : decode cX7_know 29 = .ok (.getfield 71, 3) := by decide +kernel
theorem dX7_know_32 : decode cX7_know 32 = .ok (.if_icmp .ge 90, 3) := by decide +kernel
theorem dX7_know_35 : decode cX7_know 35 = .ok (.aload_n 0, 1) := by decide +kernel
theorem dX7_know_36 : decode cX7_know 36 = .ok (.getfield 43, 3) := by decide +kernel
theorem dX7_know_39 : decode cX7_know 39 = .ok (.iload 4, 2) := by decide +kernel
theorem dX7_know_41 : decode cX7_know 41 = .ok (.baload, 1) := by decide +kernel
theorem dX7_know_42 : decode cX7_know 42 = .ok (.ifCond .ne 44, 3) := by decide +kernel
theorem dX7_know_45 : decode cX7_know 45 = .ok (.iload_n 1, 1) := by decide +kernel
theorem dX7_know_46 : decode cX7_know 46 = .ok (.aload_n 0, 1) := by decide +kernel
theorem dX7_know_47 : decode cX7_know 47 = .ok (.getfield 28, 3) := by decide +kernel
theorem dX7_know_50 : decode cX7_know 50 = .ok (.iload 4, 2) := by decide +kernel
theorem dX7_know_52 : decode cX7_know 52 = .ok (.iaload, 1) := by decide +kernel
theorem dX7_know_53 : decode cX7_know 53 = .ok (.ishr, 1) := by decide +kernel
theorem dX7_know_54 : decode cX7_know 54 = .ok (.iconst 1, 1) := by decide +kernel
theorem dX7_know_55 : decode cX7_know 55 = .ok (.iand, 1) := by decide +kernel
theorem dX7_know_56 : decode cX7_know 56 = .ok (.iconst 1, 1) := by decide +kernel
theorem dX7_know_57 : decode cX7_know 57 = .ok (.if_icmp .ne 29, 3) := by decide +kernel
theorem dX7_know_60 : decode cX7_know 60 = .ok (.aload_n 0, 1) := by decide +kernel
theorem dX7_know_61 : decode cX7_know 61 = .ok (.getfield 34, 3) := by decide +kernel
theorem dX7_know_64 : decode cX7_know 64 = .ok (.iload 4, 2) := by decide +kernel
theorem dX7_know_66 : decode cX7_know 66 = .ok (.iaload, 1) := by decide +kernel
theorem dX7_know_67 : decode cX7_know 67 = .ok (.iconst (-1), 1) := by decide +kernel
theorem dX7_know_68 : decode cX7_know 68 = .ok (.if_icmp .eq 14, 3) := by decide +kernel
theorem dX7_know_71 : decode cX7_know 71 = .ok (.aload_n 0, 1) := by decide +kernel
theorem dX7_know_72 : decode cX7_know 72 = .ok (.getfield 34, 3) := by decide +kernel
theorem dX7_know_75 : decode cX7_know 75 = .ok (.iload 4, 2) := by decide +kernel
theorem dX7_know_77 : decode cX7_know 77 = .ok (.iaload, 1) := by decide +kernel
theorem dX7_know_78 : decode cX7_know 78 = .ok (.iload_n 2, 1) := by decide +kernel
theorem dX7_know_79 : decode cX7_know 79 = .ok (.if_icmp .ne 7, 3) := by decide +kernel
theorem dX7_know_82 : decode cX7_know 82 = .ok (.iconst 1, 1) := by decide +kernel
theorem dX7_know_83 : decode cX7_know 83 = .ok (.goto 4, 3) := by decide +kernel
theorem dX7_know_86 : decode cX7_know 86 = .ok (.iconst 0, 1) := by decide +kernel
theorem dX7_know_87 : decode cX7_know 87 = .ok (.istore 5, 2) := by decide +kernel
theorem dX7_know_89 : decode cX7_know 89 = .ok (.iload_n 3, 1) := by decide +kernel
theorem dX7_know_90 : decode cX7_know 90 = .ok (.iload 5, 2) := by decide +kernel
theorem dX7_know_92 : decode cX7_know 92 = .ok (.ifCond .eq 21, 3) := by decide +kernel
theorem dX7_know_95 : decode cX7_know 95 = .ok (.aload_n 0, 1) := by decide +kernel
theorem dX7_know_96 : decode cX7_know 96 = .ok (.aload_n 0, 1) := by decide +kernel
theorem dX7_know_97 : decode cX7_know 97 = .ok (.getfield 31, 3) := by decide +kernel
theorem dX7_know_100 : decode cX7_know 100 = .ok (.iload 4, 2) := by decide +kernel
theorem dX7_know_102 : decode cX7_know 102 = .ok (.iaload, 1) := by decide +kernel
theorem dX7_know_103 : decode cX7_know 103 = .ok (.invokevirtual 94, 3) := by decide +kernel
theorem dX7_know_106 : decode cX7_know 106 = .ok (.ifCond .eq 7, 3) := by decide +kernel
theorem dX7_know_109 : decode cX7_know 109 = .ok (.iconst 1, 1) := by decide +kernel
theorem dX7_know_110 : decode cX7_know 110 = .ok (.goto 4, 3) := by decide +kernel
theorem dX7_know_113 : decode cX7_know 113 = .ok (.iconst 0, 1) := by decide +kernel
theorem dX7_know_114 : decode cX7_know 114 = .ok (.iadd, 1) := by decide +kernel
theorem dX7_know_115 : decode cX7_know 115 = .ok (.istore_n 3, 1) := by decide +kernel
theorem dX7_know_116 : decode cX7_know 116 = .ok (.iinc 4 1, 3) := by decide +kernel
theorem dX7_know_119 : decode cX7_know 119 = .ok (.goto (-93), 3) := by decide +kernel
theorem dX7_know_122 : decode cX7_know 122 = .ok (.iload_n 3, 1) := by decide +kernel
theorem dX7_know_123 : decode cX7_know 123 = .ok (.ireturn, 1) := by decide +kernel
set_option maxRecDepth 20000 in
theorem ggX7_spentBy_X7_know : GoodIn wsX7_spentBy wsX7_know := goodIn_r _ [5, 6, 7, 8, 9, 10, 11, 12, 13, 14, 4, 15, 16, 17, 18, 19, 20, 21, 22, 23, 24, 25, 26, 27, 28, 29, 30, 31, 32, 33, 34, 35, 36, 37, 38, 39, 40, 41] (by decide +kernel) (by decide +kernel)
set_option maxRecDepth 20000 in
theorem gX7_spentBy_X7_know : GoodIn wsX7_spentBy (wsV RX7 97 RX7 yX7_know wsX7_know) := goodIn_app (goodIn_of _ (by decide +kernel)) ggX7_spentBy_X7_know
theorem dX7_spentBy_0 : decode cX7_spentBy 0 = .ok (.iconst 0, 1) := by decide +kernel
theorem dX7_spentBy_1 : decode cX7_spentBy 1 = .ok (.istore_n 2, 1) := by decide +kernel
theorem dX7_spentBy_2 : decode cX7_spentBy 2 = .ok (.iconst 0, 1) := by decide +kernel
theorem dX7_spentBy_3 : decode cX7_spentBy 3 = .ok (.istore_n 3, 1) := by decide +kernel
theorem dX7_spentBy_4 : decode cX7_spentBy 4 = .ok (.iload_n 3, 1) := by decide +kernel
theorem dX7_spentBy_5 : decode cX7_spentBy 5 = .ok (.bipush 8, 2) := by decide +kernel
theorem dX7_spentBy_7 : decode cX7_spentBy 7 = .ok (.if_icmp .ge 20, 3) := by decide +kernel
theorem dX7_spentBy_10 : decode cX7_spentBy 10 = .ok (.iload_n 2, 1) := by decide +kernel
theorem dX7_spentBy_11 : decode cX7_spentBy 11 = .ok (.aload_n 0, 1) := by decide +kernel
theorem dX7_spentBy_12 : decode cX7_spentBy 12 = .ok (.iconst 1, 1) := by decide +kernel
theorem dX7_spentBy_13 : decode cX7_spentBy 13 = .ok (.iload_n 1, 1) := by decide +kernel
theorem dX7_spentBy_14 : decode cX7_spentBy 14 = .ok (.ishl, 1) := by decide +kernel
theorem dX7_spentBy_15 : decode cX7_spentBy 15 = .ok (.iload_n 3, 1) := by decide +kernel
theorem dX7_spentBy_16 : decode cX7_spentBy 16 = .ok (.invokevirtual 97, 3) := by decide +kernel
theorem dX7_spentBy_19 : decode cX7_spentBy 19 = .ok (.iadd, 1) := by decide +kernel
theorem dX7_spentBy_20 : decode cX7_spentBy 20 = .ok (.istore_n 2, 1) := by decide +kernel
theorem dX7_spentBy_21 : decode cX7_spentBy 21 = .ok (.iinc 3 1, 3) := by decide +kernel
theorem dX7_spentBy_24 : decode cX7_spentBy 24 = .ok (.goto (-20), 3) := by decide +kernel
theorem dX7_spentBy_27 : decode cX7_spentBy 27 = .ok (.iload_n 2, 1) := by decide +kernel
theorem dX7_spentBy_28 : decode cX7_spentBy 28 = .ok (.ireturn, 1) := by decide +kernel
set_option maxRecDepth 20000 in
theorem ggX7_found_X7_reduce : GoodIn wsX7_found wsX7_reduce := goodIn_r _ [6, 7, 8, 9, 10, 11, 12, 13, 14, 15, 16, 17, 18, 19, 20, 21, 22, 23, 24, 25, 26] (by decide +kernel) (by decide +kernel)
set_option maxRecDepth 20000 in
theorem gX7_found_X7_reduce : GoodIn wsX7_found (wsV RX7 87 RX7 yX7_reduce wsX7_reduce) := goodIn_app (goodIn_of _ (by decide +kernel)) ggX7_found_X7_reduce
theorem dX7_found_0 : decode cX7_found 0 = .ok (.iconst 0, 1) := by decide +kernel
theorem dX7_found_1 : decode cX7_found 1 = .ok (.istore_n 1, 1) := by decide +kernel
theorem dX7_found_2 : decode cX7_found 2 = .ok (.iconst 0, 1) := by decide +kernel
theorem dX7_found_3 : decode cX7_found 3 = .ok (.istore_n 2, 1) := by decide +kernel
theorem dX7_found_4 : decode cX7_found 4 = .ok (.iload_n 2, 1) := by decide +kernel
theorem dX7_found_5 : decode cX7_found 5 = .ok (.aload_n 0, 1) := by decide +kernel
theorem dX7_found_6 : decode cX7_found 6 = .ok (.getfield 57, 3) := by decide +kernel
theorem dX7_found_9 : decode cX7_found 9 = .ok (.if_icmp .ge 29, 3) := by decide +kernel
theorem dX7_found_12 : decode cX7_found 12 = .ok (.iload_n 1, 1) := by decide +kernel
theorem dX7_found_13 : decode cX7_found 13 = .ok (.aload_n 0, 1) := by decide +kernel
theorem dX7_found_14 : decode cX7_found 14 = .ok (.iconst 1, 1) := by decide +kernel
theorem dX7_found_15 : decode cX7_found 15 = .ok (.iload_n 2, 1) := by decide +kernel
theorem dX7_found_16 : decode cX7_found 16 = .ok (.ishl, 1) := by decide +kernel
theorem dX7_found_17 : decode cX7_found 17 = .ok (.invokevirtual 87, 3) := by decide +kernel
theorem dX7_found_20 : decode cX7_found 20 = .ok (.ifCond .ne 9, 3) := by decide +kernel
theorem dX7_found_23 : decode cX7_found 23 = .ok (.iconst 1, 1) := by decide +kernel
theorem dX7_found_24 : decode cX7_found 24 = .ok (.iload_n 2, 1) := by decide +kernel
theorem dX7_found_25 : decode cX7_found 25 = .ok (.ishl, 1) := by decide +kernel
theorem dX7_found_26 : decode cX7_found 26 = .ok (.goto 4, 3) := by decide +kernel
theorem dX7_found_29 : decode cX7_found 29 = .ok (.iconst 0, 1) := by decide +kernel
theorem dX7_found_30 : decode cX7_found 30 = .ok (.ior, 1) := by decide +kernel
theorem dX7_found_31 : decode cX7_found 31 = .ok (.istore_n 1, 1) := by decide +kernel
theorem dX7_found_32 : decode cX7_found 32 = .ok (.iinc 2 1, 3) := by decide +kernel
theorem dX7_found_35 : decode cX7_found 35 = .ok (.goto (-31), 3) := by decide +kernel
theorem dX7_found_38 : decode cX7_found 38 = .ok (.iload_n 1, 1) := by decide +kernel
theorem dX7_found_39 : decode cX7_found 39 = .ok (.ireturn, 1) := by decide +kernel
theorem dX7_isAsked_0 : decode cX7_isAsked 0 = .ok (.iload_n 0, 1) := by decide +kernel
theorem dX7_isAsked_1 : decode cX7_isAsked 1 = .ok (.iconst (-1), 1) := by decide +kernel
theorem dX7_isAsked_2 : decode cX7_isAsked 2 = .ok (.if_icmp .eq 8, 3) := by decide +kernel
theorem dX7_isAsked_5 : decode cX7_isAsked 5 = .ok (.iload_n 0, 1) := by decide +kernel
theorem dX7_isAsked_6 : decode cX7_isAsked 6 = .ok (.iload_n 1, 1) := by decide +kernel
theorem dX7_isAsked_7 : decode cX7_isAsked 7 = .ok (.if_icmp .ne 7, 3) := by decide +kernel
theorem dX7_isAsked_10 : decode cX7_isAsked 10 = .ok (.iconst 1, 1) := by decide +kernel
theorem dX7_isAsked_11 : decode cX7_isAsked 11 = .ok (.goto 4, 3) := by decide +kernel
theorem dX7_isAsked_14 : decode cX7_isAsked 14 = .ok (.iconst 0, 1) := by decide +kernel
theorem dX7_isAsked_15 : decode cX7_isAsked 15 = .ok (.ireturn, 1) := by decide +kernel
set_option maxRecDepth 20000 in
theorem ggX7_costOf_X7_isAsked : GoodIn wsX7_costOf wsX7_isAsked := goodIn_r _ [4] (by decide +kernel) (by decide +kernel)
set_option maxRecDepth 20000 in
theorem gX7_costOf_X7_isAsked : GoodIn wsX7_costOf (va_wsS RX7 100 yX7_isAsked wsX7_isAsked) := goodIn_app (goodIn_of _ (by decide +kernel)) ggX7_costOf_X7_isAsked
set_option maxRecDepth 20000 in
theorem ggX7_costOf_X7_know : GoodIn wsX7_costOf wsX7_know := goodIn_r _ [8, 9, 10, 11, 12, 13, 14, 15, 16, 17, 3, 18, 19, 20, 21, 22, 23, 24, 25, 26, 27, 28, 29, 30, 31, 32, 33, 34, 35, 36, 37, 38, 39, 40, 41, 42, 43, 44] (by decide +kernel) (by decide +kernel)
set_option maxRecDepth 20000 in
theorem gX7_costOf_X7_know : GoodIn wsX7_costOf (wsV RX7 97 RX7 yX7_know wsX7_know) := goodIn_app (goodIn_of _ (by decide +kernel)) ggX7_costOf_X7_know
set_option maxRecDepth 20000 in
theorem ggX7_costOf_X7_reduce : GoodIn wsX7_costOf wsX7_reduce := goodIn_r _ [22, 9, 26, 27, 28, 29, 30, 31, 32, 33, 34, 35, 36, 37, 38, 39, 40, 41, 42, 43, 44] (by decide +kernel) (by decide +kernel)
set_option maxRecDepth 20000 in
theorem gX7_costOf_X7_reduce : GoodIn wsX7_costOf (wsV RX7 87 RX7 yX7_reduce wsX7_reduce) := goodIn_app (goodIn_of _ (by decide +kernel)) ggX7_costOf_X7_reduce
theorem dX7_costOf_0 : decode cX7_costOf 0 = .ok (.iconst 0, 1) := by decide +kernel
theorem dX7_costOf_1 : decode cX7_costOf 1 = .ok (.istore 4, 2) := by decide +kernel
theorem dX7_costOf_3 : decode cX7_costOf 3 = .ok (.iconst 0, 1) := by decide +kernel
theorem dX7_costOf_4 : decode cX7_costOf 4 = .ok (.istore 5, 2) := by decide +kernel
theorem dX7_costOf_6 : decode cX7_costOf 6 = .ok (.iload 5, 2) := by decide +kernel
theorem dX7_costOf_8 : decode cX7_costOf 8 = .ok (.bipush 8, 2) := by decide +kernel
theorem dX7_costOf_10 : decode cX7_costOf 10 = .ok (.if_icmp .ge 46, 3) := by decide +kernel
theorem dX7_costOf_13 : decode cX7_costOf 13 = .ok (.iload_n 3, 1) := by decide +kernel
theorem dX7_costOf_14 : decode cX7_costOf 14 = .ok (.iload 5, 2) := by decide +kernel
theorem dX7_costOf_16 : decode cX7_costOf 16 = .ok (.invokestatic 100, 3) := by decide +kernel
theorem dX7_costOf_19 : decode cX7_costOf 19 = .ok (.ifCond .eq 31, 3) := by decide +kernel
theorem dX7_costOf_22 : decode cX7_costOf 22 = .ok (.aload_n 0, 1) := by decide +kernel
theorem dX7_costOf_23 : decode cX7_costOf 23 = .ok (.iconst 1, 1) := by decide +kernel
theorem dX7_costOf_24 : decode cX7_costOf 24 = .ok (.iload_n 1, 1) := by decide +kernel
theorem dX7_costOf_25 : decode cX7_costOf 25 = .ok (.ishl, 1) := by decide +kernel
theorem dX7_costOf_26 : decode cX7_costOf 26 = .ok (.iload 5, 2) := by decide +kernel
theorem dX7_costOf_28 : decode cX7_costOf 28 = .ok (.invokevirtual 97, 3) := by decide +kernel
theorem dX7_costOf_31 : decode cX7_costOf 31 = .ok (.pop, 1) := by decide +kernel
theorem dX7_costOf_32 : decode cX7_costOf 32 = .ok (.iload 4, 2) := by decide +kernel
theorem dX7_costOf_34 : decode cX7_costOf 34 = .ok (.aload_n 0, 1) := by decide +kernel
theorem dX7_costOf_35 : decode cX7_costOf 35 = .ok (.iload_n 2, 1) := by decide +kernel
theorem dX7_costOf_36 : decode cX7_costOf 36 = .ok (.invokevirtual 87, 3) := by decide +kernel
theorem dX7_costOf_39 : decode cX7_costOf 39 = .ok (.ifCond .eq 7, 3) := by decide +kernel
theorem dX7_costOf_42 : decode cX7_costOf 42 = .ok (.iconst 1, 1) := by decide +kernel
theorem dX7_costOf_43 : decode cX7_costOf 43 = .ok (.goto 4, 3) := by decide +kernel
theorem dX7_costOf_46 : decode cX7_costOf 46 = .ok (.iconst 0, 1) := by decide +kernel
theorem dX7_costOf_47 : decode cX7_costOf 47 = .ok (.iadd, 1) := by decide +kernel
theorem dX7_costOf_48 : decode cX7_costOf 48 = .ok (.istore 4, 2) := by decide +kernel
theorem dX7_costOf_50 : decode cX7_costOf 50 = .ok (.iinc 5 1, 3) := by decide +kernel
theorem dX7_costOf_53 : decode cX7_costOf 53 = .ok (.goto (-47), 3) := by decide +kernel
theorem dX7_costOf_56 : decode cX7_costOf 56 = .ok (.iload 4, 2) := by decide +kernel
theorem dX7_costOf_58 : decode cX7_costOf 58 = .ok (.ireturn, 1) := by decide +kernel
set_option maxRecDepth 20000 in
theorem ggX7_wouldTell_X7_isAsked : GoodIn wsX7_wouldTell wsX7_isAsked := goodIn_r _ [5] (by decide +kernel) (by decide +kernel)
set_option maxRecDepth 20000 in
theorem gX7_wouldTell_X7_isAsked : GoodIn wsX7_wouldTell (va_wsS RX7 100 yX7_isAsked wsX7_isAsked) := goodIn_app (goodIn_of _ (by decide +kernel)) ggX7_wouldTell_X7_isAsked
set_option maxRecDepth 20000 in
theorem ggX7_wouldTell_X7_know : GoodIn wsX7_wouldTell wsX7_know := goodIn_r _ [9, 10, 11, 12, 13, 14, 15, 16, 17, 18, 4, 19, 20, 21, 22, 23, 24, 25, 26, 42, 43, 44, 45, 46, 47, 48, 49, 50, 51, 52, 53, 54, 55, 56, 57, 58, 59, 60] (by decide +kernel) (by decide +kernel)
set_option maxRecDepth 20000 in
theorem gX7_wouldTell_X7_know : GoodIn wsX7_wouldTell (wsV RX7 97 RX7 yX7_know wsX7_know) := goodIn_app (goodIn_of _ (by decide +kernel)) ggX7_wouldTell_X7_know
set_option maxRecDepth 20000 in
theorem ggX7_wouldTell_X7_found : GoodIn wsX7_wouldTell wsX7_found := goodIn_r _ [30, 1, 20, 21, 22, 4, 23, 10, 42, 43, 44, 45, 46, 47, 48, 49, 50, 51, 52, 53, 54, 55, 56, 57, 58, 59, 60] (by decide +kernel) (by decide +kernel)
set_option maxRecDepth 20000 in
theorem gX7_wouldTell_X7_found : GoodIn wsX7_wouldTell (wsV RX7 104 RX7 yX7_found wsX7_found) := goodIn_app (goodIn_of _ (by decide +kernel)) ggX7_wouldTell_X7_found
set_option maxRecDepth 20000 in
theorem ggX7_wouldTell_X7_learn : GoodIn wsX7_wouldTell wsX7_learn := goodIn_r _ [19, 10, 20, 21, 22, 4, 23, 24, 25, 26, 42, 43, 44, 45, 46, 47, 48, 49, 50, 51, 52, 53, 54, 55, 56, 57, 58, 59, 60] (by decide +kernel) (by decide +kernel)
set_option maxRecDepth 20000 in
theorem gX7_wouldTell_X7_learn : GoodIn wsX7_wouldTell (wsV RX7 94 RX7 yX7_learn wsX7_learn) := goodIn_app (goodIn_of _ (by decide +kernel)) ggX7_wouldTell_X7_learn
set_option maxRecDepth 20000 in
theorem ggX7_wouldTell_X7_rightOf : GoodIn wsX7_wouldTell wsX7_rightOf := goodIn_r _ [34, 35, 36, 37, 38, 39, 40, 4, 41, 42, 43, 44, 45, 46, 47, 48, 49, 50, 51, 52, 53, 54, 55, 56, 57, 58, 59, 60] (by decide +kernel) (by decide +kernel)
set_option maxRecDepth 20000 in
theorem gX7_wouldTell_X7_rightOf : GoodIn wsX7_wouldTell (wsV RX7 108 RX7 yX7_rightOf wsX7_rightOf) := goodIn_app (goodIn_of _ (by decide +kernel)) ggX7_wouldTell_X7_rightOf
theorem dX7_wouldTell_0 : decode cX7_wouldTell 0 = .ok (.iconst 0, 1) := by decide +kernel
theorem dX7_wouldTell_1 : decode cX7_wouldTell 1 = .ok (.istore 4, 2) := by decide +kernel
theorem dX7_wouldTell_3 : decode cX7_wouldTell 3 = .ok (.iconst 0, 1) := by decide +kernel
theorem dX7_wouldTell_4 : decode cX7_wouldTell 4 = .ok (.istore 5, 2) := by decide +kernel
theorem dX7_wouldTell_6 : decode cX7_wouldTell 6 = .ok (.iload 5, 2) := by decide +kernel
theorem dX7_wouldTell_8 : decode cX7_wouldTell 8 = .ok (.bipush 8, 2) := by decide +kernel
theorem dX7_wouldTell_10 : decode cX7_wouldTell 10 = .ok (.if_icmp .ge 103, 3) := by decide +kernel
theorem dX7_wouldTell_13 : decode cX7_wouldTell 13 = .ok (.iload_n 3, 1) := by decide +kernel
theorem dX7_wouldTell_14 : decode cX7_wouldTell 14 = .ok (.iload 5, 2) := by decide +kernel
theorem dX7_wouldTell_16 : decode cX7_wouldTell 16 = .ok (.invokestatic 100, 3) := by decide +kernel
theorem dX7_wouldTell_19 : decode cX7_wouldTell 19 = .ok (.ifCond .eq 88, 3) := by decide +kernel
theorem dX7_wouldTell_22 : decode cX7_wouldTell 22 = .ok (.aload_n 0, 1) := by decide +kernel
theorem dX7_wouldTell_23 : decode cX7_wouldTell 23 = .ok (.iconst 1, 1) := by decide +kernel
theorem dX7_wouldTell_24 : decode cX7_wouldTell 24 = .ok (.iload_n 1, 1) := by decide +kernel
theorem dX7_wouldTell_25 : decode cX7_wouldTell 25 = .ok (.ishl, 1) := by decide +kernel
theorem dX7_wouldTell_26 : decode cX7_wouldTell 26 = .ok (.iload 5, 2) := by decide +kernel
theorem dX7_wouldTell_28 : decode cX7_wouldTell 28 = .ok (.invokevirtual 97, 3) := by decide +kernel
theorem dX7_wouldTell_31 : decode cX7_wouldTell 31 = .ok (.pop, 1) := by decide +kernel
theorem dX7_wouldTell_32 : decode cX7_wouldTell 32 = .ok (.aload_n 0, 1) := by decide +kernel
theorem dX7_wouldTell_33 : decode cX7_wouldTell 33 = .ok (.invokevirtual 104, 3) := by decide +kernel
theorem dX7_wouldTell_36 : decode cX7_wouldTell 36 = .ok (.istore 6, 2) := by decide +kernel
theorem dX7_wouldTell_38 : decode cX7_wouldTell 38 = .ok (.aload_n 0, 1) := by decide +kernel
theorem dX7_wouldTell_39 : decode cX7_wouldTell 39 = .ok (.iload_n 2, 1) := by decide +kernel
theorem dX7_wouldTell_40 : decode cX7_wouldTell 40 = .ok (.invokevirtual 94, 3) := by decide +kernel
theorem dX7_wouldTell_43 : decode cX7_wouldTell 43 = .ok (.pop, 1) := by decide +kernel
theorem dX7_wouldTell_44 : decode cX7_wouldTell 44 = .ok (.aload_n 0, 1) := by decide +kernel
theorem dX7_wouldTell_45 : decode cX7_wouldTell 45 = .ok (.invokevirtual 104, 3) := by decide +kernel
theorem dX7_wouldTell_48 : decode cX7_wouldTell 48 = .ok (.iload 6, 2) := by decide +kernel
theorem dX7_wouldTell_50 : decode cX7_wouldTell 50 = .ok (.iconst (-1), 1) := by decide +kernel
theorem dX7_wouldTell_51 : decode cX7_wouldTell 51 = .ok (.ixor, 1) := by decide +kernel
theorem dX7_wouldTell_52 : decode cX7_wouldTell 52 = .ok (.iand, 1) := by decide +kernel
theorem dX7_wouldTell_53 : decode cX7_wouldTell 53 = .ok (.istore 7, 2) := by decide +kernel
theorem dX7_wouldTell_55 : decode cX7_wouldTell 55 = .ok (.iconst 0, 1) := by decide +kernel
theorem dX7_wouldTell_56 : decode cX7_wouldTell 56 = .ok (.istore 8, 2) := by decide +kernel
theorem dX7_wouldTell_58 : decode cX7_wouldTell 58 = .ok (.iload 8, 2) := by decide +kernel
theorem dX7_wouldTell_60 : decode cX7_wouldTell 60 = .ok (.aload_n 0, 1) := by decide +kernel
theorem dX7_wouldTell_61 : decode cX7_wouldTell 61 = .ok (.getfield 57, 3) := by decide +kernel
theorem dX7_wouldTell_64 : decode cX7_wouldTell 64 = .ok (.if_icmp .ge 43, 3) := by decide +kernel
theorem dX7_wouldTell_67 : decode cX7_wouldTell 67 = .ok (.iload 4, 2) := by decide +kernel
theorem dX7_wouldTell_69 : decode cX7_wouldTell 69 = .ok (.ifCond .ne 25, 3) := by decide +kernel
theorem dX7_wouldTell_72 : decode cX7_wouldTell 72 = .ok (.iload 7, 2) := by decide +kernel
theorem dX7_wouldTell_74 : decode cX7_wouldTell 74 = .ok (.iload 8, 2) := by decide +kernel
theorem dX7_wouldTell_76 : decode cX7_wouldTell 76 = .ok (.ishr, 1) := by decide +kernel
theorem dX7_wouldTell_77 : decode cX7_wouldTell 77 = .ok (.iconst 1, 1) := by decide +kernel
theorem dX7_wouldTell_78 : decode cX7_wouldTell 78 = .ok (.iand, 1) := by decide +kernel
theorem dX7_wouldTell_79 : decode cX7_wouldTell 79 = .ok (.iconst 1, 1) := by decide +kernel
theorem dX7_wouldTell_80 : decode cX7_wouldTell 80 = .ok (.if_icmp .ne 18, 3) := by decide +kernel
theorem dX7_wouldTell_83 : decode cX7_wouldTell 83 = .ok (.aload_n 0, 1) := by decide +kernel
theorem dX7_wouldTell_84 : decode cX7_wouldTell 84 = .ok (.iload_n 1, 1) := by decide +kernel
theorem dX7_wouldTell_85 : decode cX7_wouldTell 85 = .ok (.iload 8, 2) := by decide +kernel
theorem dX7_wouldTell_87 : decode cX7_wouldTell 87 = .ok (.invokevirtual 108, 3) := by decide +kernel
theorem dX7_wouldTell_90 : decode cX7_wouldTell 90 = .ok (.iconst 2, 1) := by decide +kernel
theorem dX7_wouldTell_91 : decode cX7_wouldTell 91 = .ok (.if_icmp .eq 7, 3) := by decide +kernel
theorem dX7_wouldTell_94 : decode cX7_wouldTell 94 = .ok (.iconst 1, 1) := by decide +kernel
theorem dX7_wouldTell_95 : decode cX7_wouldTell 95 = .ok (.goto 4, 3) := by decide +kernel
theorem dX7_wouldTell_98 : decode cX7_wouldTell 98 = .ok (.iconst 0, 1) := by decide +kernel
theorem dX7_wouldTell_99 : decode cX7_wouldTell 99 = .ok (.istore 4, 2) := by decide +kernel
theorem dX7_wouldTell_101 : decode cX7_wouldTell 101 = .ok (.iinc 8 1, 3) := by decide +kernel
theorem dX7_wouldTell_104 : decode cX7_wouldTell 104 = .ok (.goto (-46), 3) := by decide +kernel
theorem dX7_wouldTell_107 : decode cX7_wouldTell 107 = .ok (.iinc 5 1, 3) := by decide +kernel
theorem dX7_wouldTell_110 : decode cX7_wouldTell 110 = .ok (.goto (-104), 3) := by decide +kernel
theorem dX7_wouldTell_113 : decode cX7_wouldTell 113 = .ok (.iload 4, 2) := by decide +kernel
theorem dX7_wouldTell_115 : decode cX7_wouldTell 115 = .ok (.ireturn, 1) := by decide +kernel
set_option maxRecDepth 20000 in
theorem ggX7_refusal_X7_rightOf : GoodIn wsX7_refusal wsX7_rightOf := goodIn_r _ [9, 10, 3, 11, 12, 13, 14, 8, 15, 56, 57, 58, 59, 60, 61, 62, 63, 64, 65, 66, 67, 68, 69, 70, 71, 72, 73, 74] (by decide +kernel) (by decide +kernel)
set_option maxRecDepth 20000 in
theorem gX7_refusal_X7_rightOf : GoodIn wsX7_refusal (wsV RX7 108 RX7 yX7_rightOf wsX7_rightOf) := goodIn_app (goodIn_of _ (by decide +kernel)) ggX7_refusal_X7_rightOf
set_option maxRecDepth 20000 in
theorem ggX7_refusal_X7_wouldTell : GoodIn wsX7_refusal wsX7_wouldTell := goodIn_r _ [19, 1, 20, 21, 8, 22, 23, 24, 25, 26, 27, 28, 29, 30, 31, 32, 33, 34, 35, 36, 37, 38, 39, 40, 41, 42, 43, 44, 45, 46, 47, 5, 6, 7, 9, 10, 3, 11, 12, 13, 14, 15, 56, 57, 58, 59, 60, 61, 62, 63, 64, 65, 66, 67, 68, 69, 70, 71, 72, 73, 74] (by decide +kernel) (by decide +kernel)
set_option maxRecDepth 20000 in
theorem gX7_refusal_X7_wouldTell : GoodIn wsX7_refusal (wsV RX7 111 RX7 yX7_wouldTell wsX7_wouldTell) := goodIn_app (goodIn_of _ (by decide +kernel)) ggX7_refusal_X7_wouldTell
set_option maxRecDepth 20000 in
theorem ggX7_refusal_X7_spentBy : GoodIn wsX7_refusal wsX7_spentBy := goodIn_r _ [51, 23, 24, 25, 8, 26, 27, 28, 29, 30, 31, 32, 33, 34, 35, 36, 37, 38, 39, 40, 41, 42, 43, 56, 57, 58, 59, 60, 61, 62, 63, 64, 65, 66, 67, 68, 69, 70, 71, 72, 73, 74] (by decide +kernel) (by decide +kernel)
set_option maxRecDepth 20000 in
theorem gX7_refusal_X7_spentBy : GoodIn wsX7_refusal (wsV RX7 114 RX7 yX7_spentBy wsX7_spentBy) := goodIn_app (goodIn_of _ (by decide +kernel)) ggX7_refusal_X7_spentBy
set_option maxRecDepth 20000 in
theorem ggX7_refusal_X7_costOf : GoodIn wsX7_refusal wsX7_costOf := goodIn_r _ [55, 20, 21, 8, 22, 23, 24, 25, 26, 27, 28, 29, 30, 31, 32, 33, 34, 35, 36, 37, 38, 39, 40, 41, 42, 43, 56, 57, 58, 59, 60, 61, 62, 63, 64, 65, 66, 67, 68, 69, 70, 71, 72, 73, 74] (by decide +kernel) (by decide +kernel)
set_option maxRecDepth 20000 in
theorem gX7_refusal_X7_costOf : GoodIn wsX7_refusal (wsV RX7 117 RX7 yX7_costOf wsX7_costOf) := goodIn_app (goodIn_of _ (by decide +kernel)) ggX7_refusal_X7_costOf
theorem dX7_refusal_0 : decode cX7_refusal 0 = .ok (.iconst 1, 1) := by decide +kernel
theorem dX7_refusal_1 : decode cX7_refusal 1 = .ok (.istore 4, 2) := by decide +kernel
theorem dX7_refusal_3 : decode cX7_refusal 3 = .ok (.iconst 0, 1) := by decide +kernel
theorem dX7_refusal_4 : decode cX7_refusal 4 = .ok (.istore 5, 2) := by decide +kernel
theorem dX7_refusal_6 : decode cX7_refusal 6 = .ok (.iconst 0, 1) := by decide +kernel
theorem dX7_refusal_7 : decode cX7_refusal 7 = .ok (.istore 6, 2) := by decide +kernel
theorem dX7_refusal_9 : decode cX7_refusal 9 = .ok (.iload 6, 2) := by decide +kernel
theorem dX7_refusal_11 : decode cX7_refusal 11 = .ok (.aload_n 0, 1) := by decide +kernel
theorem dX7_refusal_12 : decode cX7_refusal 12 = .ok (.getfield 57, 3) := by decide +kernel
theorem dX7_refusal_15 : decode cX7_refusal 15 = .ok (.if_icmp .ge 67, 3) := by decide +kernel
theorem dX7_refusal_18 : decode cX7_refusal 18 = .ok (.iload_n 2, 1) := by decide +kernel
theorem dX7_refusal_19 : decode cX7_refusal 19 = .ok (.iload 6, 2) := by decide +kernel
theorem dX7_refusal_21 : decode cX7_refusal 21 = .ok (.ishr, 1) := by decide +kernel
theorem dX7_refusal_22 : decode cX7_refusal 22 = .ok (.iconst 1, 1) := by decide +kernel
theorem dX7_refusal_23 : decode cX7_refusal 23 = .ok (.iand, 1) := by decide +kernel
theorem dX7_refusal_24 : decode cX7_refusal 24 = .ok (.iconst 1, 1) := by decide +kernel
theorem dX7_refusal_25 : decode cX7_refusal 25 = .ok (.if_icmp .ne 51, 3) := by decide +kernel
theorem dX7_refusal_28 : decode cX7_refusal 28 = .ok (.iload 4, 2) := by decide +kernel
theorem dX7_refusal_30 : decode cX7_refusal 30 = .ok (.ifCond .eq 17, 3) := by decide +kernel
theorem dX7_refusal_33 : decode cX7_refusal 33 = .ok (.aload_n 0, 1) := by decide +kernel
theorem dX7_refusal_34 : decode cX7_refusal 34 = .ok (.iload_n 1, 1) := by decide +kernel
theorem dX7_refusal_35 : decode cX7_refusal 35 = .ok (.iload 6, 2) := by decide +kernel
theorem dX7_refusal_37 : decode cX7_refusal 37 = .ok (.invokevirtual 108, 3) := by decide +kernel
theorem dX7_refusal_40 : decode cX7_refusal 40 = .ok (.ifCond .eq 7, 3) := by decide +kernel
theorem dX7_refusal_43 : decode cX7_refusal 43 = .ok (.iconst 1, 1) := by decide +kernel
theorem dX7_refusal_44 : decode cX7_refusal 44 = .ok (.goto 4, 3) := by decide +kernel
theorem dX7_refusal_47 : decode cX7_refusal 47 = .ok (.iconst 0, 1) := by decide +kernel
theorem dX7_refusal_48 : decode cX7_refusal 48 = .ok (.istore 4, 2) := by decide +kernel
theorem dX7_refusal_50 : decode cX7_refusal 50 = .ok (.iload 5, 2) := by decide +kernel
theorem dX7_refusal_52 : decode cX7_refusal 52 = .ok (.ifCond .ne 17, 3) := by decide +kernel
theorem dX7_refusal_55 : decode cX7_refusal 55 = .ok (.aload_n 0, 1) := by decide +kernel
theorem dX7_refusal_56 : decode cX7_refusal 56 = .ok (.getfield 13, 3) := by decide +kernel
theorem dX7_refusal_59 : decode cX7_refusal 59 = .ok (.iload 6, 2) := by decide +kernel
theorem dX7_refusal_61 : decode cX7_refusal 61 = .ok (.iaload, 1) := by decide +kernel
theorem dX7_refusal_62 : decode cX7_refusal 62 = .ok (.aload_n 0, 1) := by decide +kernel
theorem dX7_refusal_63 : decode cX7_refusal 63 = .ok (.getfield 84, 3) := by decide +kernel
theorem dX7_refusal_66 : decode cX7_refusal 66 = .ok (.if_icmp .lt 7, 3) := by decide +kernel
theorem dX7_refusal_69 : decode cX7_refusal 69 = .ok (.iconst 1, 1) := by decide +kernel
theorem dX7_refusal_70 : decode cX7_refusal 70 = .ok (.goto 4, 3) := by decide +kernel
theorem dX7_refusal_73 : decode cX7_refusal 73 = .ok (.iconst 0, 1) := by decide +kernel
theorem dX7_refusal_74 : decode cX7_refusal 74 = .ok (.istore 5, 2) := by decide +kernel
theorem dX7_refusal_76 : decode cX7_refusal 76 = .ok (.iinc 6 1, 3) := by decide +kernel
theorem dX7_refusal_79 : decode cX7_refusal 79 = .ok (.goto (-70), 3) := by decide +kernel
theorem dX7_refusal_82 : decode cX7_refusal 82 = .ok (.iload 4, 2) := by decide +kernel
theorem dX7_refusal_84 : decode cX7_refusal 84 = .ok (.ifCond .ne 5, 3) := by decide +kernel
theorem dX7_refusal_87 : decode cX7_refusal 87 = .ok (.iconst (-1), 1) := by decide +kernel
theorem dX7_refusal_88 : decode cX7_refusal 88 = .ok (.ireturn, 1) := by decide +kernel
theorem dX7_refusal_89 : decode cX7_refusal 89 = .ok (.iload 5, 2) := by decide +kernel
theorem dX7_refusal_91 : decode cX7_refusal 91 = .ok (.ifCond .eq 6, 3) := by decide +kernel
theorem dX7_refusal_94 : decode cX7_refusal 94 = .ok (.bipush (-2), 2) := by decide +kernel
theorem dX7_refusal_96 : decode cX7_refusal 96 = .ok (.ireturn, 1) := by decide +kernel
theorem dX7_refusal_97 : decode cX7_refusal 97 = .ok (.aload_n 0, 1) := by decide +kernel
theorem dX7_refusal_98 : decode cX7_refusal 98 = .ok (.iload_n 1, 1) := by decide +kernel
theorem dX7_refusal_99 : decode cX7_refusal 99 = .ok (.iload_n 2, 1) := by decide +kernel
theorem dX7_refusal_100 : decode cX7_refusal 100 = .ok (.iload_n 3, 1) := by decide +kernel
theorem dX7_refusal_101 : decode cX7_refusal 101 = .ok (.invokevirtual 111, 3) := by decide +kernel
theorem dX7_refusal_104 : decode cX7_refusal 104 = .ok (.ifCond .eq 6, 3) := by decide +kernel
theorem dX7_refusal_107 : decode cX7_refusal 107 = .ok (.bipush (-3), 2) := by decide +kernel
theorem dX7_refusal_109 : decode cX7_refusal 109 = .ok (.ireturn, 1) := by decide +kernel
theorem dX7_refusal_110 : decode cX7_refusal 110 = .ok (.aload_n 0, 1) := by decide +kernel
theorem dX7_refusal_111 : decode cX7_refusal 111 = .ok (.iload_n 1, 1) := by decide +kernel
theorem dX7_refusal_112 : decode cX7_refusal 112 = .ok (.invokevirtual 114, 3) := by decide +kernel
theorem dX7_refusal_115 : decode cX7_refusal 115 = .ok (.aload_n 0, 1) := by decide +kernel
theorem dX7_refusal_116 : decode cX7_refusal 116 = .ok (.iload_n 1, 1) := by decide +kernel
theorem dX7_refusal_117 : decode cX7_refusal 117 = .ok (.iload_n 2, 1) := by decide +kernel
theorem dX7_refusal_118 : decode cX7_refusal 118 = .ok (.iload_n 3, 1) := by decide +kernel
theorem dX7_refusal_119 : decode cX7_refusal 119 = .ok (.invokevirtual 117, 3) := by decide +kernel
theorem dX7_refusal_122 : decode cX7_refusal 122 = .ok (.iadd, 1) := by decide +kernel
theorem dX7_refusal_123 : decode cX7_refusal 123 = .ok (.aload_n 0, 1) := by decide +kernel
theorem dX7_refusal_124 : decode cX7_refusal 124 = .ok (.getfield 16, 3) := by decide +kernel
theorem dX7_refusal_127 : decode cX7_refusal 127 = .ok (.iload_n 1, 1) := by decide +kernel
theorem dX7_refusal_128 : decode cX7_refusal 128 = .ok (.iaload, 1) := by decide +kernel
theorem dX7_refusal_129 : decode cX7_refusal 129 = .ok (.if_icmp .le 8, 3) := by decide +kernel
theorem dX7_refusal_132 : decode cX7_refusal 132 = .ok (.bipush (-4), 2) := by decide +kernel
theorem dX7_refusal_134 : decode cX7_refusal 134 = .ok (.goto 4, 3) := by decide +kernel
theorem dX7_refusal_137 : decode cX7_refusal 137 = .ok (.iconst 0, 1) := by decide +kernel
theorem dX7_refusal_138 : decode cX7_refusal 138 = .ok (.ireturn, 1) := by decide +kernel
set_option maxRecDepth 20000 in
theorem ggX7_isQuestion_X7_in : GoodIn wsX7_isQuestion wsX7_in := goodIn_r _ [5] (by decide +kernel) (by decide +kernel)
set_option maxRecDepth 20000 in
theorem gX7_isQuestion_X7_in : GoodIn wsX7_isQuestion (va_wsS RX7 60 yX7_in wsX7_in) := goodIn_app (goodIn_of _ (by decide +kernel)) ggX7_isQuestion_X7_in
theorem dX7_isQuestion_0 : decode cX7_isQuestion 0 = .ok (.iload_n 1, 1) := by decide +kernel
theorem dX7_isQuestion_1 : decode cX7_isQuestion 1 = .ok (.ifCond .le 27, 3) := by decide +kernel
theorem dX7_isQuestion_4 : decode cX7_isQuestion 4 = .ok (.iload_n 1, 1) := by decide +kernel
theorem dX7_isQuestion_5 : decode cX7_isQuestion 5 = .ok (.iconst 1, 1) := by decide +kernel
theorem dX7_isQuestion_6 : decode cX7_isQuestion 6 = .ok (.aload_n 0, 1) := by decide +kernel
theorem dX7_isQuestion_7 : decode cX7_isQuestion 7 = .ok (.getfield 57, 3) := by decide +kernel
theorem dX7_isQuestion_10 : decode cX7_isQuestion 10 = .ok (.ishl, 1) := by decide +kernel
theorem dX7_isQuestion_11 : decode cX7_isQuestion 11 = .ok (.if_icmp .ge 17, 3) := by decide +kernel
theorem dX7_isQuestion_14 : decode cX7_isQuestion 14 = .ok (.iload_n 2, 1) := by decide +kernel
theorem dX7_isQuestion_15 : decode cX7_isQuestion 15 = .ok (.iconst (-1), 1) := by decide +kernel
theorem dX7_isQuestion_16 : decode cX7_isQuestion 16 = .ok (.bipush 7, 2) := by decide +kernel
theorem dX7_isQuestion_18 : decode cX7_isQuestion 18 = .ok (.invokestatic 60, 3) := by decide +kernel
theorem dX7_isQuestion_21 : decode cX7_isQuestion 21 = .ok (.ifCond .eq 7, 3) := by decide +kernel
theorem dX7_isQuestion_24 : decode cX7_isQuestion 24 = .ok (.iconst 1, 1) := by decide +kernel
theorem dX7_isQuestion_25 : decode cX7_isQuestion 25 = .ok (.goto 4, 3) := by decide +kernel
theorem dX7_isQuestion_28 : decode cX7_isQuestion 28 = .ok (.iconst 0, 1) := by decide +kernel
theorem dX7_isQuestion_29 : decode cX7_isQuestion 29 = .ok (.ireturn, 1) := by decide +kernel
set_option maxRecDepth 20000 in
theorem ggX7_ask_X7_isParty : GoodIn wsX7_ask wsX7_isParty := goodIn_r _ [15, 16, 17, 18, 14, 19, 78, 79, 80, 81, 82, 83, 84, 85, 86, 87, 88, 89, 90, 91, 92, 93, 94, 95, 96] (by decide +kernel) (by decide +kernel)
set_option maxRecDepth 20000 in
theorem gX7_ask_X7_isParty : GoodIn wsX7_ask (wsV RX7 81 RX7 yX7_isParty wsX7_isParty) := goodIn_app (goodIn_of _ (by decide +kernel)) ggX7_ask_X7_isParty
set_option maxRecDepth 20000 in
theorem ggX7_ask_X7_isQuestion : GoodIn wsX7_ask wsX7_isQuestion := goodIn_r _ [23, 3, 17, 18, 14, 19, 78, 79, 80, 81, 82, 83, 84, 85, 86, 87, 88, 89, 90, 91, 92, 93, 94, 95, 96] (by decide +kernel) (by decide +kernel)
set_option maxRecDepth 20000 in
theorem gX7_ask_X7_isQuestion : GoodIn wsX7_ask (wsV RX7 121 RX7 yX7_isQuestion wsX7_isQuestion) := goodIn_app (goodIn_of _ (by decide +kernel)) ggX7_ask_X7_isQuestion
set_option maxRecDepth 20000 in
theorem ggX7_ask_X7_goesWell : GoodIn wsX7_ask wsX7_goesWell := goodIn_r _ [27, 28, 78, 79, 80, 81, 82, 83, 84, 85, 86, 87, 88, 89, 90, 91, 92, 93, 94, 95, 96] (by decide +kernel) (by decide +kernel)
set_option maxRecDepth 20000 in
theorem gX7_ask_X7_goesWell : GoodIn wsX7_ask (wsV RX7 67 RX7 yX7_goesWell wsX7_goesWell) := goodIn_app (goodIn_of _ (by decide +kernel)) ggX7_ask_X7_goesWell
set_option maxRecDepth 20000 in
theorem ggX7_ask_X7_refusal : GoodIn wsX7_ask wsX7_refusal := goodIn_r _ [32, 3, 33, 10, 34, 35, 36, 37, 14, 38, 39, 40, 41, 17, 18, 19, 42, 43, 44, 45, 46, 47, 48, 49, 50, 51, 52, 53, 1, 54, 5, 7, 6, 55, 56, 57, 58, 59, 60, 61, 62, 63, 64, 65, 66, 67, 68, 69, 70, 71, 72, 73, 74, 75, 76, 77, 78, 79, 80, 81, 82, 83, 84, 85, 86, 87, 88, 89, 90, 91, 92, 93, 94, 95, 96] (by decide +kernel) (by decide +kernel)
set_option maxRecDepth 20000 in
theorem gX7_ask_X7_refusal : GoodIn wsX7_ask (wsV RX7 124 RX7 yX7_refusal wsX7_refusal) := goodIn_app (goodIn_of _ (by decide +kernel)) ggX7_ask_X7_refusal
theorem dX7_ask_0 : decode cX7_ask 0 = .ok (.aload_n 0, 1) := by decide +kernel
theorem dX7_ask_1 : decode cX7_ask 1 = .ok (.iload_n 1, 1) := by decide +kernel
theorem dX7_ask_2 : decode cX7_ask 2 = .ok (.invokevirtual 81, 3) := by decide +kernel
theorem dX7_ask_5 : decode cX7_ask 5 = .ok (.istore 4, 2) := by decide +kernel
theorem dX7_ask_7 : decode cX7_ask 7 = .ok (.aload_n 0, 1) := by decide +kernel
theorem dX7_ask_8 : decode cX7_ask 8 = .ok (.iload 4, 2) := by decide +kernel
theorem dX7_ask_10 : decode cX7_ask 10 = .ok (.ifCond .ne 7, 3) := by decide +kernel
theorem dX7_ask_13 : decode cX7_ask 13 = .ok (.iconst 1, 1) := by decide +kernel
theorem dX7_ask_14 : decode cX7_ask 14 = .ok (.goto 31, 3) := by decide +kernel
theorem dX7_ask_17 : decode cX7_ask 17 = .ok (.aload_n 0, 1) := by decide +kernel
theorem dX7_ask_18 : decode cX7_ask 18 = .ok (.iload_n 2, 1) := by decide +kernel
theorem dX7_ask_19 : decode cX7_ask 19 = .ok (.iload_n 3, 1) := by decide +kernel
theorem dX7_ask_20 : decode cX7_ask 20 = .ok (.invokevirtual 121, 3) := by decide +kernel
theorem dX7_ask_23 : decode cX7_ask 23 = .ok (.ifCond .ne 7, 3) := by decide +kernel
theorem dX7_ask_26 : decode cX7_ask 26 = .ok (.iconst 2, 1) := by decide +kernel
theorem dX7_ask_27 : decode cX7_ask 27 = .ok (.goto 18, 3) := by decide +kernel
theorem dX7_ask_30 : decode cX7_ask 30 = .ok (.aload_n 0, 1) := by decide +kernel
theorem dX7_ask_31 : decode cX7_ask 31 = .ok (.getfield 71, 3) := by decide +kernel
theorem dX7_ask_34 : decode cX7_ask 34 = .ok (.sipush 150, 3) := by decide +kernel
theorem dX7_ask_37 : decode cX7_ask 37 = .ok (.if_icmp .ne 7, 3) := by decide +kernel
theorem dX7_ask_40 : decode cX7_ask 40 = .ok (.iconst 3, 1) := by decide +kernel
theorem dX7_ask_41 : decode cX7_ask 41 = .ok (.goto 4, 3) := by decide +kernel
theorem dX7_ask_44 : decode cX7_ask 44 = .ok (.iconst 0, 1) := by decide +kernel
theorem dX7_ask_45 : decode cX7_ask 45 = .ok (.invokevirtual 67, 3) := by decide +kernel
theorem dX7_ask_48 : decode cX7_ask 48 = .ok (.ifCond .ne 5, 3) := by decide +kernel
theorem dX7_ask_51 : decode cX7_ask 51 = .ok (.iconst 0, 1) := by decide +kernel
theorem dX7_ask_52 : decode cX7_ask 52 = .ok (.ireturn, 1) := by decide +kernel
theorem dX7_ask_53 : decode cX7_ask 53 = .ok (.aload_n 0, 1) := by decide +kernel
theorem dX7_ask_54 : decode cX7_ask 54 = .ok (.iload_n 1, 1) := by decide +kernel
theorem dX7_ask_55 : decode cX7_ask 55 = .ok (.iload_n 2, 1) := by decide +kernel
theorem dX7_ask_56 : decode cX7_ask 56 = .ok (.iload_n 3, 1) := by decide +kernel
theorem dX7_ask_57 : decode cX7_ask 57 = .ok (.invokevirtual 124, 3) := by decide +kernel
theorem dX7_ask_60 : decode cX7_ask 60 = .ok (.istore 5, 2) := by decide +kernel
theorem dX7_ask_62 : decode cX7_ask 62 = .ok (.aload_n 0, 1) := by decide +kernel
theorem dX7_ask_63 : decode cX7_ask 63 = .ok (.getfield 47, 3) := by decide +kernel
theorem dX7_ask_66 : decode cX7_ask 66 = .ok (.bipush 6, 2) := by decide +kernel
theorem dX7_ask_68 : decode cX7_ask 68 = .ok (.iload_n 1, 1) := by decide +kernel
theorem dX7_ask_69 : decode cX7_ask 69 = .ok (.imul, 1) := by decide +kernel
theorem dX7_ask_70 : decode cX7_ask 70 = .ok (.iload 5, 2) := by decide +kernel
theorem dX7_ask_72 : decode cX7_ask 72 = .ok (.isub, 1) := by decide +kernel
theorem dX7_ask_73 : decode cX7_ask 73 = .ok (.dup2, 1) := by decide +kernel
theorem dX7_ask_74 : decode cX7_ask 74 = .ok (.iaload, 1) := by decide +kernel
theorem dX7_ask_75 : decode cX7_ask 75 = .ok (.iconst 1, 1) := by decide +kernel
theorem dX7_ask_76 : decode cX7_ask 76 = .ok (.iadd, 1) := by decide +kernel
theorem dX7_ask_77 : decode cX7_ask 77 = .ok (.iastore, 1) := by decide +kernel
theorem dX7_ask_78 : decode cX7_ask 78 = .ok (.iload 5, 2) := by decide +kernel
theorem dX7_ask_80 : decode cX7_ask 80 = .ok (.ifCond .eq 6, 3) := by decide +kernel
theorem dX7_ask_83 : decode cX7_ask 83 = .ok (.iload 5, 2) := by decide +kernel
theorem dX7_ask_85 : decode cX7_ask 85 = .ok (.ireturn, 1) := by decide +kernel
theorem dX7_ask_86 : decode cX7_ask 86 = .ok (.iconst 0, 1) := by decide +kernel
theorem dX7_ask_87 : decode cX7_ask 87 = .ok (.istore 6, 2) := by decide +kernel
theorem dX7_ask_89 : decode cX7_ask 89 = .ok (.iconst 0, 1) := by decide +kernel
theorem dX7_ask_90 : decode cX7_ask 90 = .ok (.istore 7, 2) := by decide +kernel
theorem dX7_ask_92 : decode cX7_ask 92 = .ok (.iload 7, 2) := by decide +kernel
theorem dX7_ask_94 : decode cX7_ask 94 = .ok (.aload_n 0, 1) := by decide +kernel
theorem dX7_ask_95 : decode cX7_ask 95 = .ok (.getfield 57, 3) := by decide +kernel
theorem dX7_ask_98 : decode cX7_ask 98 = .ok (.if_icmp .ge 35, 3) := by decide +kernel
theorem dX7_ask_101 : decode cX7_ask 101 = .ok (.iload 6, 2) := by decide +kernel
theorem dX7_ask_103 : decode cX7_ask 103 = .ok (.iload_n 2, 1) := by decide +kernel
theorem dX7_ask_104 : decode cX7_ask 104 = .ok (.iload 7, 2) := by decide +kernel
theorem dX7_ask_106 : decode cX7_ask 106 = .ok (.ishr, 1) := by decide +kernel
theorem dX7_ask_107 : decode cX7_ask 107 = .ok (.iconst 1, 1) := by decide +kernel
theorem dX7_ask_108 : decode cX7_ask 108 = .ok (.iand, 1) := by decide +kernel
theorem dX7_ask_109 : decode cX7_ask 109 = .ok (.iconst 1, 1) := by decide +kernel
theorem dX7_ask_110 : decode cX7_ask 110 = .ok (.if_icmp .ne 13, 3) := by decide +kernel
theorem dX7_ask_113 : decode cX7_ask 113 = .ok (.aload_n 0, 1) := by decide +kernel
theorem dX7_ask_114 : decode cX7_ask 114 = .ok (.getfield 7, 3) := by decide +kernel
theorem dX7_ask_117 : decode cX7_ask 117 = .ok (.iload 7, 2) := by decide +kernel
theorem dX7_ask_119 : decode cX7_ask 119 = .ok (.iaload, 1) := by decide +kernel
theorem dX7_ask_120 : decode cX7_ask 120 = .ok (.goto 4, 3) := by decide +kernel
theorem dX7_ask_123 : decode cX7_ask 123 = .ok (.iconst 0, 1) := by decide +kernel
theorem dX7_ask_124 : decode cX7_ask 124 = .ok (.ixor, 1) := by decide +kernel
theorem dX7_ask_125 : decode cX7_ask 125 = .ok (.istore 6, 2) := by decide +kernel
theorem dX7_ask_127 : decode cX7_ask 127 = .ok (.iinc 7 1, 3) := by decide +kernel
theorem dX7_ask_130 : decode cX7_ask 130 = .ok (.goto (-38), 3) := by decide +kernel
theorem dX7_ask_133 : decode cX7_ask 133 = .ok (.aload_n 0, 1) := by decide +kernel
theorem dX7_ask_134 : decode cX7_ask 134 = .ok (.getfield 28, 3) := by decide +kernel
theorem dX7_ask_137 : decode cX7_ask 137 = .ok (.aload_n 0, 1) := by decide +kernel
theorem dX7_ask_138 : decode cX7_ask 138 = .ok (.getfield 71, 3) := by decide +kernel
theorem dX7_ask_141 : decode cX7_ask 141 = .ok (.iload_n 1, 1) := by decide +kernel
theorem dX7_ask_142 : decode cX7_ask 142 = .ok (.iastore, 1) := by decide +kernel
theorem dX7_ask_143 : decode cX7_ask 143 = .ok (.aload_n 0, 1) := by decide +kernel
theorem dX7_ask_144 : decode cX7_ask 144 = .ok (.getfield 31, 3) := by decide +kernel
theorem dX7_ask_147 : decode cX7_ask 147 = .ok (.aload_n 0, 1) := by decide +kernel
theorem dX7_ask_148 : decode cX7_ask 148 = .ok (.getfield 71, 3) := by decide +kernel
theorem dX7_ask_151 : decode cX7_ask 151 = .ok (.iload_n 2, 1) := by decide +kernel
theorem dX7_ask_152 : decode cX7_ask 152 = .ok (.iastore, 1) := by decide +kernel
theorem dX7_ask_153 : decode cX7_ask 153 = .ok (.aload_n 0, 1) := by decide +kernel
theorem dX7_ask_154 : decode cX7_ask 154 = .ok (.getfield 34, 3) := by decide +kernel
theorem dX7_ask_157 : decode cX7_ask 157 = .ok (.aload_n 0, 1) := by decide +kernel
theorem dX7_ask_158 : decode cX7_ask 158 = .ok (.getfield 71, 3) := by decide +kernel
theorem dX7_ask_161 : decode cX7_ask 161 = .ok (.iload_n 3, 1) := by decide +kernel
theorem dX7_ask_162 : decode cX7_ask 162 = .ok (.iastore, 1) := by decide +kernel
theorem dX7_ask_163 : decode cX7_ask 163 = .ok (.aload_n 0, 1) := by decide +kernel
theorem dX7_ask_164 : decode cX7_ask 164 = .ok (.getfield 37, 3) := by decide +kernel
theorem dX7_ask_167 : decode cX7_ask 167 = .ok (.aload_n 0, 1) := by decide +kernel
theorem dX7_ask_168 : decode cX7_ask 168 = .ok (.getfield 71, 3) := by decide +kernel
theorem dX7_ask_171 : decode cX7_ask 171 = .ok (.iload_n 3, 1) := by decide +kernel
theorem dX7_ask_172 : decode cX7_ask 172 = .ok (.iconst (-1), 1) := by decide +kernel
theorem dX7_ask_173 : decode cX7_ask 173 = .ok (.if_icmp .ne 8, 3) := by decide +kernel
theorem dX7_ask_176 : decode cX7_ask 176 = .ok (.iload 6, 2) := by decide +kernel
theorem dX7_ask_178 : decode cX7_ask 178 = .ok (.goto 9, 3) := by decide +kernel
theorem dX7_ask_181 : decode cX7_ask 181 = .ok (.iload 6, 2) := by decide +kernel
theorem dX7_ask_183 : decode cX7_ask 183 = .ok (.iload_n 3, 1) := by decide +kernel
theorem dX7_ask_184 : decode cX7_ask 184 = .ok (.ishr, 1) := by decide +kernel
theorem dX7_ask_185 : decode cX7_ask 185 = .ok (.iconst 1, 1) := by decide +kernel
theorem dX7_ask_186 : decode cX7_ask 186 = .ok (.iand, 1) := by decide +kernel
theorem dX7_ask_187 : decode cX7_ask 187 = .ok (.iastore, 1) := by decide +kernel
theorem dX7_ask_188 : decode cX7_ask 188 = .ok (.aload_n 0, 1) := by decide +kernel
theorem dX7_ask_189 : decode cX7_ask 189 = .ok (.getfield 40, 3) := by decide +kernel
theorem dX7_ask_192 : decode cX7_ask 192 = .ok (.aload_n 0, 1) := by decide +kernel
theorem dX7_ask_193 : decode cX7_ask 193 = .ok (.getfield 71, 3) := by decide +kernel
theorem dX7_ask_196 : decode cX7_ask 196 = .ok (.aload_n 0, 1) := by decide +kernel
theorem dX7_ask_197 : decode cX7_ask 197 = .ok (.getfield 84, 3) := by decide +kernel
theorem dX7_ask_200 : decode cX7_ask 200 = .ok (.iastore, 1) := by decide +kernel
theorem dX7_ask_201 : decode cX7_ask 201 = .ok (.aload_n 0, 1) := by decide +kernel
theorem dX7_ask_202 : decode cX7_ask 202 = .ok (.dup, 1) := by decide +kernel
theorem dX7_ask_203 : decode cX7_ask 203 = .ok (.getfield 71, 3) := by decide +kernel
theorem dX7_ask_206 : decode cX7_ask 206 = .ok (.iconst 1, 1) := by decide +kernel
theorem dX7_ask_207 : decode cX7_ask 207 = .ok (.iadd, 1) := by decide +kernel
theorem dX7_ask_208 : decode cX7_ask 208 = .ok (.putfield 71, 3) := by decide +kernel
theorem dX7_ask_211 : decode cX7_ask 211 = .ok (.aload_n 0, 1) := by decide +kernel
theorem dX7_ask_212 : decode cX7_ask 212 = .ok (.getfield 37, 3) := by decide +kernel
theorem dX7_ask_215 : decode cX7_ask 215 = .ok (.aload_n 0, 1) := by decide +kernel
theorem dX7_ask_216 : decode cX7_ask 216 = .ok (.getfield 71, 3) := by decide +kernel
theorem dX7_ask_219 : decode cX7_ask 219 = .ok (.iconst 1, 1) := by decide +kernel
theorem dX7_ask_220 : decode cX7_ask 220 = .ok (.isub, 1) := by decide +kernel
theorem dX7_ask_221 : decode cX7_ask 221 = .ok (.iaload, 1) := by decide +kernel
theorem dX7_ask_222 : decode cX7_ask 222 = .ok (.ireturn, 1) := by decide +kernel
set_option maxRecDepth 20000 in
theorem ggX7_cost_X7_isParty : GoodIn wsX7_cost wsX7_isParty := goodIn_r _ [5, 6, 7, 8, 4, 9, 48, 49, 50, 51, 52, 53, 54, 55, 56, 57, 58, 59, 60, 61, 62, 63, 64, 65, 66] (by decide +kernel) (by decide +kernel)
set_option maxRecDepth 20000 in
theorem gX7_cost_X7_isParty : GoodIn wsX7_cost (wsV RX7 81 RX7 yX7_isParty wsX7_isParty) := goodIn_app (goodIn_of _ (by decide +kernel)) ggX7_cost_X7_isParty
set_option maxRecDepth 20000 in
theorem ggX7_cost_X7_isQuestion : GoodIn wsX7_cost wsX7_isQuestion := goodIn_r _ [13, 14, 7, 8, 4, 9, 48, 49, 50, 51, 52, 53, 54, 55, 56, 57, 58, 59, 60, 61, 62, 63, 64, 65, 66] (by decide +kernel) (by decide +kernel)
set_option maxRecDepth 20000 in
theorem gX7_cost_X7_isQuestion : GoodIn wsX7_cost (wsV RX7 121 RX7 yX7_isQuestion wsX7_isQuestion) := goodIn_app (goodIn_of _ (by decide +kernel)) ggX7_cost_X7_isQuestion
set_option maxRecDepth 20000 in
theorem ggX7_cost_X7_goesWell : GoodIn wsX7_cost wsX7_goesWell := goodIn_r _ [18, 19, 48, 49, 50, 51, 52, 53, 54, 55, 56, 57, 58, 59, 60, 61, 62, 63, 64, 65, 66] (by decide +kernel) (by decide +kernel)
set_option maxRecDepth 20000 in
theorem gX7_cost_X7_goesWell : GoodIn wsX7_cost (wsV RX7 67 RX7 yX7_goesWell wsX7_goesWell) := goodIn_app (goodIn_of _ (by decide +kernel)) ggX7_cost_X7_goesWell
set_option maxRecDepth 20000 in
theorem ggX7_cost_X7_costOf : GoodIn wsX7_cost wsX7_costOf := goodIn_r _ [23, 24, 25, 4, 26, 27, 28, 29, 30, 31, 32, 33, 34, 35, 36, 37, 38, 39, 40, 41, 42, 43, 44, 45, 46, 47, 48, 49, 50, 51, 52, 53, 54, 55, 56, 57, 58, 59, 60, 61, 62, 63, 64, 65, 66] (by decide +kernel) (by decide +kernel)
set_option maxRecDepth 20000 in
theorem gX7_cost_X7_costOf : GoodIn wsX7_cost (wsV RX7 117 RX7 yX7_costOf wsX7_costOf) := goodIn_app (goodIn_of _ (by decide +kernel)) ggX7_cost_X7_costOf
theorem dX7_cost_0 : decode cX7_cost 0 = .ok (.aload_n 0, 1) := by decide +kernel
theorem dX7_cost_1 : decode cX7_cost 1 = .ok (.iload_n 1, 1) := by decide +kernel
theorem dX7_cost_2 : decode cX7_cost 2 = .ok (.invokevirtual 81, 3) := by decide +kernel
theorem dX7_cost_5 : decode cX7_cost 5 = .ok (.istore 4, 2) := by decide +kernel
theorem dX7_cost_7 : decode cX7_cost 7 = .ok (.aload_n 0, 1) := by decide +kernel
theorem dX7_cost_8 : decode cX7_cost 8 = .ok (.iload 4, 2) := by decide +kernel
theorem dX7_cost_10 : decode cX7_cost 10 = .ok (.ifCond .ne 7, 3) := by decide +kernel
theorem dX7_cost_13 : decode cX7_cost 13 = .ok (.iconst 1, 1) := by decide +kernel
theorem dX7_cost_14 : decode cX7_cost 14 = .ok (.goto 17, 3) := by decide +kernel
theorem dX7_cost_17 : decode cX7_cost 17 = .ok (.aload_n 0, 1) := by decide +kernel
theorem dX7_cost_18 : decode cX7_cost 18 = .ok (.iload_n 2, 1) := by decide +kernel
theorem dX7_cost_19 : decode cX7_cost 19 = .ok (.iload_n 3, 1) := by decide +kernel
theorem dX7_cost_20 : decode cX7_cost 20 = .ok (.invokevirtual 121, 3) := by decide +kernel
theorem dX7_cost_23 : decode cX7_cost 23 = .ok (.ifCond .eq 7, 3) := by decide +kernel
theorem dX7_cost_26 : decode cX7_cost 26 = .ok (.iconst 0, 1) := by decide +kernel
theorem dX7_cost_27 : decode cX7_cost 27 = .ok (.goto 4, 3) := by decide +kernel
theorem dX7_cost_30 : decode cX7_cost 30 = .ok (.iconst 2, 1) := by decide +kernel
theorem dX7_cost_31 : decode cX7_cost 31 = .ok (.invokevirtual 67, 3) := by decide +kernel
theorem dX7_cost_34 : decode cX7_cost 34 = .ok (.ifCond .eq 13, 3) := by decide +kernel
theorem dX7_cost_37 : decode cX7_cost 37 = .ok (.aload_n 0, 1) := by decide +kernel
theorem dX7_cost_38 : decode cX7_cost 38 = .ok (.iload_n 1, 1) := by decide +kernel
theorem dX7_cost_39 : decode cX7_cost 39 = .ok (.iload_n 2, 1) := by decide +kernel
theorem dX7_cost_40 : decode cX7_cost 40 = .ok (.iload_n 3, 1) := by decide +kernel
theorem dX7_cost_41 : decode cX7_cost 41 = .ok (.invokevirtual 117, 3) := by decide +kernel
theorem dX7_cost_44 : decode cX7_cost 44 = .ok (.goto 4, 3) := by decide +kernel
theorem dX7_cost_47 : decode cX7_cost 47 = .ok (.iconst 0, 1) := by decide +kernel
theorem dX7_cost_48 : decode cX7_cost 48 = .ok (.ireturn, 1) := by decide +kernel
set_option maxRecDepth 20000 in
theorem ggX7_answer_X7_in : GoodIn wsX7_answer wsX7_in := goodIn_r _ [11] (by decide +kernel) (by decide +kernel)
set_option maxRecDepth 20000 in
theorem gX7_answer_X7_in : GoodIn wsX7_answer (va_wsS RX7 60 yX7_in wsX7_in) := goodIn_app (goodIn_of _ (by decide +kernel)) ggX7_answer_X7_in
set_option maxRecDepth 20000 in
theorem ggX7_answer_X7_goesWell : GoodIn wsX7_answer wsX7_goesWell := goodIn_r _ [15, 16, 17, 18, 19, 20, 21, 22, 23, 24, 25, 26, 27, 28, 29, 30, 31, 32, 33, 34, 35] (by decide +kernel) (by decide +kernel)
set_option maxRecDepth 20000 in
theorem gX7_answer_X7_goesWell : GoodIn wsX7_answer (wsV RX7 67 RX7 yX7_goesWell wsX7_goesWell) := goodIn_app (goodIn_of _ (by decide +kernel)) ggX7_answer_X7_goesWell
theorem dX7_answer_0 : decode cX7_answer 0 = .ok (.iload_n 1, 1) := by decide +kernel
theorem dX7_answer_1 : decode cX7_answer 1 = .ok (.iconst 0, 1) := by decide +kernel
theorem dX7_answer_2 : decode cX7_answer 2 = .ok (.aload_n 0, 1) := by decide +kernel
theorem dX7_answer_3 : decode cX7_answer 3 = .ok (.getfield 71, 3) := by decide +kernel
theorem dX7_answer_6 : decode cX7_answer 6 = .ok (.iconst 1, 1) := by decide +kernel
theorem dX7_answer_7 : decode cX7_answer 7 = .ok (.isub, 1) := by decide +kernel
theorem dX7_answer_8 : decode cX7_answer 8 = .ok (.invokestatic 60, 3) := by decide +kernel
theorem dX7_answer_11 : decode cX7_answer 11 = .ok (.istore_n 3, 1) := by decide +kernel
theorem dX7_answer_12 : decode cX7_answer 12 = .ok (.aload_n 0, 1) := by decide +kernel
theorem dX7_answer_13 : decode cX7_answer 13 = .ok (.iload_n 3, 1) := by decide +kernel
theorem dX7_answer_14 : decode cX7_answer 14 = .ok (.ifCond .ne 7, 3) := by decide +kernel
theorem dX7_answer_17 : decode cX7_answer 17 = .ok (.iconst 1, 1) := by decide +kernel
theorem dX7_answer_18 : decode cX7_answer 18 = .ok (.goto 17, 3) := by decide +kernel
theorem dX7_answer_21 : decode cX7_answer 21 = .ok (.iload_n 2, 1) := by decide +kernel
theorem dX7_answer_22 : decode cX7_answer 22 = .ok (.iconst 0, 1) := by decide +kernel
theorem dX7_answer_23 : decode cX7_answer 23 = .ok (.iconst 5, 1) := by decide +kernel
theorem dX7_answer_24 : decode cX7_answer 24 = .ok (.invokestatic 60, 3) := by decide +kernel
theorem dX7_answer_27 : decode cX7_answer 27 = .ok (.ifCond .eq 7, 3) := by decide +kernel
theorem dX7_answer_30 : decode cX7_answer 30 = .ok (.iconst 0, 1) := by decide +kernel
theorem dX7_answer_31 : decode cX7_answer 31 = .ok (.goto 4, 3) := by decide +kernel
theorem dX7_answer_34 : decode cX7_answer 34 = .ok (.iconst 2, 1) := by decide +kernel
theorem dX7_answer_35 : decode cX7_answer 35 = .ok (.invokevirtual 67, 3) := by decide +kernel
theorem dX7_answer_38 : decode cX7_answer 38 = .ok (.ifCond .ne 5, 3) := by decide +kernel
theorem dX7_answer_41 : decode cX7_answer 41 = .ok (.iconst 0, 1) := by decide +kernel
theorem dX7_answer_42 : decode cX7_answer 42 = .ok (.ireturn, 1) := by decide +kernel
theorem dX7_answer_43 : decode cX7_answer 43 = .ok (.iload_n 2, 1) := by decide +kernel
theorem dX7_answer_44 : decode cX7_answer 44 = .ok (.tableswitch 79 0 4 #[36, 43, 50, 57, 64], 36) := by decide +kernel
theorem dX7_answer_80 : decode cX7_answer 80 = .ok (.aload_n 0, 1) := by decide +kernel
theorem dX7_answer_81 : decode cX7_answer 81 = .ok (.getfield 28, 3) := by decide +kernel
theorem dX7_answer_84 : decode cX7_answer 84 = .ok (.iload_n 1, 1) := by decide +kernel
theorem dX7_answer_85 : decode cX7_answer 85 = .ok (.iaload, 1) := by decide +kernel
theorem dX7_answer_86 : decode cX7_answer 86 = .ok (.ireturn, 1) := by decide +kernel
theorem dX7_answer_87 : decode cX7_answer 87 = .ok (.aload_n 0, 1) := by decide +kernel
theorem dX7_answer_88 : decode cX7_answer 88 = .ok (.getfield 31, 3) := by decide +kernel
theorem dX7_answer_91 : decode cX7_answer 91 = .ok (.iload_n 1, 1) := by decide +kernel
theorem dX7_answer_92 : decode cX7_answer 92 = .ok (.iaload, 1) := by decide +kernel
theorem dX7_answer_93 : decode cX7_answer 93 = .ok (.ireturn, 1) := by decide +kernel
theorem dX7_answer_94 : decode cX7_answer 94 = .ok (.aload_n 0, 1) := by decide +kernel
theorem dX7_answer_95 : decode cX7_answer 95 = .ok (.getfield 34, 3) := by decide +kernel
theorem dX7_answer_98 : decode cX7_answer 98 = .ok (.iload_n 1, 1) := by decide +kernel
theorem dX7_answer_99 : decode cX7_answer 99 = .ok (.iaload, 1) := by decide +kernel
theorem dX7_answer_100 : decode cX7_answer 100 = .ok (.ireturn, 1) := by decide +kernel
theorem dX7_answer_101 : decode cX7_answer 101 = .ok (.aload_n 0, 1) := by decide +kernel
theorem dX7_answer_102 : decode cX7_answer 102 = .ok (.getfield 37, 3) := by decide +kernel
theorem dX7_answer_105 : decode cX7_answer 105 = .ok (.iload_n 1, 1) := by decide +kernel
theorem dX7_answer_106 : decode cX7_answer 106 = .ok (.iaload, 1) := by decide +kernel
theorem dX7_answer_107 : decode cX7_answer 107 = .ok (.ireturn, 1) := by decide +kernel
theorem dX7_answer_108 : decode cX7_answer 108 = .ok (.aload_n 0, 1) := by decide +kernel
theorem dX7_answer_109 : decode cX7_answer 109 = .ok (.getfield 43, 3) := by decide +kernel
theorem dX7_answer_112 : decode cX7_answer 112 = .ok (.iload_n 1, 1) := by decide +kernel
theorem dX7_answer_113 : decode cX7_answer 113 = .ok (.baload, 1) := by decide +kernel
theorem dX7_answer_114 : decode cX7_answer 114 = .ok (.ifCond .eq 7, 3) := by decide +kernel
theorem dX7_answer_117 : decode cX7_answer 117 = .ok (.iconst 1, 1) := by decide +kernel
theorem dX7_answer_118 : decode cX7_answer 118 = .ok (.goto 4, 3) := by decide +kernel
theorem dX7_answer_121 : decode cX7_answer 121 = .ok (.iconst 0, 1) := by decide +kernel
theorem dX7_answer_122 : decode cX7_answer 122 = .ok (.ireturn, 1) := by decide +kernel
theorem dX7_answer_123 : decode cX7_answer 123 = .ok (.aload_n 0, 1) := by decide +kernel
theorem dX7_answer_124 : decode cX7_answer 124 = .ok (.getfield 40, 3) := by decide +kernel
theorem dX7_answer_127 : decode cX7_answer 127 = .ok (.iload_n 1, 1) := by decide +kernel
theorem dX7_answer_128 : decode cX7_answer 128 = .ok (.iaload, 1) := by decide +kernel
theorem dX7_answer_129 : decode cX7_answer 129 = .ok (.ireturn, 1) := by decide +kernel
set_option maxRecDepth 20000 in
theorem ggX7_spent_X7_isParty : GoodIn wsX7_spent wsX7_isParty := goodIn_r _ [5, 6, 7, 8, 4, 9, 40, 41, 42, 43, 44, 45, 46, 47, 48, 49, 50, 51, 52, 53, 54, 55, 56, 57, 58] (by decide +kernel) (by decide +kernel)
set_option maxRecDepth 20000 in
theorem gX7_spent_X7_isParty : GoodIn wsX7_spent (wsV RX7 81 RX7 yX7_isParty wsX7_isParty) := goodIn_app (goodIn_of _ (by decide +kernel)) ggX7_spent_X7_isParty
set_option maxRecDepth 20000 in
theorem ggX7_spent_X7_goesWell : GoodIn wsX7_spent wsX7_goesWell := goodIn_r _ [13, 14, 40, 41, 42, 43, 44, 45, 46, 47, 48, 49, 50, 51, 52, 53, 54, 55, 56, 57, 58] (by decide +kernel) (by decide +kernel)
set_option maxRecDepth 20000 in
theorem gX7_spent_X7_goesWell : GoodIn wsX7_spent (wsV RX7 67 RX7 yX7_goesWell wsX7_goesWell) := goodIn_app (goodIn_of _ (by decide +kernel)) ggX7_spent_X7_goesWell
set_option maxRecDepth 20000 in
theorem ggX7_spent_X7_spentBy : GoodIn wsX7_spent wsX7_spentBy := goodIn_r _ [18, 19, 20, 21, 4, 22, 23, 24, 25, 26, 27, 28, 29, 30, 31, 32, 33, 34, 35, 36, 37, 38, 39, 40, 41, 42, 43, 44, 45, 46, 47, 48, 49, 50, 51, 52, 53, 54, 55, 56, 57, 58] (by decide +kernel) (by decide +kernel)
set_option maxRecDepth 20000 in
theorem gX7_spent_X7_spentBy : GoodIn wsX7_spent (wsV RX7 114 RX7 yX7_spentBy wsX7_spentBy) := goodIn_app (goodIn_of _ (by decide +kernel)) ggX7_spent_X7_spentBy
theorem dX7_spent_0 : decode cX7_spent 0 = .ok (.aload_n 0, 1) := by decide +kernel
theorem dX7_spent_1 : decode cX7_spent 1 = .ok (.aload_n 0, 1) := by decide +kernel
theorem dX7_spent_2 : decode cX7_spent 2 = .ok (.iload_n 1, 1) := by decide +kernel
theorem dX7_spent_3 : decode cX7_spent 3 = .ok (.invokevirtual 81, 3) := by decide +kernel
theorem dX7_spent_6 : decode cX7_spent 6 = .ok (.ifCond .eq 7, 3) := by decide +kernel
theorem dX7_spent_9 : decode cX7_spent 9 = .ok (.iconst 0, 1) := by decide +kernel
theorem dX7_spent_10 : decode cX7_spent 10 = .ok (.goto 4, 3) := by decide +kernel
theorem dX7_spent_13 : decode cX7_spent 13 = .ok (.iconst 1, 1) := by decide +kernel
theorem dX7_spent_14 : decode cX7_spent 14 = .ok (.invokevirtual 67, 3) := by decide +kernel
theorem dX7_spent_17 : decode cX7_spent 17 = .ok (.ifCond .eq 11, 3) := by decide +kernel
theorem dX7_spent_20 : decode cX7_spent 20 = .ok (.aload_n 0, 1) := by decide +kernel
theorem dX7_spent_21 : decode cX7_spent 21 = .ok (.iload_n 1, 1) := by decide +kernel
theorem dX7_spent_22 : decode cX7_spent 22 = .ok (.invokevirtual 114, 3) := by decide +kernel
theorem dX7_spent_25 : decode cX7_spent 25 = .ok (.goto 4, 3) := by decide +kernel
theorem dX7_spent_28 : decode cX7_spent 28 = .ok (.iconst 0, 1) := by decide +kernel
theorem dX7_spent_29 : decode cX7_spent 29 = .ok (.ireturn, 1) := by decide +kernel
set_option maxRecDepth 20000 in
theorem ggX7_spentAnew_X7_isParty : GoodIn wsX7_spentAnew wsX7_isParty := goodIn_r _ [5, 6, 7, 8, 4, 9, 40, 41, 42, 43, 44, 45, 46, 47, 48, 49, 50, 51, 52, 53, 54, 55, 56, 57, 58] (by decide +kernel) (by decide +kernel)
set_option maxRecDepth 20000 in
theorem gX7_spentAnew_X7_isParty : GoodIn wsX7_spentAnew (wsV RX7 81 RX7 yX7_isParty wsX7_isParty) := goodIn_app (goodIn_of _ (by decide +kernel)) ggX7_spentAnew_X7_isParty
set_option maxRecDepth 20000 in
theorem ggX7_spentAnew_X7_goesWell : GoodIn wsX7_spentAnew wsX7_goesWell := goodIn_r _ [13, 14, 40, 41, 42, 43, 44, 45, 46, 47, 48, 49, 50, 51, 52, 53, 54, 55, 56, 57, 58] (by decide +kernel) (by decide +kernel)
set_option maxRecDepth 20000 in
theorem gX7_spentAnew_X7_goesWell : GoodIn wsX7_spentAnew (wsV RX7 67 RX7 yX7_goesWell wsX7_goesWell) := goodIn_app (goodIn_of _ (by decide +kernel)) ggX7_spentAnew_X7_goesWell
set_option maxRecDepth 20000 in
theorem ggX7_spentAnew_X7_spentBy : GoodIn wsX7_spentAnew wsX7_spentBy := goodIn_r _ [18, 19, 20, 21, 4, 22, 23, 24, 25, 26, 27, 28, 29, 30, 31, 32, 33, 34, 35, 36, 37, 38, 39, 40, 41, 42, 43, 44, 45, 46, 47, 48, 49, 50, 51, 52, 53, 54, 55, 56, 57, 58] (by decide +kernel) (by decide +kernel)
set_option maxRecDepth 20000 in
theorem gX7_spentAnew_X7_spentBy : GoodIn wsX7_spentAnew (wsV RX7 114 RX7 yX7_spentBy wsX7_spentBy) := goodIn_app (goodIn_of _ (by decide +kernel)) ggX7_spentAnew_X7_spentBy
theorem dX7_spentAnew_0 : decode cX7_spentAnew 0 = .ok (.aload_n 0, 1) := by decide +kernel
theorem dX7_spentAnew_1 : decode cX7_spentAnew 1 = .ok (.aload_n 0, 1) := by decide +kernel
theorem dX7_spentAnew_2 : decode cX7_spentAnew 2 = .ok (.iload_n 1, 1) := by decide +kernel
theorem dX7_spentAnew_3 : decode cX7_spentAnew 3 = .ok (.invokevirtual 81, 3) := by decide +kernel
theorem dX7_spentAnew_6 : decode cX7_spentAnew 6 = .ok (.ifCond .eq 7, 3) := by decide +kernel
theorem dX7_spentAnew_9 : decode cX7_spentAnew 9 = .ok (.iconst 0, 1) := by decide +kernel
theorem dX7_spentAnew_10 : decode cX7_spentAnew 10 = .ok (.goto 4, 3) := by decide +kernel
theorem dX7_spentAnew_13 : decode cX7_spentAnew 13 = .ok (.iconst 1, 1) := by decide +kernel
theorem dX7_spentAnew_14 : decode cX7_spentAnew 14 = .ok (.invokevirtual 67, 3) := by decide +kernel
theorem dX7_spentAnew_17 : decode cX7_spentAnew 17 = .ok (.ifCond .eq 11, 3) := by decide +kernel
theorem dX7_spentAnew_20 : decode cX7_spentAnew 20 = .ok (.aload_n 0, 1) := by decide +kernel
theorem dX7_spentAnew_21 : decode cX7_spentAnew 21 = .ok (.iload_n 1, 1) := by decide +kernel
theorem dX7_spentAnew_22 : decode cX7_spentAnew 22 = .ok (.invokevirtual 114, 3) := by decide +kernel
theorem dX7_spentAnew_25 : decode cX7_spentAnew 25 = .ok (.goto 4, 3) := by decide +kernel
theorem dX7_spentAnew_28 : decode cX7_spentAnew 28 = .ok (.iconst 0, 1) := by decide +kernel
theorem dX7_spentAnew_29 : decode cX7_spentAnew 29 = .ok (.ireturn, 1) := by decide +kernel
set_option maxRecDepth 20000 in
theorem ggX7_findsBy_X7_know : GoodIn wsX7_findsBy wsX7_know := goodIn_r _ [5, 6, 7, 8, 9, 10, 11, 12, 13, 14, 4, 15, 16, 17, 18, 19, 20, 21, 22, 23, 24, 25, 26, 27, 28, 29, 30, 31, 32, 33, 34, 35, 36, 37, 38, 39, 40, 41] (by decide +kernel) (by decide +kernel)
set_option maxRecDepth 20000 in
theorem gX7_findsBy_X7_know : GoodIn wsX7_findsBy (wsV RX7 97 RX7 yX7_know wsX7_know) := goodIn_app (goodIn_of _ (by decide +kernel)) ggX7_findsBy_X7_know
set_option maxRecDepth 20000 in
theorem ggX7_findsBy_X7_reduce : GoodIn wsX7_findsBy wsX7_reduce := goodIn_r _ [19, 6, 23, 24, 25, 26, 27, 28, 29, 30, 31, 32, 33, 34, 35, 36, 37, 38, 39, 40, 41] (by decide +kernel) (by decide +kernel)
set_option maxRecDepth 20000 in
theorem gX7_findsBy_X7_reduce : GoodIn wsX7_findsBy (wsV RX7 87 RX7 yX7_reduce wsX7_reduce) := goodIn_app (goodIn_of _ (by decide +kernel)) ggX7_findsBy_X7_reduce
theorem dX7_findsBy_0 : decode cX7_findsBy 0 = .ok (.iconst 0, 1) := by decide +kernel
theorem dX7_findsBy_1 : decode cX7_findsBy 1 = .ok (.istore_n 3, 1) := by decide +kernel
theorem dX7_findsBy_2 : decode cX7_findsBy 2 = .ok (.iconst 0, 1) := by decide +kernel
theorem dX7_findsBy_3 : decode cX7_findsBy 3 = .ok (.istore 4, 2) := by decide +kernel
theorem dX7_findsBy_5 : decode cX7_findsBy 5 = .ok (.iload 4, 2) := by decide +kernel
theorem dX7_findsBy_7 : decode cX7_findsBy 7 = .ok (.bipush 8, 2) := by decide +kernel
theorem dX7_findsBy_9 : decode cX7_findsBy 9 = .ok (.if_icmp .ge 38, 3) := by decide +kernel
theorem dX7_findsBy_12 : decode cX7_findsBy 12 = .ok (.aload_n 0, 1) := by decide +kernel
theorem dX7_findsBy_13 : decode cX7_findsBy 13 = .ok (.iload_n 1, 1) := by decide +kernel
theorem dX7_findsBy_14 : decode cX7_findsBy 14 = .ok (.iload 4, 2) := by decide +kernel
theorem dX7_findsBy_16 : decode cX7_findsBy 16 = .ok (.invokevirtual 97, 3) := by decide +kernel
theorem dX7_findsBy_19 : decode cX7_findsBy 19 = .ok (.pop, 1) := by decide +kernel
theorem dX7_findsBy_20 : decode cX7_findsBy 20 = .ok (.iload_n 3, 1) := by decide +kernel
theorem dX7_findsBy_21 : decode cX7_findsBy 21 = .ok (.aload_n 0, 1) := by decide +kernel
theorem dX7_findsBy_22 : decode cX7_findsBy 22 = .ok (.iconst 1, 1) := by decide +kernel
theorem dX7_findsBy_23 : decode cX7_findsBy 23 = .ok (.iload_n 2, 1) := by decide +kernel
theorem dX7_findsBy_24 : decode cX7_findsBy 24 = .ok (.ishl, 1) := by decide +kernel
theorem dX7_findsBy_25 : decode cX7_findsBy 25 = .ok (.invokevirtual 87, 3) := by decide +kernel
theorem dX7_findsBy_28 : decode cX7_findsBy 28 = .ok (.ifCond .ne 10, 3) := by decide +kernel
theorem dX7_findsBy_31 : decode cX7_findsBy 31 = .ok (.iconst 1, 1) := by decide +kernel
theorem dX7_findsBy_32 : decode cX7_findsBy 32 = .ok (.iload 4, 2) := by decide +kernel
theorem dX7_findsBy_34 : decode cX7_findsBy 34 = .ok (.ishl, 1) := by decide +kernel
theorem dX7_findsBy_35 : decode cX7_findsBy 35 = .ok (.goto 4, 3) := by decide +kernel
theorem dX7_findsBy_38 : decode cX7_findsBy 38 = .ok (.iconst 0, 1) := by decide +kernel
theorem dX7_findsBy_39 : decode cX7_findsBy 39 = .ok (.ior, 1) := by decide +kernel
theorem dX7_findsBy_40 : decode cX7_findsBy 40 = .ok (.istore_n 3, 1) := by decide +kernel
theorem dX7_findsBy_41 : decode cX7_findsBy 41 = .ok (.iinc 4 1, 3) := by decide +kernel
theorem dX7_findsBy_44 : decode cX7_findsBy 44 = .ok (.goto (-39), 3) := by decide +kernel
theorem dX7_findsBy_47 : decode cX7_findsBy 47 = .ok (.iload_n 3, 1) := by decide +kernel
theorem dX7_findsBy_48 : decode cX7_findsBy 48 = .ok (.ireturn, 1) := by decide +kernel
set_option maxRecDepth 20000 in
theorem ggX7_finds_X7_isParty : GoodIn wsX7_finds wsX7_isParty := goodIn_r _ [5, 6, 7, 8, 4, 9, 45, 46, 47, 48, 49, 50, 51, 52, 53, 54, 55, 56, 57, 58, 59, 60, 61, 62, 63] (by decide +kernel) (by decide +kernel)
set_option maxRecDepth 20000 in
theorem gX7_finds_X7_isParty : GoodIn wsX7_finds (wsV RX7 81 RX7 yX7_isParty wsX7_isParty) := goodIn_app (goodIn_of _ (by decide +kernel)) ggX7_finds_X7_isParty
set_option maxRecDepth 20000 in
theorem ggX7_finds_X7_isFile : GoodIn wsX7_finds wsX7_isFile := goodIn_r _ [13, 14, 7, 8, 4, 9, 45, 46, 47, 48, 49, 50, 51, 52, 53, 54, 55, 56, 57, 58, 59, 60, 61, 62, 63] (by decide +kernel) (by decide +kernel)
set_option maxRecDepth 20000 in
theorem gX7_finds_X7_isFile : GoodIn wsX7_finds (wsV RX7 74 RX7 yX7_isFile wsX7_isFile) := goodIn_app (goodIn_of _ (by decide +kernel)) ggX7_finds_X7_isFile
set_option maxRecDepth 20000 in
theorem ggX7_finds_X7_goesWell : GoodIn wsX7_finds wsX7_goesWell := goodIn_r _ [18, 19, 45, 46, 47, 48, 49, 50, 51, 52, 53, 54, 55, 56, 57, 58, 59, 60, 61, 62, 63] (by decide +kernel) (by decide +kernel)
set_option maxRecDepth 20000 in
theorem gX7_finds_X7_goesWell : GoodIn wsX7_finds (wsV RX7 67 RX7 yX7_goesWell wsX7_goesWell) := goodIn_app (goodIn_of _ (by decide +kernel)) ggX7_finds_X7_goesWell
set_option maxRecDepth 20000 in
theorem ggX7_finds_X7_findsBy : GoodIn wsX7_finds wsX7_findsBy := goodIn_r _ [23, 24, 25, 26, 4, 27, 28, 29, 30, 31, 32, 33, 34, 35, 36, 37, 38, 39, 40, 41, 42, 43, 44, 45, 46, 47, 48, 49, 50, 51, 52, 53, 54, 55, 56, 57, 58, 59, 60, 61, 62, 63] (by decide +kernel) (by decide +kernel)
set_option maxRecDepth 20000 in
theorem gX7_finds_X7_findsBy : GoodIn wsX7_finds (wsV RX7 127 RX7 yX7_findsBy wsX7_findsBy) := goodIn_app (goodIn_of _ (by decide +kernel)) ggX7_finds_X7_findsBy
theorem dX7_finds_0 : decode cX7_finds 0 = .ok (.aload_n 0, 1) := by decide +kernel
theorem dX7_finds_1 : decode cX7_finds 1 = .ok (.aload_n 0, 1) := by decide +kernel
theorem dX7_finds_2 : decode cX7_finds 2 = .ok (.iload_n 1, 1) := by decide +kernel
theorem dX7_finds_3 : decode cX7_finds 3 = .ok (.invokevirtual 81, 3) := by decide +kernel
theorem dX7_finds_6 : decode cX7_finds 6 = .ok (.ifCond .eq 15, 3) := by decide +kernel
theorem dX7_finds_9 : decode cX7_finds 9 = .ok (.aload_n 0, 1) := by decide +kernel
theorem dX7_finds_10 : decode cX7_finds 10 = .ok (.iload_n 2, 1) := by decide +kernel
theorem dX7_finds_11 : decode cX7_finds 11 = .ok (.invokevirtual 74, 3) := by decide +kernel
theorem dX7_finds_14 : decode cX7_finds 14 = .ok (.ifCond .eq 7, 3) := by decide +kernel
theorem dX7_finds_17 : decode cX7_finds 17 = .ok (.iconst 0, 1) := by decide +kernel
theorem dX7_finds_18 : decode cX7_finds 18 = .ok (.goto 4, 3) := by decide +kernel
theorem dX7_finds_21 : decode cX7_finds 21 = .ok (.iconst 1, 1) := by decide +kernel
theorem dX7_finds_22 : decode cX7_finds 22 = .ok (.invokevirtual 67, 3) := by decide +kernel
theorem dX7_finds_25 : decode cX7_finds 25 = .ok (.ifCond .eq 14, 3) := by decide +kernel
theorem dX7_finds_28 : decode cX7_finds 28 = .ok (.aload_n 0, 1) := by decide +kernel
theorem dX7_finds_29 : decode cX7_finds 29 = .ok (.iconst 1, 1) := by decide +kernel
theorem dX7_finds_30 : decode cX7_finds 30 = .ok (.iload_n 1, 1) := by decide +kernel
theorem dX7_finds_31 : decode cX7_finds 31 = .ok (.ishl, 1) := by decide +kernel
theorem dX7_finds_32 : decode cX7_finds 32 = .ok (.iload_n 2, 1) := by decide +kernel
theorem dX7_finds_33 : decode cX7_finds 33 = .ok (.invokevirtual 127, 3) := by decide +kernel
theorem dX7_finds_36 : decode cX7_finds 36 = .ok (.goto 4, 3) := by decide +kernel
theorem dX7_finds_39 : decode cX7_finds 39 = .ok (.iconst 0, 1) := by decide +kernel
theorem dX7_finds_40 : decode cX7_finds 40 = .ok (.ireturn, 1) := by decide +kernel
set_option maxRecDepth 20000 in
theorem ggX7_together_X7_isFile : GoodIn wsX7_together wsX7_isFile := goodIn_r _ [6, 7, 8, 9, 5, 10, 41, 42, 43, 44, 45, 46, 47, 48, 49, 50, 51, 52, 53, 54, 55, 56, 57, 58, 59] (by decide +kernel) (by decide +kernel)
set_option maxRecDepth 20000 in
theorem gX7_together_X7_isFile : GoodIn wsX7_together (wsV RX7 74 RX7 yX7_isFile wsX7_isFile) := goodIn_app (goodIn_of _ (by decide +kernel)) ggX7_together_X7_isFile
set_option maxRecDepth 20000 in
theorem ggX7_together_X7_in : GoodIn wsX7_together wsX7_in := goodIn_r _ [10] (by decide +kernel) (by decide +kernel)
set_option maxRecDepth 20000 in
theorem gX7_together_X7_in : GoodIn wsX7_together (va_wsS RX7 60 yX7_in wsX7_in) := goodIn_app (goodIn_of _ (by decide +kernel)) ggX7_together_X7_in
set_option maxRecDepth 20000 in
theorem ggX7_together_X7_goesWell : GoodIn wsX7_together wsX7_goesWell := goodIn_r _ [14, 15, 41, 42, 43, 44, 45, 46, 47, 48, 49, 50, 51, 52, 53, 54, 55, 56, 57, 58, 59] (by decide +kernel) (by decide +kernel)
set_option maxRecDepth 20000 in
theorem gX7_together_X7_goesWell : GoodIn wsX7_together (wsV RX7 67 RX7 yX7_goesWell wsX7_goesWell) := goodIn_app (goodIn_of _ (by decide +kernel)) ggX7_together_X7_goesWell
set_option maxRecDepth 20000 in
theorem ggX7_together_X7_findsBy : GoodIn wsX7_together wsX7_findsBy := goodIn_r _ [19, 20, 21, 22, 5, 23, 24, 25, 26, 27, 28, 29, 30, 31, 32, 33, 34, 35, 36, 37, 38, 39, 40, 41, 42, 43, 44, 45, 46, 47, 48, 49, 50, 51, 52, 53, 54, 55, 56, 57, 58, 59] (by decide +kernel) (by decide +kernel)
set_option maxRecDepth 20000 in
theorem gX7_together_X7_findsBy : GoodIn wsX7_together (wsV RX7 127 RX7 yX7_findsBy wsX7_findsBy) := goodIn_app (goodIn_of _ (by decide +kernel)) ggX7_together_X7_findsBy
theorem dX7_together_0 : decode cX7_together 0 = .ok (.aload_n 0, 1) := by decide +kernel
theorem dX7_together_1 : decode cX7_together 1 = .ok (.iload_n 2, 1) := by decide +kernel
theorem dX7_together_2 : decode cX7_together 2 = .ok (.invokevirtual 74, 3) := by decide +kernel
theorem dX7_together_5 : decode cX7_together 5 = .ok (.istore_n 3, 1) := by decide +kernel
theorem dX7_together_6 : decode cX7_together 6 = .ok (.aload_n 0, 1) := by decide +kernel
theorem dX7_together_7 : decode cX7_together 7 = .ok (.iload_n 3, 1) := by decide +kernel
theorem dX7_together_8 : decode cX7_together 8 = .ok (.ifCond .ne 7, 3) := by decide +kernel
theorem dX7_together_11 : decode cX7_together 11 = .ok (.iconst 1, 1) := by decide +kernel
theorem dX7_together_12 : decode cX7_together 12 = .ok (.goto 24, 3) := by decide +kernel
theorem dX7_together_15 : decode cX7_together 15 = .ok (.iload_n 1, 1) := by decide +kernel
theorem dX7_together_16 : decode cX7_together 16 = .ok (.iconst 0, 1) := by decide +kernel
theorem dX7_together_17 : decode cX7_together 17 = .ok (.iconst 1, 1) := by decide +kernel
theorem dX7_together_18 : decode cX7_together 18 = .ok (.aload_n 0, 1) := by decide +kernel
theorem dX7_together_19 : decode cX7_together 19 = .ok (.getfield 64, 3) := by decide +kernel
theorem dX7_together_22 : decode cX7_together 22 = .ok (.ishl, 1) := by decide +kernel
theorem dX7_together_23 : decode cX7_together 23 = .ok (.iconst 1, 1) := by decide +kernel
theorem dX7_together_24 : decode cX7_together 24 = .ok (.isub, 1) := by decide +kernel
theorem dX7_together_25 : decode cX7_together 25 = .ok (.invokestatic 60, 3) := by decide +kernel
theorem dX7_together_28 : decode cX7_together 28 = .ok (.ifCond .eq 7, 3) := by decide +kernel
theorem dX7_together_31 : decode cX7_together 31 = .ok (.iconst 0, 1) := by decide +kernel
theorem dX7_together_32 : decode cX7_together 32 = .ok (.goto 4, 3) := by decide +kernel
theorem dX7_together_35 : decode cX7_together 35 = .ok (.iconst 2, 1) := by decide +kernel
theorem dX7_together_36 : decode cX7_together 36 = .ok (.invokevirtual 67, 3) := by decide +kernel
theorem dX7_together_39 : decode cX7_together 39 = .ok (.ifCond .eq 12, 3) := by decide +kernel
theorem dX7_together_42 : decode cX7_together 42 = .ok (.aload_n 0, 1) := by decide +kernel
theorem dX7_together_43 : decode cX7_together 43 = .ok (.iload_n 1, 1) := by decide +kernel
theorem dX7_together_44 : decode cX7_together 44 = .ok (.iload_n 2, 1) := by decide +kernel
theorem dX7_together_45 : decode cX7_together 45 = .ok (.invokevirtual 127, 3) := by decide +kernel
theorem dX7_together_48 : decode cX7_together 48 = .ok (.goto 4, 3) := by decide +kernel
theorem dX7_together_51 : decode cX7_together 51 = .ok (.iconst 0, 1) := by decide +kernel
theorem dX7_together_52 : decode cX7_together 52 = .ok (.ireturn, 1) := by decide +kernel
set_option maxRecDepth 20000 in
theorem ggX7_rightTo_X7_isParty : GoodIn wsX7_rightTo wsX7_isParty := goodIn_r _ [5, 6, 7, 8, 4, 9, 28, 29, 30, 31, 32, 33, 34, 35, 36, 37, 38, 39, 40, 41, 42, 43, 44, 45, 46] (by decide +kernel) (by decide +kernel)
set_option maxRecDepth 20000 in
theorem gX7_rightTo_X7_isParty : GoodIn wsX7_rightTo (wsV RX7 81 RX7 yX7_isParty wsX7_isParty) := goodIn_app (goodIn_of _ (by decide +kernel)) ggX7_rightTo_X7_isParty
set_option maxRecDepth 20000 in
theorem ggX7_rightTo_X7_isFile : GoodIn wsX7_rightTo wsX7_isFile := goodIn_r _ [13, 14, 7, 8, 4, 9, 28, 29, 30, 31, 32, 33, 34, 35, 36, 37, 38, 39, 40, 41, 42, 43, 44, 45, 46] (by decide +kernel) (by decide +kernel)
set_option maxRecDepth 20000 in
theorem gX7_rightTo_X7_isFile : GoodIn wsX7_rightTo (wsV RX7 74 RX7 yX7_isFile wsX7_isFile) := goodIn_app (goodIn_of _ (by decide +kernel)) ggX7_rightTo_X7_isFile
set_option maxRecDepth 20000 in
theorem ggX7_rightTo_X7_goesWell : GoodIn wsX7_rightTo wsX7_goesWell := goodIn_r _ [18, 19, 28, 29, 30, 31, 32, 33, 34, 35, 36, 37, 38, 39, 40, 41, 42, 43, 44, 45, 46] (by decide +kernel) (by decide +kernel)
set_option maxRecDepth 20000 in
theorem gX7_rightTo_X7_goesWell : GoodIn wsX7_rightTo (wsV RX7 67 RX7 yX7_goesWell wsX7_goesWell) := goodIn_app (goodIn_of _ (by decide +kernel)) ggX7_rightTo_X7_goesWell
set_option maxRecDepth 20000 in
theorem ggX7_rightTo_X7_rightOf : GoodIn wsX7_rightTo wsX7_rightOf := goodIn_r _ [23, 24, 25, 26, 27, 7, 8, 4, 9, 28, 29, 30, 31, 32, 33, 34, 35, 36, 37, 38, 39, 40, 41, 42, 43, 44, 45, 46] (by decide +kernel) (by decide +kernel)
set_option maxRecDepth 20000 in
theorem gX7_rightTo_X7_rightOf : GoodIn wsX7_rightTo (wsV RX7 108 RX7 yX7_rightOf wsX7_rightOf) := goodIn_app (goodIn_of _ (by decide +kernel)) ggX7_rightTo_X7_rightOf
theorem dX7_rightTo_0 : decode cX7_rightTo 0 = .ok (.aload_n 0, 1) := by decide +kernel
theorem dX7_rightTo_1 : decode cX7_rightTo 1 = .ok (.aload_n 0, 1) := by decide +kernel
theorem dX7_rightTo_2 : decode cX7_rightTo 2 = .ok (.iload_n 1, 1) := by decide +kernel
theorem dX7_rightTo_3 : decode cX7_rightTo 3 = .ok (.invokevirtual 81, 3) := by decide +kernel
theorem dX7_rightTo_6 : decode cX7_rightTo 6 = .ok (.ifCond .eq 15, 3) := by decide +kernel
theorem dX7_rightTo_9 : decode cX7_rightTo 9 = .ok (.aload_n 0, 1) := by decide +kernel
theorem dX7_rightTo_10 : decode cX7_rightTo 10 = .ok (.iload_n 2, 1) := by decide +kernel
theorem dX7_rightTo_11 : decode cX7_rightTo 11 = .ok (.invokevirtual 74, 3) := by decide +kernel
theorem dX7_rightTo_14 : decode cX7_rightTo 14 = .ok (.ifCond .eq 7, 3) := by decide +kernel
theorem dX7_rightTo_17 : decode cX7_rightTo 17 = .ok (.iconst 0, 1) := by decide +kernel
theorem dX7_rightTo_18 : decode cX7_rightTo 18 = .ok (.goto 4, 3) := by decide +kernel
theorem dX7_rightTo_21 : decode cX7_rightTo 21 = .ok (.iconst 1, 1) := by decide +kernel
theorem dX7_rightTo_22 : decode cX7_rightTo 22 = .ok (.invokevirtual 67, 3) := by decide +kernel
theorem dX7_rightTo_25 : decode cX7_rightTo 25 = .ok (.ifCond .eq 12, 3) := by decide +kernel
theorem dX7_rightTo_28 : decode cX7_rightTo 28 = .ok (.aload_n 0, 1) := by decide +kernel
theorem dX7_rightTo_29 : decode cX7_rightTo 29 = .ok (.iload_n 1, 1) := by decide +kernel
theorem dX7_rightTo_30 : decode cX7_rightTo 30 = .ok (.iload_n 2, 1) := by decide +kernel
theorem dX7_rightTo_31 : decode cX7_rightTo 31 = .ok (.invokevirtual 108, 3) := by decide +kernel
theorem dX7_rightTo_34 : decode cX7_rightTo 34 = .ok (.goto 4, 3) := by decide +kernel
theorem dX7_rightTo_37 : decode cX7_rightTo 37 = .ok (.iconst 0, 1) := by decide +kernel
theorem dX7_rightTo_38 : decode cX7_rightTo 38 = .ok (.ireturn, 1) := by decide +kernel
set_option maxRecDepth 20000 in
theorem ggX7_isSealed_X7_isFile : GoodIn wsX7_isSealed wsX7_isFile := goodIn_r _ [7, 8, 9, 10, 6, 11, 17, 18, 19, 20, 21, 22, 23, 24, 25, 26, 27, 28, 29, 30, 31, 32, 33, 34, 35] (by decide +kernel) (by decide +kernel)
set_option maxRecDepth 20000 in
theorem gX7_isSealed_X7_isFile : GoodIn wsX7_isSealed (wsV RX7 74 RX7 yX7_isFile wsX7_isFile) := goodIn_app (goodIn_of _ (by decide +kernel)) ggX7_isSealed_X7_isFile
set_option maxRecDepth 20000 in
theorem ggX7_isSealed_X7_goesWell : GoodIn wsX7_isSealed wsX7_goesWell := goodIn_r _ [15, 16, 17, 18, 19, 20, 21, 22, 23, 24, 25, 26, 27, 28, 29, 30, 31, 32, 33, 34, 35] (by decide +kernel) (by decide +kernel)
set_option maxRecDepth 20000 in
theorem gX7_isSealed_X7_goesWell : GoodIn wsX7_isSealed (wsV RX7 67 RX7 yX7_goesWell wsX7_goesWell) := goodIn_app (goodIn_of _ (by decide +kernel)) ggX7_isSealed_X7_goesWell
theorem dX7_isSealed_0 : decode cX7_isSealed 0 = .ok (.aload_n 0, 1) := by decide +kernel
theorem dX7_isSealed_1 : decode cX7_isSealed 1 = .ok (.aload_n 0, 1) := by decide +kernel
theorem dX7_isSealed_2 : decode cX7_isSealed 2 = .ok (.iload_n 1, 1) := by decide +kernel
theorem dX7_isSealed_3 : decode cX7_isSealed 3 = .ok (.invokevirtual 74, 3) := by decide +kernel
theorem dX7_isSealed_6 : decode cX7_isSealed 6 = .ok (.ifCond .eq 7, 3) := by decide +kernel
theorem dX7_isSealed_9 : decode cX7_isSealed 9 = .ok (.iconst 0, 1) := by decide +kernel
theorem dX7_isSealed_10 : decode cX7_isSealed 10 = .ok (.goto 4, 3) := by decide +kernel
theorem dX7_isSealed_13 : decode cX7_isSealed 13 = .ok (.iconst 1, 1) := by decide +kernel
theorem dX7_isSealed_14 : decode cX7_isSealed 14 = .ok (.invokevirtual 67, 3) := by decide +kernel
theorem dX7_isSealed_17 : decode cX7_isSealed 17 = .ok (.ifCond .eq 20, 3) := by decide +kernel
theorem dX7_isSealed_20 : decode cX7_isSealed 20 = .ok (.aload_n 0, 1) := by decide +kernel
theorem dX7_isSealed_21 : decode cX7_isSealed 21 = .ok (.getfield 13, 3) := by decide +kernel
theorem dX7_isSealed_24 : decode cX7_isSealed 24 = .ok (.iload_n 1, 1) := by decide +kernel
theorem dX7_isSealed_25 : decode cX7_isSealed 25 = .ok (.iaload, 1) := by decide +kernel
theorem dX7_isSealed_26 : decode cX7_isSealed 26 = .ok (.aload_n 0, 1) := by decide +kernel
theorem dX7_isSealed_27 : decode cX7_isSealed 27 = .ok (.getfield 84, 3) := by decide +kernel
theorem dX7_isSealed_30 : decode cX7_isSealed 30 = .ok (.if_icmp .lt 7, 3) := by decide +kernel
theorem dX7_isSealed_33 : decode cX7_isSealed 33 = .ok (.iconst 1, 1) := by decide +kernel
theorem dX7_isSealed_34 : decode cX7_isSealed 34 = .ok (.goto 4, 3) := by decide +kernel
theorem dX7_isSealed_37 : decode cX7_isSealed 37 = .ok (.iconst 0, 1) := by decide +kernel
theorem dX7_isSealed_38 : decode cX7_isSealed 38 = .ok (.ireturn, 1) := by decide +kernel
set_option maxRecDepth 20000 in
theorem ggX7_count_X7_isParty : GoodIn wsX7_count wsX7_isParty := goodIn_r _ [9, 10, 11, 12, 8, 13, 19, 20, 21, 22, 23, 24, 25, 26, 27, 28, 29, 30, 31, 32, 33, 34, 35, 36, 37] (by decide +kernel) (by decide +kernel)
set_option maxRecDepth 20000 in
theorem gX7_count_X7_isParty : GoodIn wsX7_count (wsV RX7 81 RX7 yX7_isParty wsX7_isParty) := goodIn_app (goodIn_of _ (by decide +kernel)) ggX7_count_X7_isParty
set_option maxRecDepth 20000 in
theorem ggX7_count_X7_in : GoodIn wsX7_count wsX7_in := goodIn_r _ [13] (by decide +kernel) (by decide +kernel)
set_option maxRecDepth 20000 in
theorem gX7_count_X7_in : GoodIn wsX7_count (va_wsS RX7 60 yX7_in wsX7_in) := goodIn_app (goodIn_of _ (by decide +kernel)) ggX7_count_X7_in
set_option maxRecDepth 20000 in
theorem ggX7_count_X7_goesWell : GoodIn wsX7_count wsX7_goesWell := goodIn_r _ [17, 18, 19, 20, 21, 22, 23, 24, 25, 26, 27, 28, 29, 30, 31, 32, 33, 34, 35, 36, 37] (by decide +kernel) (by decide +kernel)
set_option maxRecDepth 20000 in
theorem gX7_count_X7_goesWell : GoodIn wsX7_count (wsV RX7 67 RX7 yX7_goesWell wsX7_goesWell) := goodIn_app (goodIn_of _ (by decide +kernel)) ggX7_count_X7_goesWell
theorem dX7_count_0 : decode cX7_count 0 = .ok (.aload_n 0, 1) := by decide +kernel
theorem dX7_count_1 : decode cX7_count 1 = .ok (.iload_n 1, 1) := by decide +kernel
theorem dX7_count_2 : decode cX7_count 2 = .ok (.invokevirtual 81, 3) := by decide +kernel
theorem dX7_count_5 : decode cX7_count 5 = .ok (.istore_n 3, 1) := by decide +kernel
theorem dX7_count_6 : decode cX7_count 6 = .ok (.aload_n 0, 1) := by decide +kernel
theorem dX7_count_7 : decode cX7_count 7 = .ok (.iload_n 3, 1) := by decide +kernel
theorem dX7_count_8 : decode cX7_count 8 = .ok (.ifCond .ne 7, 3) := by decide +kernel
theorem dX7_count_11 : decode cX7_count 11 = .ok (.iconst 1, 1) := by decide +kernel
theorem dX7_count_12 : decode cX7_count 12 = .ok (.goto 17, 3) := by decide +kernel
theorem dX7_count_15 : decode cX7_count 15 = .ok (.iload_n 2, 1) := by decide +kernel
theorem dX7_count_16 : decode cX7_count 16 = .ok (.iconst 0, 1) := by decide +kernel
theorem dX7_count_17 : decode cX7_count 17 = .ok (.iconst 5, 1) := by decide +kernel
theorem dX7_count_18 : decode cX7_count 18 = .ok (.invokestatic 60, 3) := by decide +kernel
theorem dX7_count_21 : decode cX7_count 21 = .ok (.ifCond .eq 7, 3) := by decide +kernel
theorem dX7_count_24 : decode cX7_count 24 = .ok (.iconst 0, 1) := by decide +kernel
theorem dX7_count_25 : decode cX7_count 25 = .ok (.goto 4, 3) := by decide +kernel
theorem dX7_count_28 : decode cX7_count 28 = .ok (.iconst 2, 1) := by decide +kernel
theorem dX7_count_29 : decode cX7_count 29 = .ok (.invokevirtual 67, 3) := by decide +kernel
theorem dX7_count_32 : decode cX7_count 32 = .ok (.ifCond .ne 5, 3) := by decide +kernel
theorem dX7_count_35 : decode cX7_count 35 = .ok (.iconst 0, 1) := by decide +kernel
theorem dX7_count_36 : decode cX7_count 36 = .ok (.ireturn, 1) := by decide +kernel
theorem dX7_count_37 : decode cX7_count 37 = .ok (.iconst 0, 1) := by decide +kernel
theorem dX7_count_38 : decode cX7_count 38 = .ok (.istore 4, 2) := by decide +kernel
theorem dX7_count_40 : decode cX7_count 40 = .ok (.iconst 0, 1) := by decide +kernel
theorem dX7_count_41 : decode cX7_count 41 = .ok (.istore 5, 2) := by decide +kernel
theorem dX7_count_43 : decode cX7_count 43 = .ok (.iload 5, 2) := by decide +kernel
theorem dX7_count_45 : decode cX7_count 45 = .ok (.aload_n 0, 1) := by decide +kernel
theorem dX7_count_46 : decode cX7_count 46 = .ok (.getfield 71, 3) := by decide +kernel
theorem dX7_count_49 : decode cX7_count 49 = .ok (.if_icmp .ge 40, 3) := by decide +kernel
theorem dX7_count_52 : decode cX7_count 52 = .ok (.iload 4, 2) := by decide +kernel
theorem dX7_count_54 : decode cX7_count 54 = .ok (.aload_n 0, 1) := by decide +kernel
theorem dX7_count_55 : decode cX7_count 55 = .ok (.getfield 28, 3) := by decide +kernel
theorem dX7_count_58 : decode cX7_count 58 = .ok (.iload 5, 2) := by decide +kernel
theorem dX7_count_60 : decode cX7_count 60 = .ok (.iaload, 1) := by decide +kernel
theorem dX7_count_61 : decode cX7_count 61 = .ok (.iload_n 1, 1) := by decide +kernel
theorem dX7_count_62 : decode cX7_count 62 = .ok (.if_icmp .ne 17, 3) := by decide +kernel
theorem dX7_count_65 : decode cX7_count 65 = .ok (.aload_n 0, 1) := by decide +kernel
theorem dX7_count_66 : decode cX7_count 66 = .ok (.getfield 43, 3) := by decide +kernel
theorem dX7_count_69 : decode cX7_count 69 = .ok (.iload 5, 2) := by decide +kernel
theorem dX7_count_71 : decode cX7_count 71 = .ok (.baload, 1) := by decide +kernel
theorem dX7_count_72 : decode cX7_count 72 = .ok (.ifCond .ne 7, 3) := by decide +kernel
theorem dX7_count_75 : decode cX7_count 75 = .ok (.iconst 1, 1) := by decide +kernel
theorem dX7_count_76 : decode cX7_count 76 = .ok (.goto 4, 3) := by decide +kernel
theorem dX7_count_79 : decode cX7_count 79 = .ok (.iconst 0, 1) := by decide +kernel
theorem dX7_count_80 : decode cX7_count 80 = .ok (.iadd, 1) := by decide +kernel
theorem dX7_count_81 : decode cX7_count 81 = .ok (.istore 4, 2) := by decide +kernel
theorem dX7_count_83 : decode cX7_count 83 = .ok (.iinc 5 1, 3) := by decide +kernel
theorem dX7_count_86 : decode cX7_count 86 = .ok (.goto (-43), 3) := by decide +kernel
theorem dX7_count_89 : decode cX7_count 89 = .ok (.iload_n 2, 1) := by decide +kernel
theorem dX7_count_90 : decode cX7_count 90 = .ok (.iconst 5, 1) := by decide +kernel
theorem dX7_count_91 : decode cX7_count 91 = .ok (.if_icmp .ne 8, 3) := by decide +kernel
theorem dX7_count_94 : decode cX7_count 94 = .ok (.iload 4, 2) := by decide +kernel
theorem dX7_count_96 : decode cX7_count 96 = .ok (.goto 14, 3) := by decide +kernel
theorem dX7_count_99 : decode cX7_count 99 = .ok (.aload_n 0, 1) := by decide +kernel
theorem dX7_count_100 : decode cX7_count 100 = .ok (.getfield 47, 3) := by decide +kernel
theorem dX7_count_103 : decode cX7_count 103 = .ok (.bipush 6, 2) := by decide +kernel
theorem dX7_count_105 : decode cX7_count 105 = .ok (.iload_n 1, 1) := by decide +kernel
theorem dX7_count_106 : decode cX7_count 106 = .ok (.imul, 1) := by decide +kernel
theorem dX7_count_107 : decode cX7_count 107 = .ok (.iload_n 2, 1) := by decide +kernel
theorem dX7_count_108 : decode cX7_count 108 = .ok (.iadd, 1) := by decide +kernel
theorem dX7_count_109 : decode cX7_count 109 = .ok (.iaload, 1) := by decide +kernel
theorem dX7_count_110 : decode cX7_count 110 = .ok (.ireturn, 1) := by decide +kernel
theorem dJ13_bitCount_95d88_0 : decode cJ13_bitCount_95d88 0 = .ok (.lload_n 0, 1) := by decide +kernel
theorem dJ13_bitCount_95d88_1 : decode cJ13_bitCount_95d88 1 = .ok (.lload_n 0, 1) := by decide +kernel
theorem dJ13_bitCount_95d88_2 : decode cJ13_bitCount_95d88 2 = .ok (.iconst 1, 1) := by decide +kernel
theorem dJ13_bitCount_95d88_3 : decode cJ13_bitCount_95d88 3 = .ok (.lushr, 1) := by decide +kernel
theorem dJ13_bitCount_95d88_4 : decode cJ13_bitCount_95d88 4 = .ok (.ldc2_w 314, 3) := by decide +kernel
theorem dJ13_bitCount_95d88_7 : decode cJ13_bitCount_95d88 7 = .ok (.land, 1) := by decide +kernel
theorem dJ13_bitCount_95d88_8 : decode cJ13_bitCount_95d88 8 = .ok (.lsub, 1) := by decide +kernel
theorem dJ13_bitCount_95d88_9 : decode cJ13_bitCount_95d88 9 = .ok (.lstore_n 0, 1) := by decide +kernel
theorem dJ13_bitCount_95d88_10 : decode cJ13_bitCount_95d88 10 = .ok (.lload_n 0, 1) := by decide +kernel
theorem dJ13_bitCount_95d88_11 : decode cJ13_bitCount_95d88 11 = .ok (.ldc2_w 316, 3) := by decide +kernel
theorem dJ13_bitCount_95d88_14 : decode cJ13_bitCount_95d88 14 = .ok (.land, 1) := by decide +kernel
theorem dJ13_bitCount_95d88_15 : decode cJ13_bitCount_95d88 15 = .ok (.lload_n 0, 1) := by decide +kernel
theorem dJ13_bitCount_95d88_16 : decode cJ13_bitCount_95d88 16 = .ok (.iconst 2, 1) := by decide +kernel
theorem dJ13_bitCount_95d88_17 : decode cJ13_bitCount_95d88 17 = .ok (.lushr, 1) := by decide +kernel
theorem dJ13_bitCount_95d88_18 : decode cJ13_bitCount_95d88 18 = .ok (.ldc2_w 316, 3) := by decide +kernel
theorem dJ13_bitCount_95d88_21 : decode cJ13_bitCount_95d88 21 = .ok (.land, 1) := by decide +kernel
theorem dJ13_bitCount_95d88_22 : decode cJ13_bitCount_95d88 22 = .ok (.ladd, 1) := by decide +kernel
theorem dJ13_bitCount_95d88_23 : decode cJ13_bitCount_95d88 23 = .ok (.lstore_n 0, 1) := by decide +kernel
theorem dJ13_bitCount_95d88_24 : decode cJ13_bitCount_95d88 24 = .ok (.lload_n 0, 1) := by decide +kernel
theorem dJ13_bitCount_95d88_25 : decode cJ13_bitCount_95d88 25 = .ok (.lload_n 0, 1) := by decide +kernel
theorem dJ13_bitCount_95d88_26 : decode cJ13_bitCount_95d88 26 = .ok (.iconst 4, 1) := by decide +kernel
theorem dJ13_bitCount_95d88_27 : decode cJ13_bitCount_95d88 27 = .ok (.lushr, 1) := by decide +kernel
theorem dJ13_bitCount_95d88_28 : decode cJ13_bitCount_95d88 28 = .ok (.ladd, 1) := by decide +kernel
theorem dJ13_bitCount_95d88_29 : decode cJ13_bitCount_95d88 29 = .ok (.ldc2_w 318, 3) := by decide +kernel
theorem dJ13_bitCount_95d88_32 : decode cJ13_bitCount_95d88 32 = .ok (.land, 1) := by decide +kernel
theorem dJ13_bitCount_95d88_33 : decode cJ13_bitCount_95d88 33 = .ok (.lstore_n 0, 1) := by decide +kernel
theorem dJ13_bitCount_95d88_34 : decode cJ13_bitCount_95d88 34 = .ok (.lload_n 0, 1) := by decide +kernel
theorem dJ13_bitCount_95d88_35 : decode cJ13_bitCount_95d88 35 = .ok (.lload_n 0, 1) := by decide +kernel
theorem dJ13_bitCount_95d88_36 : decode cJ13_bitCount_95d88 36 = .ok (.bipush 8, 2) := by decide +kernel
theorem dJ13_bitCount_95d88_38 : decode cJ13_bitCount_95d88 38 = .ok (.lushr, 1) := by decide +kernel
theorem dJ13_bitCount_95d88_39 : decode cJ13_bitCount_95d88 39 = .ok (.ladd, 1) := by decide +kernel
theorem dJ13_bitCount_95d88_40 : decode cJ13_bitCount_95d88 40 = .ok (.lstore_n 0, 1) := by decide +kernel
theorem dJ13_bitCount_95d88_41 : decode cJ13_bitCount_95d88 41 = .ok (.lload_n 0, 1) := by decide +kernel
theorem dJ13_bitCount_95d88_42 : decode cJ13_bitCount_95d88 42 = .ok (.lload_n 0, 1) := by decide +kernel
theorem dJ13_bitCount_95d88_43 : decode cJ13_bitCount_95d88 43 = .ok (.bipush 16, 2) := by decide +kernel
theorem dJ13_bitCount_95d88_45 : decode cJ13_bitCount_95d88 45 = .ok (.lushr, 1) := by decide +kernel
theorem dJ13_bitCount_95d88_46 : decode cJ13_bitCount_95d88 46 = .ok (.ladd, 1) := by decide +kernel
theorem dJ13_bitCount_95d88_47 : decode cJ13_bitCount_95d88 47 = .ok (.lstore_n 0, 1) := by decide +kernel
theorem dJ13_bitCount_95d88_48 : decode cJ13_bitCount_95d88 48 = .ok (.lload_n 0, 1) := by decide +kernel
theorem dJ13_bitCount_95d88_49 : decode cJ13_bitCount_95d88 49 = .ok (.lload_n 0, 1) := by decide +kernel
theorem dJ13_bitCount_95d88_50 : decode cJ13_bitCount_95d88 50 = .ok (.bipush 32, 2) := by decide +kernel
theorem dJ13_bitCount_95d88_52 : decode cJ13_bitCount_95d88 52 = .ok (.lushr, 1) := by decide +kernel
theorem dJ13_bitCount_95d88_53 : decode cJ13_bitCount_95d88 53 = .ok (.ladd, 1) := by decide +kernel
theorem dJ13_bitCount_95d88_54 : decode cJ13_bitCount_95d88 54 = .ok (.lstore_n 0, 1) := by decide +kernel
theorem dJ13_bitCount_95d88_55 : decode cJ13_bitCount_95d88 55 = .ok (.lload_n 0, 1) := by decide +kernel
theorem dJ13_bitCount_95d88_56 : decode cJ13_bitCount_95d88 56 = .ok (.l2i, 1) := by decide +kernel
theorem dJ13_bitCount_95d88_57 : decode cJ13_bitCount_95d88 57 = .ok (.bipush 127, 2) := by decide +kernel
theorem dJ13_bitCount_95d88_59 : decode cJ13_bitCount_95d88 59 = .ok (.iand, 1) := by decide +kernel
theorem dJ13_bitCount_95d88_60 : decode cJ13_bitCount_95d88 60 = .ok (.ireturn, 1) := by decide +kernel
theorem dJ9_max_7cf53_0 : decode cJ9_max_7cf53 0 = .ok (.iload_n 0, 1) := by decide +kernel
theorem dJ9_max_7cf53_1 : decode cJ9_max_7cf53 1 = .ok (.iload_n 1, 1) := by decide +kernel
theorem dJ9_max_7cf53_2 : decode cJ9_max_7cf53 2 = .ok (.if_icmp .lt 7, 3) := by decide +kernel
theorem dJ9_max_7cf53_5 : decode cJ9_max_7cf53 5 = .ok (.iload_n 0, 1) := by decide +kernel
theorem dJ9_max_7cf53_6 : decode cJ9_max_7cf53 6 = .ok (.goto 4, 3) := by decide +kernel
theorem dJ9_max_7cf53_9 : decode cJ9_max_7cf53 9 = .ok (.iload_n 1, 1) := by decide +kernel
theorem dJ9_max_7cf53_10 : decode cJ9_max_7cf53 10 = .ok (.ireturn, 1) := by decide +kernel
theorem dJ9_min_7cf53_0 : decode cJ9_min_7cf53 0 = .ok (.iload_n 0, 1) := by decide +kernel
theorem dJ9_min_7cf53_1 : decode cJ9_min_7cf53 1 = .ok (.iload_n 1, 1) := by decide +kernel
theorem dJ9_min_7cf53_2 : decode cJ9_min_7cf53 2 = .ok (.if_icmp .gt 7, 3) := by decide +kernel
theorem dJ9_min_7cf53_5 : decode cJ9_min_7cf53 5 = .ok (.iload_n 0, 1) := by decide +kernel
theorem dJ9_min_7cf53_6 : decode cJ9_min_7cf53 6 = .ok (.goto 4, 3) := by decide +kernel
theorem dJ9_min_7cf53_9 : decode cJ9_min_7cf53 9 = .ok (.iload_n 1, 1) := by decide +kernel
theorem dJ9_min_7cf53_10 : decode cJ9_min_7cf53 10 = .ok (.ireturn, 1) := by decide +kernel
theorem dJxa1e45_init_da8c8_0 : decode cJxa1e45_init_da8c8 0 = .ok (.aload_n 0, 1) := by decide +kernel
theorem dJxa1e45_init_da8c8_1 : decode cJxa1e45_init_da8c8 1 = .ok (.invokespecial 1, 3) := by decide +kernel
theorem dJxa1e45_init_da8c8_4 : decode cJxa1e45_init_da8c8 4 = .ok (.return_, 1) := by decide +kernel
set_option maxRecDepth 20000 in
theorem ggJxc12de_init_da8c8_Jxa1e45_init_da8c8 : GoodIn wsJxc12de_init_da8c8 wsJxa1e45_init_da8c8 := goodIn_r _ [5, 6, 7, 8] (by decide +kernel) (by decide +kernel)
set_option maxRecDepth 20000 in
theorem gJxc12de_init_da8c8_Jxa1e45_init_da8c8 : GoodIn wsJxc12de_init_da8c8 (wsJxa1e45_init_da8c8) := ggJxc12de_init_da8c8_Jxa1e45_init_da8c8
theorem dJxc12de_init_da8c8_0 : decode cJxc12de_init_da8c8 0 = .ok (.aload_n 0, 1) := by decide +kernel
theorem dJxc12de_init_da8c8_1 : decode cJxc12de_init_da8c8 1 = .ok (.invokespecial 1, 3) := by decide +kernel
theorem dJxc12de_init_da8c8_4 : decode cJxc12de_init_da8c8 4 = .ok (.aload_n 0, 1) := by decide +kernel
theorem dJxc12de_init_da8c8_5 : decode cJxc12de_init_da8c8 5 = .ok (.iconst 0, 1) := by decide +kernel
theorem dJxc12de_init_da8c8_6 : decode cJxc12de_init_da8c8 6 = .ok (.putfield 7, 3) := by decide +kernel
theorem dJxc12de_init_da8c8_9 : decode cJxc12de_init_da8c8 9 = .ok (.return_, 1) := by decide +kernel
set_option maxRecDepth 20000 in
theorem ggJx4a65c_init_da8c8_Jxc12de_init_da8c8 : GoodIn wsJx4a65c_init_da8c8 wsJxc12de_init_da8c8 := goodIn_r _ [6, 7, 8, 9, 10, 11, 12, 13, 14, 15, 16, 17] (by decide +kernel) (by decide +kernel)
set_option maxRecDepth 20000 in
theorem gJx4a65c_init_da8c8_Jxc12de_init_da8c8 : GoodIn wsJx4a65c_init_da8c8 (wsJxc12de_init_da8c8) := ggJx4a65c_init_da8c8_Jxc12de_init_da8c8
theorem dJx4a65c_init_da8c8_0 : decode cJx4a65c_init_da8c8 0 = .ok (.aload_n 0, 1) := by decide +kernel
theorem dJx4a65c_init_da8c8_1 : decode cJx4a65c_init_da8c8 1 = .ok (.invokespecial 1, 3) := by decide +kernel
theorem dJx4a65c_init_da8c8_4 : decode cJx4a65c_init_da8c8 4 = .ok (.aload_n 0, 1) := by decide +kernel
theorem dJx4a65c_init_da8c8_5 : decode cJx4a65c_init_da8c8 5 = .ok (.getstatic 39, 3) := by decide +kernel
theorem dJx4a65c_init_da8c8_8 : decode cJx4a65c_init_da8c8 8 = .ok (.putfield 9, 3) := by decide +kernel
theorem dJx4a65c_init_da8c8_11 : decode cJx4a65c_init_da8c8 11 = .ok (.return_, 1) := by decide +kernel
set_option maxRecDepth 20000 in
theorem ggJx4a65c_grow_92f84_J8_newLength_cabcc : GoodIn wsJx4a65c_grow_92f84 wsJ8_newLength_cabcc := goodIn_r _ [11, 12, 4, 5, 6, 13, 14, 15, 10, 16] (by decide +kernel) (by decide +kernel)
set_option maxRecDepth 20000 in
theorem gJx4a65c_grow_92f84_J8_newLength_cabcc : GoodIn wsJx4a65c_grow_92f84 (va_wsS RJx4a65c 73 yJ8_newLength_cabcc wsJ8_newLength_cabcc) := goodIn_app (goodIn_of _ (by decide +kernel)) ggJx4a65c_grow_92f84_J8_newLength_cabcc
set_option maxRecDepth 20000 in
theorem ggJx4a65c_grow_92f84_J7_copyOf_1904c : GoodIn wsJx4a65c_grow_92f84 wsJ7_copyOf_1904c := goodIn_r _ [20, 21, 22, 23, 24, 25, 26, 19, 27, 28, 29, 30, 31, 5, 32, 33, 34, 35, 36] (by decide +kernel) (by decide +kernel)
set_option maxRecDepth 20000 in
theorem gJx4a65c_grow_92f84_J7_copyOf_1904c : GoodIn wsJx4a65c_grow_92f84 (va_wsS RJx4a65c 66 yJ7_copyOf_1904c wsJ7_copyOf_1904c) := goodIn_app (goodIn_of _ (by decide +kernel)) ggJx4a65c_grow_92f84_J7_copyOf_1904c
theorem dJx4a65c_grow_92f84_0 : decode cJx4a65c_grow_92f84 0 = .ok (.aload_n 0, 1) := by decide +kernel
theorem dJx4a65c_grow_92f84_1 : decode cJx4a65c_grow_92f84 1 = .ok (.getfield 9, 3) := by decide +kernel
theorem dJx4a65c_grow_92f84_4 : decode cJx4a65c_grow_92f84 4 = .ok (.arraylength, 1) := by decide +kernel
theorem dJx4a65c_grow_92f84_5 : decode cJx4a65c_grow_92f84 5 = .ok (.istore_n 2, 1) := by decide +kernel
theorem dJx4a65c_grow_92f84_6 : decode cJx4a65c_grow_92f84 6 = .ok (.iload_n 2, 1) := by decide +kernel
theorem dJx4a65c_grow_92f84_7 : decode cJx4a65c_grow_92f84 7 = .ok (.ifCond .gt 13, 3) := by decide +kernel
theorem dJx4a65c_grow_92f84_10 : decode cJx4a65c_grow_92f84 10 = .ok (.aload_n 0, 1) := by decide +kernel
theorem dJx4a65c_grow_92f84_11 : decode cJx4a65c_grow_92f84 11 = .ok (.getfield 9, 3) := by decide +kernel
theorem dJx4a65c_grow_92f84_14 : decode cJx4a65c_grow_92f84 14 = .ok (.getstatic 39, 3) := by decide +kernel
theorem dJx4a65c_grow_92f84_17 : decode cJx4a65c_grow_92f84 17 = .ok (.if_acmp .eq 28, 3) := by decide +kernel
theorem dJx4a65c_grow_92f84_20 : decode cJx4a65c_grow_92f84 20 = .ok (.iload_n 2, 1) := by decide +kernel
theorem dJx4a65c_grow_92f84_21 : decode cJx4a65c_grow_92f84 21 = .ok (.iload_n 1, 1) := by decide +kernel
theorem dJx4a65c_grow_92f84_22 : decode cJx4a65c_grow_92f84 22 = .ok (.iload_n 2, 1) := by decide +kernel
theorem dJx4a65c_grow_92f84_23 : decode cJx4a65c_grow_92f84 23 = .ok (.isub, 1) := by decide +kernel
theorem dJx4a65c_grow_92f84_24 : decode cJx4a65c_grow_92f84 24 = .ok (.iload_n 2, 1) := by decide +kernel
theorem dJx4a65c_grow_92f84_25 : decode cJx4a65c_grow_92f84 25 = .ok (.iconst 1, 1) := by decide +kernel
theorem dJx4a65c_grow_92f84_26 : decode cJx4a65c_grow_92f84 26 = .ok (.ishr, 1) := by decide +kernel
theorem dJx4a65c_grow_92f84_27 : decode cJx4a65c_grow_92f84 27 = .ok (.invokestatic 73, 3) := by decide +kernel
theorem dJx4a65c_grow_92f84_30 : decode cJx4a65c_grow_92f84 30 = .ok (.istore_n 3, 1) := by decide +kernel
theorem dJx4a65c_grow_92f84_31 : decode cJx4a65c_grow_92f84 31 = .ok (.aload_n 0, 1) := by decide +kernel
theorem dJx4a65c_grow_92f84_32 : decode cJx4a65c_grow_92f84 32 = .ok (.aload_n 0, 1) := by decide +kernel
theorem dJx4a65c_grow_92f84_33 : decode cJx4a65c_grow_92f84 33 = .ok (.getfield 9, 3) := by decide +kernel
theorem dJx4a65c_grow_92f84_36 : decode cJx4a65c_grow_92f84 36 = .ok (.iload_n 3, 1) := by decide +kernel
theorem dJx4a65c_grow_92f84_37 : decode cJx4a65c_grow_92f84 37 = .ok (.invokestatic 66, 3) := by decide +kernel
theorem dJx4a65c_grow_92f84_40 : decode cJx4a65c_grow_92f84 40 = .ok (.dup_x1, 1) := by decide +kernel
theorem dJx4a65c_grow_92f84_41 : decode cJx4a65c_grow_92f84 41 = .ok (.putfield 9, 3) := by decide +kernel
theorem dJx4a65c_grow_92f84_44 : decode cJx4a65c_grow_92f84 44 = .ok (.areturn, 1) := by decide +kernel
theorem dJx4a65c_grow_92f84_45 : decode cJx4a65c_grow_92f84 45 = .ok (.aload_n 0, 1) := by decide +kernel
theorem dJx4a65c_grow_92f84_46 : decode cJx4a65c_grow_92f84 46 = .ok (.bipush 10, 2) := by decide +kernel
theorem dJx4a65c_grow_92f84_48 : decode cJx4a65c_grow_92f84 48 = .ok (.iload_n 1, 1) := by decide +kernel
theorem dJx4a65c_grow_92f84_49 : decode cJx4a65c_grow_92f84 49 = .ok (.invokestatic 79, 3) := by decide +kernel
theorem dJx4a65c_grow_92f84_52 : decode cJx4a65c_grow_92f84 52 = .ok (.anewarray 7, 3) := by decide +kernel
theorem dJx4a65c_grow_92f84_55 : decode cJx4a65c_grow_92f84 55 = .ok (.dup_x1, 1) := by decide +kernel
theorem dJx4a65c_grow_92f84_56 : decode cJx4a65c_grow_92f84 56 = .ok (.putfield 9, 3) := by decide +kernel
theorem dJx4a65c_grow_92f84_59 : decode cJx4a65c_grow_92f84 59 = .ok (.areturn, 1) := by decide +kernel
set_option maxRecDepth 20000 in
theorem ggJx4a65c_grow_d5877_Jx4a65c_grow_92f84 : GoodIn wsJx4a65c_grow_d5877 wsJx4a65c_grow_92f84 := goodIn_r _ [6, 7, 8, 9, 10, 11, 12, 13, 14, 15, 16, 17, 18, 19, 20, 21, 22, 23, 24, 25, 26, 27, 28, 29, 30, 31, 32, 33, 34, 35, 36, 37, 38, 39, 40, 41, 42, 43, 44, 45] (by decide +kernel) (by decide +kernel)
set_option maxRecDepth 20000 in
theorem gJx4a65c_grow_d5877_Jx4a65c_grow_92f84 : GoodIn wsJx4a65c_grow_d5877 (wsV RJx4a65c 69 RJx4a65c yJx4a65c_grow_92f84 wsJx4a65c_grow_92f84) := goodIn_app (goodIn_of _ (by decide +kernel)) ggJx4a65c_grow_d5877_Jx4a65c_grow_92f84
theorem dJx4a65c_grow_d5877_0 : decode cJx4a65c_grow_d5877 0 = .ok (.aload_n 0, 1) := by decide +kernel
theorem dJx4a65c_grow_d5877_1 : decode cJx4a65c_grow_d5877 1 = .ok (.aload_n 0, 1) := by decide +kernel
theorem dJx4a65c_grow_d5877_2 : decode cJx4a65c_grow_d5877 2 = .ok (.getfield 48, 3) := by decide +kernel
theorem dJx4a65c_grow_d5877_5 : decode cJx4a65c_grow_d5877 5 = .ok (.iconst 1, 1) := by decide +kernel
theorem dJx4a65c_grow_d5877_6 : decode cJx4a65c_grow_d5877 6 = .ok (.iadd, 1) := by decide +kernel
theorem dJx4a65c_grow_d5877_7 : decode cJx4a65c_grow_d5877 7 = .ok (.invokevirtual 69, 3) := by decide +kernel
theorem dJx4a65c_grow_d5877_10 : decode cJx4a65c_grow_d5877 10 = .ok (.areturn, 1) := by decide +kernel
theorem dJx4a65c_size_8abf5_0 : decode cJx4a65c_size_8abf5 0 = .ok (.aload_n 0, 1) := by decide +kernel
theorem dJx4a65c_size_8abf5_1 : decode cJx4a65c_size_8abf5 1 = .ok (.getfield 48, 3) := by decide +kernel
theorem dJx4a65c_size_8abf5_4 : decode cJx4a65c_size_8abf5 4 = .ok (.ireturn, 1) := by decide +kernel
theorem dJx4a65c_elementData_915e3_0 : decode cJx4a65c_elementData_915e3 0 = .ok (.aload_n 0, 1) := by decide +kernel
theorem dJx4a65c_elementData_915e3_1 : decode cJx4a65c_elementData_915e3 1 = .ok (.getfield 9, 3) := by decide +kernel
theorem dJx4a65c_elementData_915e3_4 : decode cJx4a65c_elementData_915e3 4 = .ok (.iload_n 1, 1) := by decide +kernel
theorem dJx4a65c_elementData_915e3_5 : decode cJx4a65c_elementData_915e3 5 = .ok (.aaload, 1) := by decide +kernel
theorem dJx4a65c_elementData_915e3_6 : decode cJx4a65c_elementData_915e3 6 = .ok (.areturn, 1) := by decide +kernel
set_option maxRecDepth 20000 in
theorem ggJx4a65c_get_915e3_J15_checkIndex_7cf53 : GoodIn wsJx4a65c_get_915e3 wsJ15_checkIndex_7cf53 := goodIn_r _ [5, 6, 7, 8, 9] (by decide +kernel) (by decide +kernel)
set_option maxRecDepth 20000 in
theorem gJx4a65c_get_915e3_J15_checkIndex_7cf53 : GoodIn wsJx4a65c_get_915e3 (va_wsS RJx4a65c 118 yJ15_checkIndex_7cf53 wsJ15_checkIndex_7cf53) := goodIn_app (goodIn_of _ (by decide +kernel)) ggJx4a65c_get_915e3_J15_checkIndex_7cf53
set_option maxRecDepth 20000 in
theorem ggJx4a65c_get_915e3_Jx4a65c_elementData_915e3 : GoodIn wsJx4a65c_get_915e3 wsJx4a65c_elementData_915e3 := goodIn_r _ [14, 15, 16, 17, 18] (by decide +kernel) (by decide +kernel)
set_option maxRecDepth 20000 in
theorem gJx4a65c_get_915e3_Jx4a65c_elementData_915e3 : GoodIn wsJx4a65c_get_915e3 (wsV RJx4a65c 123 RJx4a65c yJx4a65c_elementData_915e3 wsJx4a65c_elementData_915e3) := goodIn_app (goodIn_of _ (by decide +kernel)) ggJx4a65c_get_915e3_Jx4a65c_elementData_915e3
theorem dJx4a65c_get_915e3_0 : decode cJx4a65c_get_915e3 0 = .ok (.iload_n 1, 1) := by decide +kernel
theorem dJx4a65c_get_915e3_1 : decode cJx4a65c_get_915e3 1 = .ok (.aload_n 0, 1) := by decide +kernel
theorem dJx4a65c_get_915e3_2 : decode cJx4a65c_get_915e3 2 = .ok (.getfield 48, 3) := by decide +kernel
theorem dJx4a65c_get_915e3_5 : decode cJx4a65c_get_915e3 5 = .ok (.invokestatic 118, 3) := by decide +kernel
theorem dJx4a65c_get_915e3_8 : decode cJx4a65c_get_915e3 8 = .ok (.pop, 1) := by decide +kernel
theorem dJx4a65c_get_915e3_9 : decode cJx4a65c_get_915e3 9 = .ok (.aload_n 0, 1) := by decide +kernel
theorem dJx4a65c_get_915e3_10 : decode cJx4a65c_get_915e3 10 = .ok (.iload_n 1, 1) := by decide +kernel
theorem dJx4a65c_get_915e3_11 : decode cJx4a65c_get_915e3 11 = .ok (.invokevirtual 123, 3) := by decide +kernel
theorem dJx4a65c_get_915e3_14 : decode cJx4a65c_get_915e3 14 = .ok (.areturn, 1) := by decide +kernel
set_option maxRecDepth 20000 in
theorem ggJx4a65c_add_72be8_Jx4a65c_grow_d5877 : GoodIn wsJx4a65c_add_72be8 wsJx4a65c_grow_d5877 := goodIn_r _ [6, 1, 7, 8, 9, 5, 10, 11, 12, 13, 14, 15, 16, 17, 18, 19, 20, 21, 22, 23, 24, 25, 26, 27, 28, 29, 30, 31, 32, 33, 34, 35, 36, 37, 38, 39, 40, 41, 42, 43, 44, 45, 46, 47, 48, 49] (by decide +kernel) (by decide +kernel)
set_option maxRecDepth 20000 in
theorem gJx4a65c_add_72be8_Jx4a65c_grow_d5877 : GoodIn wsJx4a65c_add_72be8 (wsV RJx4a65c 129 RJx4a65c yJx4a65c_grow_d5877 wsJx4a65c_grow_d5877) := goodIn_app (goodIn_of _ (by decide +kernel)) ggJx4a65c_add_72be8_Jx4a65c_grow_d5877
theorem dJx4a65c_add_72be8_0 : decode cJx4a65c_add_72be8 0 = .ok (.iload_n 3, 1) := by decide +kernel
theorem dJx4a65c_add_72be8_1 : decode cJx4a65c_add_72be8 1 = .ok (.aload_n 2, 1) := by decide +kernel
theorem dJx4a65c_add_72be8_2 : decode cJx4a65c_add_72be8 2 = .ok (.arraylength, 1) := by decide +kernel
theorem dJx4a65c_add_72be8_3 : decode cJx4a65c_add_72be8 3 = .ok (.if_icmp .ne 8, 3) := by decide +kernel
theorem dJx4a65c_add_72be8_6 : decode cJx4a65c_add_72be8 6 = .ok (.aload_n 0, 1) := by decide +kernel
theorem dJx4a65c_add_72be8_7 : decode cJx4a65c_add_72be8 7 = .ok (.invokevirtual 129, 3) := by decide +kernel
theorem dJx4a65c_add_72be8_10 : decode cJx4a65c_add_72be8 10 = .ok (.astore_n 2, 1) := by decide +kernel
theorem dJx4a65c_add_72be8_11 : decode cJx4a65c_add_72be8 11 = .ok (.aload_n 2, 1) := by decide +kernel
theorem dJx4a65c_add_72be8_12 : decode cJx4a65c_add_72be8 12 = .ok (.iload_n 3, 1) := by decide +kernel
theorem dJx4a65c_add_72be8_13 : decode cJx4a65c_add_72be8 13 = .ok (.aload_n 1, 1) := by decide +kernel
theorem dJx4a65c_add_72be8_14 : decode cJx4a65c_add_72be8 14 = .ok (.aastore, 1) := by decide +kernel
theorem dJx4a65c_add_72be8_15 : decode cJx4a65c_add_72be8 15 = .ok (.aload_n 0, 1) := by decide +kernel
theorem dJx4a65c_add_72be8_16 : decode cJx4a65c_add_72be8 16 = .ok (.iload_n 3, 1) := by decide +kernel
theorem dJx4a65c_add_72be8_17 : decode cJx4a65c_add_72be8 17 = .ok (.iconst 1, 1) := by decide +kernel
theorem dJx4a65c_add_72be8_18 : decode cJx4a65c_add_72be8 18 = .ok (.iadd, 1) := by decide +kernel
theorem dJx4a65c_add_72be8_19 : decode cJx4a65c_add_72be8 19 = .ok (.putfield 48, 3) := by decide +kernel
theorem dJx4a65c_add_72be8_22 : decode cJx4a65c_add_72be8 22 = .ok (.return_, 1) := by decide +kernel
set_option maxRecDepth 20000 in
theorem ggJx4a65c_add_9ea2d_Jx4a65c_add_72be8 : GoodIn wsJx4a65c_add_9ea2d wsJx4a65c_add_72be8 := goodIn_r _ [9, 4, 10, 11, 12, 8, 13, 14, 15, 16, 17, 3, 18, 19, 20, 21, 22, 23, 24, 25, 26, 27, 28, 29, 30, 31, 32, 33, 34, 35, 36, 37, 38, 39, 40, 41, 42, 43, 44, 45, 46, 47, 48, 49, 50, 51, 52, 53, 54, 55] (by decide +kernel) (by decide +kernel)
set_option maxRecDepth 20000 in
theorem gJx4a65c_add_9ea2d_Jx4a65c_add_72be8 : GoodIn wsJx4a65c_add_9ea2d (wsV RJx4a65c 131 RJx4a65c yJx4a65c_add_72be8 wsJx4a65c_add_72be8) := goodIn_app (goodIn_of _ (by decide +kernel)) ggJx4a65c_add_9ea2d_Jx4a65c_add_72be8
theorem dJx4a65c_add_9ea2d_0 : decode cJx4a65c_add_9ea2d 0 = .ok (.aload_n 0, 1) := by decide +kernel
theorem dJx4a65c_add_9ea2d_1 : decode cJx4a65c_add_9ea2d 1 = .ok (.dup, 1) := by decide +kernel
theorem dJx4a65c_add_9ea2d_2 : decode cJx4a65c_add_9ea2d 2 = .ok (.getfield 63, 3) := by decide +kernel
theorem dJx4a65c_add_9ea2d_5 : decode cJx4a65c_add_9ea2d 5 = .ok (.iconst 1, 1) := by decide +kernel
theorem dJx4a65c_add_9ea2d_6 : decode cJx4a65c_add_9ea2d 6 = .ok (.iadd, 1) := by decide +kernel
theorem dJx4a65c_add_9ea2d_7 : decode cJx4a65c_add_9ea2d 7 = .ok (.putfield 63, 3) := by decide +kernel
theorem dJx4a65c_add_9ea2d_10 : decode cJx4a65c_add_9ea2d 10 = .ok (.aload_n 0, 1) := by decide +kernel
theorem dJx4a65c_add_9ea2d_11 : decode cJx4a65c_add_9ea2d 11 = .ok (.aload_n 1, 1) := by decide +kernel
theorem dJx4a65c_add_9ea2d_12 : decode cJx4a65c_add_9ea2d 12 = .ok (.aload_n 0, 1) := by decide +kernel
theorem dJx4a65c_add_9ea2d_13 : decode cJx4a65c_add_9ea2d 13 = .ok (.getfield 9, 3) := by decide +kernel
theorem dJx4a65c_add_9ea2d_16 : decode cJx4a65c_add_9ea2d 16 = .ok (.aload_n 0, 1) := by decide +kernel
theorem dJx4a65c_add_9ea2d_17 : decode cJx4a65c_add_9ea2d 17 = .ok (.getfield 48, 3) := by decide +kernel
theorem dJx4a65c_add_9ea2d_20 : decode cJx4a65c_add_9ea2d 20 = .ok (.invokevirtual 131, 3) := by decide +kernel
theorem dJx4a65c_add_9ea2d_23 : decode cJx4a65c_add_9ea2d 23 = .ok (.iconst 1, 1) := by decide +kernel
theorem dJx4a65c_add_9ea2d_24 : decode cJx4a65c_add_9ea2d 24 = .ok (.ireturn, 1) := by decide +kernel
set_option maxRecDepth 20000 in
theorem ggJ7_copyOf_1904c_J7_copyOf_6403c : GoodIn wsJ7_copyOf_1904c wsJ7_copyOf_6403c := goodIn_r _ [8, 9, 10, 11, 12, 13, 14, 15, 16, 17, 18] (by decide +kernel) (by decide +kernel)
set_option maxRecDepth 20000 in
theorem gJ7_copyOf_1904c_J7_copyOf_6403c : GoodIn wsJ7_copyOf_1904c (va_wsS RJ7 300 yJ7_copyOf_6403c wsJ7_copyOf_6403c) := goodIn_app (goodIn_of _ (by decide +kernel)) ggJ7_copyOf_1904c_J7_copyOf_6403c
theorem dJ7_copyOf_1904c_0 : decode cJ7_copyOf_1904c 0 = .ok (.aload_n 0, 1) := by decide +kernel
theorem dJ7_copyOf_1904c_1 : decode cJ7_copyOf_1904c 1 = .ok (.iload_n 1, 1) := by decide +kernel
theorem dJ7_copyOf_1904c_2 : decode cJ7_copyOf_1904c 2 = .ok (.aload_n 0, 1) := by decide +kernel
theorem dJ7_copyOf_1904c_3 : decode cJ7_copyOf_1904c 3 = .ok (.invokevirtual 86, 3) := by decide +kernel
theorem dJ7_copyOf_1904c_6 : decode cJ7_copyOf_1904c 6 = .ok (.invokestatic 300, 3) := by decide +kernel
theorem dJ7_copyOf_1904c_9 : decode cJ7_copyOf_1904c 9 = .ok (.areturn, 1) := by decide +kernel
theorem dJ7_copyOf_6403c_0 : decode cJ7_copyOf_6403c 0 = .ok (.aload_n 2, 1) := by decide +kernel
theorem dJ7_copyOf_6403c_1 : decode cJ7_copyOf_6403c 1 = .ok (.ldc 110, 2) := by decide +kernel
theorem dJ7_copyOf_6403c_3 : decode cJ7_copyOf_6403c 3 = .ok (.if_acmp .ne 10, 3) := by decide +kernel
theorem dJ7_copyOf_6403c_6 : decode cJ7_copyOf_6403c 6 = .ok (.iload_n 1, 1) := by decide +kernel
theorem dJ7_copyOf_6403c_7 : decode cJ7_copyOf_6403c 7 = .ok (.anewarray 2, 3) := by decide +kernel
theorem dJ7_copyOf_6403c_10 : decode cJ7_copyOf_6403c 10 = .ok (.goto 14, 3) := by decide +kernel
theorem dJ7_copyOf_6403c_13 : decode cJ7_copyOf_6403c 13 = .ok (.aload_n 2, 1) := by decide +kernel
theorem dJ7_copyOf_6403c_14 : decode cJ7_copyOf_6403c 14 = .ok (.invokevirtual 90, 3) := by decide +kernel
theorem dJ7_copyOf_6403c_17 : decode cJ7_copyOf_6403c 17 = .ok (.iload_n 1, 1) := by decide +kernel
theorem dJ7_copyOf_6403c_18 : decode cJ7_copyOf_6403c 18 = .ok (.invokestatic 95, 3) := by decide +kernel
theorem dJ7_copyOf_6403c_21 : decode cJ7_copyOf_6403c 21 = .ok (.checkcast 110, 3) := by decide +kernel
theorem dJ7_copyOf_6403c_24 : decode cJ7_copyOf_6403c 24 = .ok (.astore_n 3, 1) := by decide +kernel
theorem dJ7_copyOf_6403c_25 : decode cJ7_copyOf_6403c 25 = .ok (.aload_n 0, 1) := by decide +kernel
theorem dJ7_copyOf_6403c_26 : decode cJ7_copyOf_6403c 26 = .ok (.iconst 0, 1) := by decide +kernel
theorem dJ7_copyOf_6403c_27 : decode cJ7_copyOf_6403c 27 = .ok (.aload_n 3, 1) := by decide +kernel
theorem dJ7_copyOf_6403c_28 : decode cJ7_copyOf_6403c 28 = .ok (.iconst 0, 1) := by decide +kernel
theorem dJ7_copyOf_6403c_29 : decode cJ7_copyOf_6403c 29 = .ok (.aload_n 0, 1) := by decide +kernel
theorem dJ7_copyOf_6403c_30 : decode cJ7_copyOf_6403c 30 = .ok (.arraylength, 1) := by decide +kernel
theorem dJ7_copyOf_6403c_31 : decode cJ7_copyOf_6403c 31 = .ok (.iload_n 1, 1) := by decide +kernel
theorem dJ7_copyOf_6403c_32 : decode cJ7_copyOf_6403c 32 = .ok (.invokestatic 304, 3) := by decide +kernel
theorem dJ7_copyOf_6403c_35 : decode cJ7_copyOf_6403c 35 = .ok (.invokestatic 150, 3) := by decide +kernel
theorem dJ7_copyOf_6403c_38 : decode cJ7_copyOf_6403c 38 = .ok (.aload_n 3, 1) := by decide +kernel
theorem dJ7_copyOf_6403c_39 : decode cJ7_copyOf_6403c 39 = .ok (.areturn, 1) := by decide +kernel
set_option maxRecDepth 20000 in
theorem ggJ15_checkIndex_7cf53_J3_checkIndex_8e157 : GoodIn wsJ15_checkIndex_7cf53 wsJ3_checkIndex_8e157 := goodIn_r _ [4] (by decide +kernel) (by decide +kernel)
set_option maxRecDepth 20000 in
theorem gJ15_checkIndex_7cf53_J3_checkIndex_8e157 : GoodIn wsJ15_checkIndex_7cf53 (va_wsS RJ15 105 yJ3_checkIndex_8e157 wsJ3_checkIndex_8e157) := goodIn_app (goodIn_of _ (by decide +kernel)) ggJ15_checkIndex_7cf53_J3_checkIndex_8e157
theorem dJ15_checkIndex_7cf53_0 : decode cJ15_checkIndex_7cf53 0 = .ok (.iload_n 0, 1) := by decide +kernel
theorem dJ15_checkIndex_7cf53_1 : decode cJ15_checkIndex_7cf53 1 = .ok (.iload_n 1, 1) := by decide +kernel
theorem dJ15_checkIndex_7cf53_2 : decode cJ15_checkIndex_7cf53 2 = .ok (.aconst_null, 1) := by decide +kernel
theorem dJ15_checkIndex_7cf53_3 : decode cJ15_checkIndex_7cf53 3 = .ok (.invokestatic 105, 3) := by decide +kernel
theorem dJ15_checkIndex_7cf53_6 : decode cJ15_checkIndex_7cf53 6 = .ok (.ireturn, 1) := by decide +kernel
set_option maxRecDepth 20000 in
theorem ggJ8_newLength_cabcc_J8_hugeLength_7cf53 : GoodIn wsJ8_newLength_cabcc wsJ8_hugeLength_7cf53 := goodIn_r _ [9, 5] (by decide +kernel) (by decide +kernel)
set_option maxRecDepth 20000 in
theorem gJ8_newLength_cabcc_J8_hugeLength_7cf53 : GoodIn wsJ8_newLength_cabcc (va_wsS RJ8 201 yJ8_hugeLength_7cf53 wsJ8_hugeLength_7cf53) := goodIn_app (goodIn_of _ (by decide +kernel)) ggJ8_newLength_cabcc_J8_hugeLength_7cf53
theorem dJ8_newLength_cabcc_0 : decode cJ8_newLength_cabcc 0 = .ok (.iload_n 0, 1) := by decide +kernel
theorem dJ8_newLength_cabcc_1 : decode cJ8_newLength_cabcc 1 = .ok (.iload_n 1, 1) := by decide +kernel
theorem dJ8_newLength_cabcc_2 : decode cJ8_newLength_cabcc 2 = .ok (.iload_n 2, 1) := by decide +kernel
theorem dJ8_newLength_cabcc_3 : decode cJ8_newLength_cabcc 3 = .ok (.invokestatic 194, 3) := by decide +kernel
theorem dJ8_newLength_cabcc_6 : decode cJ8_newLength_cabcc 6 = .ok (.iadd, 1) := by decide +kernel
theorem dJ8_newLength_cabcc_7 : decode cJ8_newLength_cabcc 7 = .ok (.istore_n 3, 1) := by decide +kernel
theorem dJ8_newLength_cabcc_8 : decode cJ8_newLength_cabcc 8 = .ok (.iconst 0, 1) := by decide +kernel
theorem dJ8_newLength_cabcc_9 : decode cJ8_newLength_cabcc 9 = .ok (.iload_n 3, 1) := by decide +kernel
theorem dJ8_newLength_cabcc_10 : decode cJ8_newLength_cabcc 10 = .ok (.if_icmp .ge 11, 3) := by decide +kernel
theorem dJ8_newLength_cabcc_13 : decode cJ8_newLength_cabcc 13 = .ok (.iload_n 3, 1) := by decide +kernel
theorem dJ8_newLength_cabcc_14 : decode cJ8_newLength_cabcc 14 = .ok (.ldc 200, 2) := by decide +kernel
theorem dJ8_newLength_cabcc_16 : decode cJ8_newLength_cabcc 16 = .ok (.if_icmp .gt 5, 3) := by decide +kernel
theorem dJ8_newLength_cabcc_19 : decode cJ8_newLength_cabcc 19 = .ok (.iload_n 3, 1) := by decide +kernel
theorem dJ8_newLength_cabcc_20 : decode cJ8_newLength_cabcc 20 = .ok (.ireturn, 1) := by decide +kernel
theorem dJ8_newLength_cabcc_21 : decode cJ8_newLength_cabcc 21 = .ok (.iload_n 0, 1) := by decide +kernel
theorem dJ8_newLength_cabcc_22 : decode cJ8_newLength_cabcc 22 = .ok (.iload_n 1, 1) := by decide +kernel
theorem dJ8_newLength_cabcc_23 : decode cJ8_newLength_cabcc 23 = .ok (.invokestatic 201, 3) := by decide +kernel
theorem dJ8_newLength_cabcc_26 : decode cJ8_newLength_cabcc 26 = .ok (.ireturn, 1) := by decide +kernel
theorem dJ8_hugeLength_7cf53_0 : decode cJ8_hugeLength_7cf53 0 = .ok (.iload_n 0, 1) := by decide +kernel
theorem dJ8_hugeLength_7cf53_1 : decode cJ8_hugeLength_7cf53 1 = .ok (.iload_n 1, 1) := by decide +kernel
theorem dJ8_hugeLength_7cf53_2 : decode cJ8_hugeLength_7cf53 2 = .ok (.iadd, 1) := by decide +kernel
theorem dJ8_hugeLength_7cf53_3 : decode cJ8_hugeLength_7cf53 3 = .ok (.istore_n 2, 1) := by decide +kernel
theorem dJ8_hugeLength_7cf53_4 : decode cJ8_hugeLength_7cf53 4 = .ok (.iload_n 2, 1) := by decide +kernel
theorem dJ8_hugeLength_7cf53_5 : decode cJ8_hugeLength_7cf53 5 = .ok (.ifCond .ge 44, 3) := by decide +kernel
theorem dJ8_hugeLength_7cf53_8 : decode cJ8_hugeLength_7cf53 8 = .ok (.new 204, 3) := by decide +kernel
theorem dJ8_hugeLength_7cf53_11 : decode cJ8_hugeLength_7cf53 11 = .ok (.dup, 1) := by decide +kernel
theorem dJ8_hugeLength_7cf53_12 : decode cJ8_hugeLength_7cf53 12 = .ok (.new 89, 3) := by decide +kernel
theorem dJ8_hugeLength_7cf53_15 : decode cJ8_hugeLength_7cf53 15 = .ok (.dup, 1) := by decide +kernel
theorem dJ8_hugeLength_7cf53_16 : decode cJ8_hugeLength_7cf53 16 = .ok (.invokespecial 91, 3) := by decide +kernel
theorem dJ8_hugeLength_7cf53_19 : decode cJ8_hugeLength_7cf53 19 = .ok (.ldc 206, 2) := by decide +kernel
theorem dJ8_hugeLength_7cf53_21 : decode cJ8_hugeLength_7cf53 21 = .ok (.invokevirtual 94, 3) := by decide +kernel
theorem dJ8_hugeLength_7cf53_24 : decode cJ8_hugeLength_7cf53 24 = .ok (.iload_n 0, 1) := by decide +kernel
theorem dJ8_hugeLength_7cf53_25 : decode cJ8_hugeLength_7cf53 25 = .ok (.invokevirtual 98, 3) := by decide +kernel
theorem dJ8_hugeLength_7cf53_28 : decode cJ8_hugeLength_7cf53 28 = .ok (.ldc 208, 2) := by decide +kernel
theorem dJ8_hugeLength_7cf53_30 : decode cJ8_hugeLength_7cf53 30 = .ok (.invokevirtual 94, 3) := by decide +kernel
theorem dJ8_hugeLength_7cf53_33 : decode cJ8_hugeLength_7cf53 33 = .ok (.iload_n 1, 1) := by decide +kernel
theorem dJ8_hugeLength_7cf53_34 : decode cJ8_hugeLength_7cf53 34 = .ok (.invokevirtual 98, 3) := by decide +kernel
theorem dJ8_hugeLength_7cf53_37 : decode cJ8_hugeLength_7cf53 37 = .ok (.ldc 210, 2) := by decide +kernel
theorem dJ8_hugeLength_7cf53_39 : decode cJ8_hugeLength_7cf53 39 = .ok (.invokevirtual 94, 3) := by decide +kernel
theorem dJ8_hugeLength_7cf53_42 : decode cJ8_hugeLength_7cf53 42 = .ok (.invokevirtual 101, 3) := by decide +kernel
theorem dJ8_hugeLength_7cf53_45 : decode cJ8_hugeLength_7cf53 45 = .ok (.invokespecial 212, 3) := by decide +kernel
theorem dJ8_hugeLength_7cf53_48 : decode cJ8_hugeLength_7cf53 48 = .ok (.athrow, 1) := by decide +kernel
theorem dJ8_hugeLength_7cf53_49 : decode cJ8_hugeLength_7cf53 49 = .ok (.iload_n 2, 1) := by decide +kernel
theorem dJ8_hugeLength_7cf53_50 : decode cJ8_hugeLength_7cf53 50 = .ok (.ldc 200, 2) := by decide +kernel
theorem dJ8_hugeLength_7cf53_52 : decode cJ8_hugeLength_7cf53 52 = .ok (.if_icmp .gt 6, 3) := by decide +kernel
theorem dJ8_hugeLength_7cf53_55 : decode cJ8_hugeLength_7cf53 55 = .ok (.ldc 200, 2) := by decide +kernel
theorem dJ8_hugeLength_7cf53_57 : decode cJ8_hugeLength_7cf53 57 = .ok (.ireturn, 1) := by decide +kernel
theorem dJ8_hugeLength_7cf53_58 : decode cJ8_hugeLength_7cf53 58 = .ok (.iload_n 2, 1) := by decide +kernel
theorem dJ8_hugeLength_7cf53_59 : decode cJ8_hugeLength_7cf53 59 = .ok (.ireturn, 1) := by decide +kernel
theorem dJ3_checkIndex_8e157_0 : decode cJ3_checkIndex_8e157 0 = .ok (.iload_n 0, 1) := by decide +kernel
theorem dJ3_checkIndex_8e157_1 : decode cJ3_checkIndex_8e157 1 = .ok (.ifCond .lt 8, 3) := by decide +kernel
theorem dJ3_checkIndex_8e157_4 : decode cJ3_checkIndex_8e157 4 = .ok (.iload_n 0, 1) := by decide +kernel
theorem dJ3_checkIndex_8e157_5 : decode cJ3_checkIndex_8e157 5 = .ok (.iload_n 1, 1) := by decide +kernel
theorem dJ3_checkIndex_8e157_6 : decode cJ3_checkIndex_8e157 6 = .ok (.if_icmp .lt 10, 3) := by decide +kernel
theorem dJ3_checkIndex_8e157_9 : decode cJ3_checkIndex_8e157 9 = .ok (.aload_n 2, 1) := by decide +kernel
theorem dJ3_checkIndex_8e157_10 : decode cJ3_checkIndex_8e157 10 = .ok (.iload_n 0, 1) := by decide +kernel
theorem dJ3_checkIndex_8e157_11 : decode cJ3_checkIndex_8e157 11 = .ok (.iload_n 1, 1) := by decide +kernel
theorem dJ3_checkIndex_8e157_12 : decode cJ3_checkIndex_8e157 12 = .ok (.invokestatic 95, 3) := by decide +kernel
theorem dJ3_checkIndex_8e157_15 : decode cJ3_checkIndex_8e157 15 = .ok (.athrow, 1) := by decide +kernel
theorem dJ3_checkIndex_8e157_16 : decode cJ3_checkIndex_8e157 16 = .ok (.iload_n 0, 1) := by decide +kernel
theorem dJ3_checkIndex_8e157_17 : decode cJ3_checkIndex_8e157 17 = .ok (.ireturn, 1) := by decide +kernel
set_option maxRecDepth 20000 in
theorem ggL_file_X6_file : GoodIn wsL_file wsX6_file := goodIn_ca (goodIn_ca (goodIn_r _ [7, 8, 9, 10, 11, 12, 13, 14, 15, 6, 16, 17, 18, 19, 20, 21, 22, 23, 24, 25, 26, 27, 28, 29, 30, 31, 32, 33, 34, 35, 36, 37, 38, 39, 40, 41, 42, 43, 44, 45, 46, 47, 48, 49, 50, 51, 52, 53, 54, 55, 56, 57, 58, 59, 60, 61, 62, 63, 64, 65, 66, 67, 68, 69, 70, 71, 72, 73, 74, 75, 76, 77, 78, 79, 80, 81, 82, 83, 84, 85, 86, 87, 88, 89, 90, 91, 92, 93, 94, 95, 96, 97] (by decide +kernel) (by decide +kernel)) (goodIn_sub (fun _ h => List.mem_cons_of_mem _ (List.mem_append_left _ (List.mem_append_right _ h))) (by decide +kernel))) (goodIn_sub (fun _ h => List.mem_cons_of_mem _ (List.mem_append_right _ h)) (by decide +kernel))
set_option maxRecDepth 20000 in
theorem gL_file_X6_file : GoodIn wsL_file (wsV RL 7 RX6 yX6_file wsX6_file) := goodIn_app (goodIn_of _ (by decide +kernel)) ggL_file_X6_file
theorem dL_file_0 : decode cL_file 0 = .ok (.aload_n 2, 1) := by decide +kernel
theorem dL_file_1 : decode cL_file 1 = .ok (.iconst 0, 1) := by decide +kernel
theorem dL_file_2 : decode cL_file 2 = .ok (.aload_n 0, 1) := by decide +kernel
theorem dL_file_3 : decode cL_file 3 = .ok (.iload_n 1, 1) := by decide +kernel
theorem dL_file_4 : decode cL_file 4 = .ok (.invokevirtual 7, 3) := by decide +kernel
theorem dL_file_7 : decode cL_file 7 = .ok (.i2l, 1) := by decide +kernel
theorem dL_file_8 : decode cL_file 8 = .ok (.lastore, 1) := by decide +kernel
theorem dL_file_9 : decode cL_file 9 = .ok (.goto 9, 3) := by decide +kernel
theorem dL_file_12 : decode cL_file 12 = .ok (.astore_n 3, 1) := by decide +kernel
theorem dL_file_13 : decode cL_file 13 = .ok (.iconst 1, 1) := by decide +kernel
theorem dL_file_14 : decode cL_file 14 = .ok (.ireturn, 1) := by decide +kernel
theorem dL_file_15 : decode cL_file 15 = .ok (.astore_n 3, 1) := by decide +kernel
theorem dL_file_16 : decode cL_file 16 = .ok (.iconst 2, 1) := by decide +kernel
theorem dL_file_17 : decode cL_file 17 = .ok (.ireturn, 1) := by decide +kernel
theorem dL_file_18 : decode cL_file 18 = .ok (.iconst 0, 1) := by decide +kernel
theorem dL_file_19 : decode cL_file 19 = .ok (.ireturn, 1) := by decide +kernel
set_option maxRecDepth 20000 in
theorem ggL_change_X6_change : GoodIn wsL_change wsX6_change := goodIn_ca (goodIn_ca (goodIn_r _ [7, 8, 9, 10, 11, 12, 6, 13, 14, 15, 16, 17, 18, 19, 20, 21, 22, 23, 24, 25, 26, 27, 28, 29, 30, 31, 32, 33, 34, 35, 36, 37, 38, 39, 40, 41, 42, 43, 44, 45, 46, 47, 48, 49, 50, 51, 52, 53, 54, 55, 56, 57, 58, 59, 60, 61, 62, 63, 64, 65, 66, 67, 68, 69, 70, 71, 72, 73, 74, 75, 76, 77, 78, 79, 80, 81, 82, 83, 84, 85, 86, 87, 88, 89, 90, 91, 92, 93, 94, 95, 96, 97, 98, 99, 100, 101, 102, 103, 104, 105, 106, 107, 108, 109, 110, 111, 112, 113, 114, 115, 116] (by decide +kernel) (by decide +kernel)) (goodIn_sub (fun _ h => List.mem_cons_of_mem _ (List.mem_append_left _ (List.mem_append_right _ h))) (by decide +kernel))) (goodIn_sub (fun _ h => List.mem_cons_of_mem _ (List.mem_append_right _ h)) (by decide +kernel))
set_option maxRecDepth 20000 in
theorem gL_change_X6_change : GoodIn wsL_change (wsV RL 17 RX6 yX6_change wsX6_change) := goodIn_app (goodIn_of _ (by decide +kernel)) ggL_change_X6_change
theorem dL_change_0 : decode cL_change 0 = .ok (.aload_n 3, 1) := by decide +kernel
theorem dL_change_1 : decode cL_change 1 = .ok (.iconst 0, 1) := by decide +kernel
theorem dL_change_2 : decode cL_change 2 = .ok (.aload_n 0, 1) := by decide +kernel
theorem dL_change_3 : decode cL_change 3 = .ok (.iload_n 1, 1) := by decide +kernel
theorem dL_change_4 : decode cL_change 4 = .ok (.iload_n 2, 1) := by decide +kernel
theorem dL_change_5 : decode cL_change 5 = .ok (.invokevirtual 17, 3) := by decide +kernel
theorem dL_change_8 : decode cL_change 8 = .ok (.i2l, 1) := by decide +kernel
theorem dL_change_9 : decode cL_change 9 = .ok (.lastore, 1) := by decide +kernel
theorem dL_change_10 : decode cL_change 10 = .ok (.goto 11, 3) := by decide +kernel
theorem dL_change_13 : decode cL_change 13 = .ok (.astore 4, 2) := by decide +kernel
theorem dL_change_15 : decode cL_change 15 = .ok (.iconst 1, 1) := by decide +kernel
theorem dL_change_16 : decode cL_change 16 = .ok (.ireturn, 1) := by decide +kernel
theorem dL_change_17 : decode cL_change 17 = .ok (.astore 4, 2) := by decide +kernel
theorem dL_change_19 : decode cL_change 19 = .ok (.iconst 2, 1) := by decide +kernel
theorem dL_change_20 : decode cL_change 20 = .ok (.ireturn, 1) := by decide +kernel
theorem dL_change_21 : decode cL_change 21 = .ok (.iconst 0, 1) := by decide +kernel
theorem dL_change_22 : decode cL_change 22 = .ok (.ireturn, 1) := by decide +kernel
set_option maxRecDepth 20000 in
theorem ggL_party_X6_party : GoodIn wsL_party wsX6_party := goodIn_ca (goodIn_ca (goodIn_r _ [7, 8, 9, 10, 11, 12, 13, 14, 15, 6, 16, 17, 18, 19, 20, 21, 22, 23, 24, 25, 26, 27, 28, 29, 30, 31, 32, 33, 34, 35, 36, 37, 38, 39, 40, 41, 42, 43, 44, 45, 46, 47, 48, 49, 50, 51, 52, 53, 54, 55, 56, 57, 58, 59, 60, 61, 62, 63, 64, 65, 66, 67, 68, 69, 70, 71, 72, 73, 74, 75, 76, 77, 78, 79, 80, 81, 82, 83, 84, 85, 86, 87, 88, 89, 90, 91, 92, 93, 94, 95, 96, 97, 98, 99, 100, 101, 102, 103, 104, 105, 106, 107, 108, 109, 110, 111, 112, 113, 114] (by decide +kernel) (by decide +kernel)) (goodIn_sub (fun _ h => List.mem_cons_of_mem _ (List.mem_append_left _ (List.mem_append_right _ h))) (by decide +kernel))) (goodIn_sub (fun _ h => List.mem_cons_of_mem _ (List.mem_append_right _ h)) (by decide +kernel))
set_option maxRecDepth 20000 in
theorem gL_party_X6_party : GoodIn wsL_party (wsV RL 23 RX6 yX6_party wsX6_party) := goodIn_app (goodIn_of _ (by decide +kernel)) ggL_party_X6_party
theorem dL_party_0 : decode cL_party 0 = .ok (.aload_n 2, 1) := by decide +kernel
theorem dL_party_1 : decode cL_party 1 = .ok (.iconst 0, 1) := by decide +kernel
theorem dL_party_2 : decode cL_party 2 = .ok (.aload_n 0, 1) := by decide +kernel
theorem dL_party_3 : decode cL_party 3 = .ok (.iload_n 1, 1) := by decide +kernel
theorem dL_party_4 : decode cL_party 4 = .ok (.invokevirtual 23, 3) := by decide +kernel
theorem dL_party_7 : decode cL_party 7 = .ok (.i2l, 1) := by decide +kernel
theorem dL_party_8 : decode cL_party 8 = .ok (.lastore, 1) := by decide +kernel
theorem dL_party_9 : decode cL_party 9 = .ok (.goto 9, 3) := by decide +kernel
theorem dL_party_12 : decode cL_party 12 = .ok (.astore_n 3, 1) := by decide +kernel
theorem dL_party_13 : decode cL_party 13 = .ok (.iconst 1, 1) := by decide +kernel
theorem dL_party_14 : decode cL_party 14 = .ok (.ireturn, 1) := by decide +kernel
theorem dL_party_15 : decode cL_party 15 = .ok (.astore_n 3, 1) := by decide +kernel
theorem dL_party_16 : decode cL_party 16 = .ok (.iconst 2, 1) := by decide +kernel
theorem dL_party_17 : decode cL_party 17 = .ok (.ireturn, 1) := by decide +kernel
theorem dL_party_18 : decode cL_party 18 = .ok (.iconst 0, 1) := by decide +kernel
theorem dL_party_19 : decode cL_party 19 = .ok (.ireturn, 1) := by decide +kernel
set_option maxRecDepth 20000 in
theorem ggL_budget_X6_budget : GoodIn wsL_budget wsX6_budget := goodIn_ca (goodIn_ca (goodIn_r _ [7, 8, 9, 10, 6, 11, 12, 13, 14, 15, 16, 17, 18, 19, 20, 21, 22, 23, 24, 25, 26, 27, 28, 29, 30, 31, 32, 33, 34, 35, 36, 37, 38, 39, 40, 41, 42, 43, 44, 45, 46, 47, 48, 49, 50, 51, 52, 53, 54, 55, 56, 57] (by decide +kernel) (by decide +kernel)) (goodIn_sub (fun _ h => List.mem_cons_of_mem _ (List.mem_append_left _ (List.mem_append_right _ h))) (by decide +kernel))) (goodIn_sub (fun _ h => List.mem_cons_of_mem _ (List.mem_append_right _ h)) (by decide +kernel))
set_option maxRecDepth 20000 in
theorem gL_budget_X6_budget : GoodIn wsL_budget (wsV RL 26 RX6 yX6_budget wsX6_budget) := goodIn_app (goodIn_of _ (by decide +kernel)) ggL_budget_X6_budget
theorem dL_budget_0 : decode cL_budget 0 = .ok (.aload_n 3, 1) := by decide +kernel
theorem dL_budget_1 : decode cL_budget 1 = .ok (.iconst 0, 1) := by decide +kernel
theorem dL_budget_2 : decode cL_budget 2 = .ok (.aload_n 0, 1) := by decide +kernel
theorem dL_budget_3 : decode cL_budget 3 = .ok (.iload_n 1, 1) := by decide +kernel
theorem dL_budget_4 : decode cL_budget 4 = .ok (.iload_n 2, 1) := by decide +kernel
theorem dL_budget_5 : decode cL_budget 5 = .ok (.invokevirtual 26, 3) := by decide +kernel
theorem dL_budget_8 : decode cL_budget 8 = .ok (.i2l, 1) := by decide +kernel
theorem dL_budget_9 : decode cL_budget 9 = .ok (.lastore, 1) := by decide +kernel
theorem dL_budget_10 : decode cL_budget 10 = .ok (.goto 11, 3) := by decide +kernel
theorem dL_budget_13 : decode cL_budget 13 = .ok (.astore 4, 2) := by decide +kernel
theorem dL_budget_15 : decode cL_budget 15 = .ok (.iconst 1, 1) := by decide +kernel
theorem dL_budget_16 : decode cL_budget 16 = .ok (.ireturn, 1) := by decide +kernel
theorem dL_budget_17 : decode cL_budget 17 = .ok (.astore 4, 2) := by decide +kernel
theorem dL_budget_19 : decode cL_budget 19 = .ok (.iconst 2, 1) := by decide +kernel
theorem dL_budget_20 : decode cL_budget 20 = .ok (.ireturn, 1) := by decide +kernel
theorem dL_budget_21 : decode cL_budget 21 = .ok (.iconst 0, 1) := by decide +kernel
theorem dL_budget_22 : decode cL_budget 22 = .ok (.ireturn, 1) := by decide +kernel
set_option maxRecDepth 20000 in
theorem ggL_right_X6_right : GoodIn wsL_right wsX6_right := goodIn_ca (goodIn_ca (goodIn_r _ [7, 8, 9, 10, 11, 12, 13, 6, 14, 15, 16, 17, 18, 19, 20, 21, 22, 23, 24, 25, 26, 27, 28, 29, 30, 31, 32, 33, 34, 35, 36, 37, 38, 39, 40, 41, 42, 43, 44, 45, 46, 47, 48, 49, 50, 51, 52, 53, 54, 55, 56, 57, 58, 59, 60, 61, 62, 63, 64, 65, 66, 67, 68, 69, 70, 71, 72, 73, 74, 75, 76, 77, 78, 79, 80, 81, 82, 83] (by decide +kernel) (by decide +kernel)) (goodIn_sub (fun _ h => List.mem_cons_of_mem _ (List.mem_append_left _ (List.mem_append_right _ h))) (by decide +kernel))) (goodIn_sub (fun _ h => List.mem_cons_of_mem _ (List.mem_append_right _ h)) (by decide +kernel))
set_option maxRecDepth 20000 in
theorem gL_right_X6_right : GoodIn wsL_right (wsV RL 29 RX6 yX6_right wsX6_right) := goodIn_app (goodIn_of _ (by decide +kernel)) ggL_right_X6_right
theorem dL_right_0 : decode cL_right 0 = .ok (.aload_n 0, 1) := by decide +kernel
theorem dL_right_1 : decode cL_right 1 = .ok (.iload_n 1, 1) := by decide +kernel
theorem dL_right_2 : decode cL_right 2 = .ok (.iload_n 2, 1) := by decide +kernel
theorem dL_right_3 : decode cL_right 3 = .ok (.iload_n 3, 1) := by decide +kernel
theorem dL_right_4 : decode cL_right 4 = .ok (.iload 4, 2) := by decide +kernel
theorem dL_right_6 : decode cL_right 6 = .ok (.iload 5, 2) := by decide +kernel
theorem dL_right_8 : decode cL_right 8 = .ok (.invokevirtual 29, 3) := by decide +kernel
theorem dL_right_11 : decode cL_right 11 = .ok (.goto 11, 3) := by decide +kernel
theorem dL_right_14 : decode cL_right 14 = .ok (.astore 6, 2) := by decide +kernel
theorem dL_right_16 : decode cL_right 16 = .ok (.iconst 1, 1) := by decide +kernel
theorem dL_right_17 : decode cL_right 17 = .ok (.ireturn, 1) := by decide +kernel
theorem dL_right_18 : decode cL_right 18 = .ok (.astore 6, 2) := by decide +kernel
theorem dL_right_20 : decode cL_right 20 = .ok (.iconst 2, 1) := by decide +kernel
theorem dL_right_21 : decode cL_right 21 = .ok (.ireturn, 1) := by decide +kernel
theorem dL_right_22 : decode cL_right 22 = .ok (.iconst 0, 1) := by decide +kernel
theorem dL_right_23 : decode cL_right 23 = .ok (.ireturn, 1) := by decide +kernel
set_option maxRecDepth 20000 in
theorem ggL_takeBack_X6_takeBack : GoodIn wsL_takeBack wsX6_takeBack := goodIn_ca (goodIn_r _ [6, 7, 8, 9, 5, 10, 11, 12, 13, 14, 15, 16, 17, 18, 19, 20, 21, 22, 23, 24, 25, 26, 27, 28, 29, 30, 31, 32, 33, 34, 35, 36, 37, 38, 39, 40, 41, 42, 43, 44, 45, 46, 47, 48, 49, 50, 51, 52, 53, 54, 55, 56, 57, 58, 59, 60, 61, 62, 63, 64, 65, 66, 67, 68, 69, 70, 71, 72, 73, 74, 75, 76, 77, 78, 79, 80, 81, 82, 83, 84, 85, 86, 87, 88, 89, 90, 91, 92, 93, 94, 95, 96, 97, 98, 99, 100, 101, 102, 103, 104, 105, 106, 107, 108, 109, 110, 111, 112, 113, 114, 115, 116] (by decide +kernel) (by decide +kernel)) (goodIn_sub (fun _ h => List.mem_cons_of_mem _ (List.mem_append_right _ h)) (by decide +kernel))
set_option maxRecDepth 20000 in
theorem gL_takeBack_X6_takeBack : GoodIn wsL_takeBack (wsV RL 33 RX6 yX6_takeBack wsX6_takeBack) := goodIn_app (goodIn_of _ (by decide +kernel)) ggL_takeBack_X6_takeBack
theorem dL_takeBack_0 : decode cL_takeBack 0 = .ok (.aload_n 3, 1) := by decide +kernel
theorem dL_takeBack_1 : decode cL_takeBack 1 = .ok (.iconst 0, 1) := by decide +kernel
theorem dL_takeBack_2 : decode cL_takeBack 2 = .ok (.aload_n 0, 1) := by decide +kernel
theorem dL_takeBack_3 : decode cL_takeBack 3 = .ok (.iload_n 1, 1) := by decide +kernel
theorem dL_takeBack_4 : decode cL_takeBack 4 = .ok (.iload_n 2, 1) := by decide +kernel
theorem dL_takeBack_5 : decode cL_takeBack 5 = .ok (.invokevirtual 33, 3) := by decide +kernel
theorem dL_takeBack_8 : decode cL_takeBack 8 = .ok (.i2l, 1) := by decide +kernel
theorem dL_takeBack_9 : decode cL_takeBack 9 = .ok (.lastore, 1) := by decide +kernel
theorem dL_takeBack_10 : decode cL_takeBack 10 = .ok (.goto 7, 3) := by decide +kernel
theorem dL_takeBack_13 : decode cL_takeBack 13 = .ok (.astore 4, 2) := by decide +kernel
theorem dL_takeBack_15 : decode cL_takeBack 15 = .ok (.iconst 1, 1) := by decide +kernel
theorem dL_takeBack_16 : decode cL_takeBack 16 = .ok (.ireturn, 1) := by decide +kernel
theorem dL_takeBack_17 : decode cL_takeBack 17 = .ok (.iconst 0, 1) := by decide +kernel
theorem dL_takeBack_18 : decode cL_takeBack 18 = .ok (.ireturn, 1) := by decide +kernel
set_option maxRecDepth 20000 in
theorem ggL_seal_X6_seal : GoodIn wsL_seal wsX6_seal := goodIn_ca (goodIn_ca (goodIn_r _ [7, 8, 9, 10, 6, 11, 12, 13, 14, 15, 16, 17, 18, 19, 20, 21, 22, 23, 24, 25, 26, 27, 28, 29, 30, 31, 32, 33, 34, 35, 36, 37, 38, 39, 40, 41, 42, 43, 44, 45, 46, 47, 48, 49, 50, 51, 52, 53, 54, 55, 56, 57, 58] (by decide +kernel) (by decide +kernel)) (goodIn_sub (fun _ h => List.mem_cons_of_mem _ (List.mem_append_left _ (List.mem_append_right _ h))) (by decide +kernel))) (goodIn_sub (fun _ h => List.mem_cons_of_mem _ (List.mem_append_right _ h)) (by decide +kernel))
set_option maxRecDepth 20000 in
theorem gL_seal_X6_seal : GoodIn wsL_seal (wsV RL 36 RX6 yX6_seal wsX6_seal) := goodIn_app (goodIn_of _ (by decide +kernel)) ggL_seal_X6_seal
theorem dL_seal_0 : decode cL_seal 0 = .ok (.aload_n 0, 1) := by decide +kernel
theorem dL_seal_1 : decode cL_seal 1 = .ok (.iload_n 1, 1) := by decide +kernel
theorem dL_seal_2 : decode cL_seal 2 = .ok (.iload_n 2, 1) := by decide +kernel
theorem dL_seal_3 : decode cL_seal 3 = .ok (.invokevirtual 36, 3) := by decide +kernel
theorem dL_seal_6 : decode cL_seal 6 = .ok (.goto 9, 3) := by decide +kernel
theorem dL_seal_9 : decode cL_seal 9 = .ok (.astore_n 3, 1) := by decide +kernel
theorem dL_seal_10 : decode cL_seal 10 = .ok (.iconst 1, 1) := by decide +kernel
theorem dL_seal_11 : decode cL_seal 11 = .ok (.ireturn, 1) := by decide +kernel
theorem dL_seal_12 : decode cL_seal 12 = .ok (.astore_n 3, 1) := by decide +kernel
theorem dL_seal_13 : decode cL_seal 13 = .ok (.iconst 2, 1) := by decide +kernel
theorem dL_seal_14 : decode cL_seal 14 = .ok (.ireturn, 1) := by decide +kernel
theorem dL_seal_15 : decode cL_seal 15 = .ok (.iconst 0, 1) := by decide +kernel
theorem dL_seal_16 : decode cL_seal 16 = .ok (.ireturn, 1) := by decide +kernel
set_option maxRecDepth 20000 in
theorem ggL_pass_X6_pass : GoodIn wsL_pass wsX6_pass := goodIn_ca (goodIn_ca (goodIn_r _ [7, 8, 9, 10, 11, 12, 6, 13, 14, 15, 16, 17, 18, 19, 20, 21] (by decide +kernel) (by decide +kernel)) (goodIn_sub (fun _ h => List.mem_cons_of_mem _ (List.mem_append_left _ (List.mem_append_right _ h))) (by decide +kernel))) (goodIn_sub (fun _ h => List.mem_cons_of_mem _ (List.mem_append_right _ h)) (by decide +kernel))
set_option maxRecDepth 20000 in
theorem gL_pass_X6_pass : GoodIn wsL_pass (wsV RL 40 RX6 yX6_pass wsX6_pass) := goodIn_app (goodIn_of _ (by decide +kernel)) ggL_pass_X6_pass
theorem dL_pass_0 : decode cL_pass 0 = .ok (.aload_n 2, 1) := by decide +kernel
theorem dL_pass_1 : decode cL_pass 1 = .ok (.iconst 0, 1) := by decide +kernel
theorem dL_pass_2 : decode cL_pass 2 = .ok (.aload_n 0, 1) := by decide +kernel
theorem dL_pass_3 : decode cL_pass 3 = .ok (.iload_n 1, 1) := by decide +kernel
theorem dL_pass_4 : decode cL_pass 4 = .ok (.invokevirtual 40, 3) := by decide +kernel
theorem dL_pass_7 : decode cL_pass 7 = .ok (.i2l, 1) := by decide +kernel
theorem dL_pass_8 : decode cL_pass 8 = .ok (.lastore, 1) := by decide +kernel
theorem dL_pass_9 : decode cL_pass 9 = .ok (.goto 9, 3) := by decide +kernel
theorem dL_pass_12 : decode cL_pass 12 = .ok (.astore_n 3, 1) := by decide +kernel
theorem dL_pass_13 : decode cL_pass 13 = .ok (.iconst 1, 1) := by decide +kernel
theorem dL_pass_14 : decode cL_pass 14 = .ok (.ireturn, 1) := by decide +kernel
theorem dL_pass_15 : decode cL_pass 15 = .ok (.astore_n 3, 1) := by decide +kernel
theorem dL_pass_16 : decode cL_pass 16 = .ok (.iconst 2, 1) := by decide +kernel
theorem dL_pass_17 : decode cL_pass 17 = .ok (.ireturn, 1) := by decide +kernel
theorem dL_pass_18 : decode cL_pass 18 = .ok (.iconst 0, 1) := by decide +kernel
theorem dL_pass_19 : decode cL_pass 19 = .ok (.ireturn, 1) := by decide +kernel
set_option maxRecDepth 20000 in
theorem ggL_ask_X6_ask : GoodIn wsL_ask wsX6_ask := goodIn_ca (goodIn_ca (goodIn_ca (goodIn_r _ [8, 9, 10, 11, 12, 13, 14, 15, 16, 17, 18, 7, 19, 20, 21, 22, 23, 24, 25, 26, 27, 28, 29, 30, 31, 32, 33, 34, 35, 36, 37, 38, 39, 40, 41, 42, 43, 44, 45, 46, 47, 48, 49, 50, 51, 52, 53, 54, 55, 56, 57, 58, 59, 60, 61, 62, 63, 64, 65, 66, 67, 68, 69, 70, 71, 72, 73, 74, 75, 76, 77, 78, 79, 80, 81, 82, 83, 84, 85, 86, 87, 88, 89, 90, 91, 92, 93, 94, 95, 96, 97, 98, 99, 100, 101, 102, 103, 104, 105, 106, 107, 108, 109, 110, 111, 112, 113, 114, 115, 116, 117, 118, 119, 120, 121, 122, 123, 124, 125, 126, 127, 128, 129, 130, 131, 132, 133, 134, 135, 136, 137, 138, 139, 140, 141, 142, 143, 144, 145, 146, 147, 148, 149, 150, 151, 152, 153, 154, 155, 156, 157, 158, 159, 160, 161, 162, 163, 164, 165, 166, 167, 168, 169, 170, 171, 172, 173, 174, 175, 176, 177, 178, 179, 180, 181, 182, 183, 184, 185, 186, 187, 188, 189, 190, 191, 192, 193, 194, 195, 196, 197, 198, 199, 200, 201, 202, 203, 204, 205, 206, 207, 208, 209, 210, 211, 212, 213, 214, 215, 216, 217, 218, 219, 220, 221, 222, 223, 224, 225, 226, 227, 228, 229, 230, 231, 232, 233, 234, 235, 236] (by decide +kernel) (by decide +kernel)) (goodIn_sub (fun _ h => List.mem_cons_of_mem _ (List.mem_append_left _ (List.mem_append_left _ (List.mem_append_right _ h)))) (by decide +kernel))) (goodIn_sub (fun _ h => List.mem_cons_of_mem _ (List.mem_append_left _ (List.mem_append_right _ h))) (by decide +kernel))) (goodIn_sub (fun _ h => List.mem_cons_of_mem _ (List.mem_append_right _ h)) (by decide +kernel))
set_option maxRecDepth 20000 in
theorem gL_ask_X6_ask : GoodIn wsL_ask (wsV RL 43 RX6 yX6_ask wsX6_ask) := goodIn_app (goodIn_of _ (by decide +kernel)) ggL_ask_X6_ask
theorem dL_ask_0 : decode cL_ask 0 = .ok (.aload 4, 2) := by decide +kernel
theorem dL_ask_2 : decode cL_ask 2 = .ok (.iconst 0, 1) := by decide +kernel
theorem dL_ask_3 : decode cL_ask 3 = .ok (.aload_n 0, 1) := by decide +kernel
theorem dL_ask_4 : decode cL_ask 4 = .ok (.iload_n 1, 1) := by decide +kernel
theorem dL_ask_5 : decode cL_ask 5 = .ok (.iload_n 2, 1) := by decide +kernel
theorem dL_ask_6 : decode cL_ask 6 = .ok (.iload_n 3, 1) := by decide +kernel
theorem dL_ask_7 : decode cL_ask 7 = .ok (.invokevirtual 43, 3) := by decide +kernel
theorem dL_ask_10 : decode cL_ask 10 = .ok (.i2l, 1) := by decide +kernel
theorem dL_ask_11 : decode cL_ask 11 = .ok (.lastore, 1) := by decide +kernel
theorem dL_ask_12 : decode cL_ask 12 = .ok (.goto 15, 3) := by decide +kernel
theorem dL_ask_15 : decode cL_ask 15 = .ok (.astore 5, 2) := by decide +kernel
theorem dL_ask_17 : decode cL_ask 17 = .ok (.iconst 1, 1) := by decide +kernel
theorem dL_ask_18 : decode cL_ask 18 = .ok (.ireturn, 1) := by decide +kernel
theorem dL_ask_19 : decode cL_ask 19 = .ok (.astore 5, 2) := by decide +kernel
theorem dL_ask_21 : decode cL_ask 21 = .ok (.iconst 2, 1) := by decide +kernel
theorem dL_ask_22 : decode cL_ask 22 = .ok (.ireturn, 1) := by decide +kernel
theorem dL_ask_23 : decode cL_ask 23 = .ok (.astore 5, 2) := by decide +kernel
theorem dL_ask_25 : decode cL_ask 25 = .ok (.iconst 3, 1) := by decide +kernel
theorem dL_ask_26 : decode cL_ask 26 = .ok (.ireturn, 1) := by decide +kernel
theorem dL_ask_27 : decode cL_ask 27 = .ok (.iconst 0, 1) := by decide +kernel
theorem dL_ask_28 : decode cL_ask 28 = .ok (.ireturn, 1) := by decide +kernel
set_option maxRecDepth 20000 in
theorem ggL_cost_X6_cost : GoodIn wsL_cost wsX6_cost := goodIn_ca (goodIn_ca (goodIn_r _ [7, 8, 9, 10, 6, 11, 12, 13, 14, 15, 16, 17, 18, 19, 20, 21, 22, 23, 24, 25, 26, 27, 28, 29, 30, 31, 32, 33, 34, 35, 36, 37, 38, 39, 40, 41, 42, 43, 44, 45, 46, 47, 48, 49, 50, 51, 52, 53, 54, 55, 56, 57, 58, 59, 60, 61, 62, 63, 64, 65, 66, 67, 68, 69, 70, 71, 72, 73, 74, 75, 76, 77, 78, 79, 80] (by decide +kernel) (by decide +kernel)) (goodIn_sub (fun _ h => List.mem_cons_of_mem _ (List.mem_append_left _ (List.mem_append_right _ h))) (by decide +kernel))) (goodIn_sub (fun _ h => List.mem_cons_of_mem _ (List.mem_append_right _ h)) (by decide +kernel))
set_option maxRecDepth 20000 in
theorem gL_cost_X6_cost : GoodIn wsL_cost (wsV RL 47 RX6 yX6_cost wsX6_cost) := goodIn_app (goodIn_of _ (by decide +kernel)) ggL_cost_X6_cost
theorem dL_cost_0 : decode cL_cost 0 = .ok (.aload 4, 2) := by decide +kernel
theorem dL_cost_2 : decode cL_cost 2 = .ok (.iconst 0, 1) := by decide +kernel
theorem dL_cost_3 : decode cL_cost 3 = .ok (.aload_n 0, 1) := by decide +kernel
theorem dL_cost_4 : decode cL_cost 4 = .ok (.iload_n 1, 1) := by decide +kernel
theorem dL_cost_5 : decode cL_cost 5 = .ok (.iload_n 2, 1) := by decide +kernel
theorem dL_cost_6 : decode cL_cost 6 = .ok (.iload_n 3, 1) := by decide +kernel
theorem dL_cost_7 : decode cL_cost 7 = .ok (.invokevirtual 47, 3) := by decide +kernel
theorem dL_cost_10 : decode cL_cost 10 = .ok (.i2l, 1) := by decide +kernel
theorem dL_cost_11 : decode cL_cost 11 = .ok (.lastore, 1) := by decide +kernel
theorem dL_cost_12 : decode cL_cost 12 = .ok (.goto 11, 3) := by decide +kernel
theorem dL_cost_15 : decode cL_cost 15 = .ok (.astore 5, 2) := by decide +kernel
theorem dL_cost_17 : decode cL_cost 17 = .ok (.iconst 1, 1) := by decide +kernel
theorem dL_cost_18 : decode cL_cost 18 = .ok (.ireturn, 1) := by decide +kernel
theorem dL_cost_19 : decode cL_cost 19 = .ok (.astore 5, 2) := by decide +kernel
theorem dL_cost_21 : decode cL_cost 21 = .ok (.iconst 2, 1) := by decide +kernel
theorem dL_cost_22 : decode cL_cost 22 = .ok (.ireturn, 1) := by decide +kernel
theorem dL_cost_23 : decode cL_cost 23 = .ok (.iconst 0, 1) := by decide +kernel
theorem dL_cost_24 : decode cL_cost 24 = .ok (.ireturn, 1) := by decide +kernel
set_option maxRecDepth 20000 in
theorem ggL_answer_X6_answer : GoodIn wsL_answer wsX6_answer := goodIn_ca (goodIn_ca (goodIn_r _ [7, 8, 9, 10, 11, 12, 13, 14, 15, 16, 17, 18, 19, 6, 20, 21, 22, 23, 24, 25, 26, 27, 28, 29, 30, 31, 32, 33, 34, 35, 36, 37, 38, 39, 40, 41, 42, 43, 44, 45, 46, 47, 48, 49, 50, 51, 52, 53, 54, 55, 56, 57, 58, 59, 60, 61, 62, 63, 64, 65] (by decide +kernel) (by decide +kernel)) (goodIn_sub (fun _ h => List.mem_cons_of_mem _ (List.mem_append_left _ (List.mem_append_right _ h))) (by decide +kernel))) (goodIn_sub (fun _ h => List.mem_cons_of_mem _ (List.mem_append_right _ h)) (by decide +kernel))
set_option maxRecDepth 20000 in
theorem gL_answer_X6_answer : GoodIn wsL_answer (wsV RL 50 RX6 yX6_answer wsX6_answer) := goodIn_app (goodIn_of _ (by decide +kernel)) ggL_answer_X6_answer
theorem dL_answer_0 : decode cL_answer 0 = .ok (.aload_n 3, 1) := by decide +kernel
theorem dL_answer_1 : decode cL_answer 1 = .ok (.iconst 0, 1) := by decide +kernel
theorem dL_answer_2 : decode cL_answer 2 = .ok (.aload_n 0, 1) := by decide +kernel
theorem dL_answer_3 : decode cL_answer 3 = .ok (.iload_n 1, 1) := by decide +kernel
theorem dL_answer_4 : decode cL_answer 4 = .ok (.iload_n 2, 1) := by decide +kernel
theorem dL_answer_5 : decode cL_answer 5 = .ok (.invokevirtual 50, 3) := by decide +kernel
theorem dL_answer_8 : decode cL_answer 8 = .ok (.i2l, 1) := by decide +kernel
theorem dL_answer_9 : decode cL_answer 9 = .ok (.lastore, 1) := by decide +kernel
theorem dL_answer_10 : decode cL_answer 10 = .ok (.goto 11, 3) := by decide +kernel
theorem dL_answer_13 : decode cL_answer 13 = .ok (.astore 4, 2) := by decide +kernel
theorem dL_answer_15 : decode cL_answer 15 = .ok (.iconst 1, 1) := by decide +kernel
theorem dL_answer_16 : decode cL_answer 16 = .ok (.ireturn, 1) := by decide +kernel
theorem dL_answer_17 : decode cL_answer 17 = .ok (.astore 4, 2) := by decide +kernel
theorem dL_answer_19 : decode cL_answer 19 = .ok (.iconst 2, 1) := by decide +kernel
theorem dL_answer_20 : decode cL_answer 20 = .ok (.ireturn, 1) := by decide +kernel
theorem dL_answer_21 : decode cL_answer 21 = .ok (.iconst 0, 1) := by decide +kernel
theorem dL_answer_22 : decode cL_answer 22 = .ok (.ireturn, 1) := by decide +kernel
set_option maxRecDepth 20000 in
theorem ggL_spent_X6_spent : GoodIn wsL_spent wsX6_spent := goodIn_ca (goodIn_r _ [6, 7, 8, 9, 5, 10, 11, 12, 13, 14, 15, 16, 17, 18, 19, 20, 21, 22, 23, 24, 25, 26, 27, 28, 29, 30, 31, 32, 33, 34, 35, 36, 37, 38, 39, 40, 41, 42, 43, 44, 45, 46, 47, 48, 49, 50, 51, 52, 53, 54, 55, 56, 57, 58, 59] (by decide +kernel) (by decide +kernel)) (goodIn_sub (fun _ h => List.mem_cons_of_mem _ (List.mem_append_right _ h)) (by decide +kernel))
set_option maxRecDepth 20000 in
theorem gL_spent_X6_spent : GoodIn wsL_spent (wsV RL 53 RX6 yX6_spent wsX6_spent) := goodIn_app (goodIn_of _ (by decide +kernel)) ggL_spent_X6_spent
theorem dL_spent_0 : decode cL_spent 0 = .ok (.aload_n 2, 1) := by decide +kernel
theorem dL_spent_1 : decode cL_spent 1 = .ok (.iconst 0, 1) := by decide +kernel
theorem dL_spent_2 : decode cL_spent 2 = .ok (.aload_n 0, 1) := by decide +kernel
theorem dL_spent_3 : decode cL_spent 3 = .ok (.iload_n 1, 1) := by decide +kernel
theorem dL_spent_4 : decode cL_spent 4 = .ok (.invokevirtual 53, 3) := by decide +kernel
theorem dL_spent_7 : decode cL_spent 7 = .ok (.i2l, 1) := by decide +kernel
theorem dL_spent_8 : decode cL_spent 8 = .ok (.lastore, 1) := by decide +kernel
theorem dL_spent_9 : decode cL_spent 9 = .ok (.goto 6, 3) := by decide +kernel
theorem dL_spent_12 : decode cL_spent 12 = .ok (.astore_n 3, 1) := by decide +kernel
theorem dL_spent_13 : decode cL_spent 13 = .ok (.iconst 1, 1) := by decide +kernel
theorem dL_spent_14 : decode cL_spent 14 = .ok (.ireturn, 1) := by decide +kernel
theorem dL_spent_15 : decode cL_spent 15 = .ok (.iconst 0, 1) := by decide +kernel
theorem dL_spent_16 : decode cL_spent 16 = .ok (.ireturn, 1) := by decide +kernel
set_option maxRecDepth 20000 in
theorem ggL_spentAnew_X6_spentAnew : GoodIn wsL_spentAnew wsX6_spentAnew := goodIn_ca (goodIn_r _ [6, 7, 8, 9, 5, 10, 11, 12, 13, 14, 15, 16, 17, 18, 19, 20, 21, 22, 23, 24, 25, 26, 27, 28, 29, 30, 31, 32, 33, 34, 35, 36, 37, 38, 39, 40, 41, 42, 43, 44, 45, 46, 47, 48, 49, 50, 51, 52, 53, 54, 55, 56, 57, 58, 59, 60, 61, 62, 63, 64, 65, 66, 67, 68, 69, 70, 71, 72, 73, 74, 75, 76, 77, 78, 79, 80, 81, 82, 83, 84, 85, 86, 87, 88, 89, 90, 91, 92, 93, 94, 95, 96, 97, 98, 99, 100, 101, 102, 103, 104, 105, 106, 107, 108, 109, 110, 111, 112, 113, 114, 115, 116, 117, 118, 119] (by decide +kernel) (by decide +kernel)) (goodIn_sub (fun _ h => List.mem_cons_of_mem _ (List.mem_append_right _ h)) (by decide +kernel))
set_option maxRecDepth 20000 in
theorem gL_spentAnew_X6_spentAnew : GoodIn wsL_spentAnew (wsV RL 56 RX6 yX6_spentAnew wsX6_spentAnew) := goodIn_app (goodIn_of _ (by decide +kernel)) ggL_spentAnew_X6_spentAnew
theorem dL_spentAnew_0 : decode cL_spentAnew 0 = .ok (.aload_n 2, 1) := by decide +kernel
theorem dL_spentAnew_1 : decode cL_spentAnew 1 = .ok (.iconst 0, 1) := by decide +kernel
theorem dL_spentAnew_2 : decode cL_spentAnew 2 = .ok (.aload_n 0, 1) := by decide +kernel
theorem dL_spentAnew_3 : decode cL_spentAnew 3 = .ok (.iload_n 1, 1) := by decide +kernel
theorem dL_spentAnew_4 : decode cL_spentAnew 4 = .ok (.invokevirtual 56, 3) := by decide +kernel
theorem dL_spentAnew_7 : decode cL_spentAnew 7 = .ok (.i2l, 1) := by decide +kernel
theorem dL_spentAnew_8 : decode cL_spentAnew 8 = .ok (.lastore, 1) := by decide +kernel
theorem dL_spentAnew_9 : decode cL_spentAnew 9 = .ok (.goto 6, 3) := by decide +kernel
theorem dL_spentAnew_12 : decode cL_spentAnew 12 = .ok (.astore_n 3, 1) := by decide +kernel
theorem dL_spentAnew_13 : decode cL_spentAnew 13 = .ok (.iconst 1, 1) := by decide +kernel
theorem dL_spentAnew_14 : decode cL_spentAnew 14 = .ok (.ireturn, 1) := by decide +kernel
theorem dL_spentAnew_15 : decode cL_spentAnew 15 = .ok (.iconst 0, 1) := by decide +kernel
theorem dL_spentAnew_16 : decode cL_spentAnew 16 = .ok (.ireturn, 1) := by decide +kernel
set_option maxRecDepth 20000 in
theorem ggL_finds_X6_finds : GoodIn wsL_finds wsX6_finds := goodIn_ca (goodIn_r _ [6, 7, 8, 9, 5, 10, 11, 12, 13, 14, 15, 16, 17, 18, 19, 20, 21, 22, 23, 24, 25, 26, 27, 28, 29, 30, 31, 32, 33, 34, 35, 36, 37, 38, 39, 40, 41, 42, 43, 44, 45, 46, 47, 48, 49, 50, 51, 52, 53, 54, 55, 56, 57, 58, 59, 60, 61, 62, 63, 64, 65, 66] (by decide +kernel) (by decide +kernel)) (goodIn_sub (fun _ h => List.mem_cons_of_mem _ (List.mem_append_right _ h)) (by decide +kernel))
set_option maxRecDepth 20000 in
theorem gL_finds_X6_finds : GoodIn wsL_finds (wsV RL 59 RX6 yX6_finds wsX6_finds) := goodIn_app (goodIn_of _ (by decide +kernel)) ggL_finds_X6_finds
theorem dL_finds_0 : decode cL_finds 0 = .ok (.aload_n 3, 1) := by decide +kernel
theorem dL_finds_1 : decode cL_finds 1 = .ok (.iconst 0, 1) := by decide +kernel
theorem dL_finds_2 : decode cL_finds 2 = .ok (.aload_n 0, 1) := by decide +kernel
theorem dL_finds_3 : decode cL_finds 3 = .ok (.iload_n 1, 1) := by decide +kernel
theorem dL_finds_4 : decode cL_finds 4 = .ok (.iload_n 2, 1) := by decide +kernel
theorem dL_finds_5 : decode cL_finds 5 = .ok (.invokevirtual 59, 3) := by decide +kernel
theorem dL_finds_8 : decode cL_finds 8 = .ok (.i2l, 1) := by decide +kernel
theorem dL_finds_9 : decode cL_finds 9 = .ok (.lastore, 1) := by decide +kernel
theorem dL_finds_10 : decode cL_finds 10 = .ok (.goto 7, 3) := by decide +kernel
theorem dL_finds_13 : decode cL_finds 13 = .ok (.astore 4, 2) := by decide +kernel
theorem dL_finds_15 : decode cL_finds 15 = .ok (.iconst 1, 1) := by decide +kernel
theorem dL_finds_16 : decode cL_finds 16 = .ok (.ireturn, 1) := by decide +kernel
theorem dL_finds_17 : decode cL_finds 17 = .ok (.iconst 0, 1) := by decide +kernel
theorem dL_finds_18 : decode cL_finds 18 = .ok (.ireturn, 1) := by decide +kernel
set_option maxRecDepth 20000 in
theorem ggL_together_X6_together : GoodIn wsL_together wsX6_together := goodIn_ca (goodIn_ca (goodIn_r _ [7, 8, 9, 10, 11, 12, 6, 13, 14, 15, 16, 17, 18, 19, 20, 21, 22, 23, 24, 25, 26, 27, 28, 29, 30, 31, 32, 33, 34, 35, 36, 37, 38, 39, 40, 41, 42, 43, 44, 45, 46, 47, 48, 49, 50, 51, 52, 53, 54, 55, 56, 57, 58, 59, 60, 61, 62, 63, 64, 65, 66, 67, 68, 69, 70, 71, 72, 73, 74, 75, 76, 77, 78, 79, 80, 81, 82, 83, 84, 85, 86, 87] (by decide +kernel) (by decide +kernel)) (goodIn_sub (fun _ h => List.mem_cons_of_mem _ (List.mem_append_left _ (List.mem_append_right _ h))) (by decide +kernel))) (goodIn_sub (fun _ h => List.mem_cons_of_mem _ (List.mem_append_right _ h)) (by decide +kernel))
set_option maxRecDepth 20000 in
theorem gL_together_X6_together : GoodIn wsL_together (wsV RL 62 RX6 yX6_together wsX6_together) := goodIn_app (goodIn_of _ (by decide +kernel)) ggL_together_X6_together
theorem dL_together_0 : decode cL_together 0 = .ok (.aload_n 3, 1) := by decide +kernel
theorem dL_together_1 : decode cL_together 1 = .ok (.iconst 0, 1) := by decide +kernel
theorem dL_together_2 : decode cL_together 2 = .ok (.aload_n 0, 1) := by decide +kernel
theorem dL_together_3 : decode cL_together 3 = .ok (.iload_n 1, 1) := by decide +kernel
theorem dL_together_4 : decode cL_together 4 = .ok (.iload_n 2, 1) := by decide +kernel
theorem dL_together_5 : decode cL_together 5 = .ok (.invokevirtual 62, 3) := by decide +kernel
theorem dL_together_8 : decode cL_together 8 = .ok (.i2l, 1) := by decide +kernel
theorem dL_together_9 : decode cL_together 9 = .ok (.lastore, 1) := by decide +kernel
theorem dL_together_10 : decode cL_together 10 = .ok (.goto 11, 3) := by decide +kernel
theorem dL_together_13 : decode cL_together 13 = .ok (.astore 4, 2) := by decide +kernel
theorem dL_together_15 : decode cL_together 15 = .ok (.iconst 1, 1) := by decide +kernel
theorem dL_together_16 : decode cL_together 16 = .ok (.ireturn, 1) := by decide +kernel
theorem dL_together_17 : decode cL_together 17 = .ok (.astore 4, 2) := by decide +kernel
theorem dL_together_19 : decode cL_together 19 = .ok (.iconst 2, 1) := by decide +kernel
theorem dL_together_20 : decode cL_together 20 = .ok (.ireturn, 1) := by decide +kernel
theorem dL_together_21 : decode cL_together 21 = .ok (.iconst 0, 1) := by decide +kernel
theorem dL_together_22 : decode cL_together 22 = .ok (.ireturn, 1) := by decide +kernel
set_option maxRecDepth 20000 in
theorem ggL_rightTo_X6_rightTo : GoodIn wsL_rightTo wsX6_rightTo := goodIn_ca (goodIn_r _ [6, 7, 8, 9, 10, 5, 11, 12, 13, 14, 15, 16, 17, 18, 19, 20, 21, 22, 23, 24, 25, 26, 27, 28, 29, 30, 31, 32, 33, 34, 35, 36, 37, 38, 39, 40, 41, 42, 43, 44, 45, 46, 47, 48, 49, 50, 51, 52, 53, 54, 55, 56, 57, 58, 59, 60, 61, 62, 63, 64, 65, 66, 67, 68, 69, 70, 71, 72, 73, 74, 75, 76, 77, 78] (by decide +kernel) (by decide +kernel)) (goodIn_sub (fun _ h => List.mem_cons_of_mem _ (List.mem_append_right _ h)) (by decide +kernel))
set_option maxRecDepth 20000 in
theorem gL_rightTo_X6_rightTo : GoodIn wsL_rightTo (wsV RL 65 RX6 yX6_rightTo wsX6_rightTo) := goodIn_app (goodIn_of _ (by decide +kernel)) ggL_rightTo_X6_rightTo
theorem dL_rightTo_0 : decode cL_rightTo 0 = .ok (.aload_n 3, 1) := by decide +kernel
theorem dL_rightTo_1 : decode cL_rightTo 1 = .ok (.iconst 0, 1) := by decide +kernel
theorem dL_rightTo_2 : decode cL_rightTo 2 = .ok (.aload_n 0, 1) := by decide +kernel
theorem dL_rightTo_3 : decode cL_rightTo 3 = .ok (.iload_n 1, 1) := by decide +kernel
theorem dL_rightTo_4 : decode cL_rightTo 4 = .ok (.iload_n 2, 1) := by decide +kernel
theorem dL_rightTo_5 : decode cL_rightTo 5 = .ok (.invokevirtual 65, 3) := by decide +kernel
theorem dL_rightTo_8 : decode cL_rightTo 8 = .ok (.i2l, 1) := by decide +kernel
theorem dL_rightTo_9 : decode cL_rightTo 9 = .ok (.lastore, 1) := by decide +kernel
theorem dL_rightTo_10 : decode cL_rightTo 10 = .ok (.goto 7, 3) := by decide +kernel
theorem dL_rightTo_13 : decode cL_rightTo 13 = .ok (.astore 4, 2) := by decide +kernel
theorem dL_rightTo_15 : decode cL_rightTo 15 = .ok (.iconst 1, 1) := by decide +kernel
theorem dL_rightTo_16 : decode cL_rightTo 16 = .ok (.ireturn, 1) := by decide +kernel
theorem dL_rightTo_17 : decode cL_rightTo 17 = .ok (.iconst 0, 1) := by decide +kernel
theorem dL_rightTo_18 : decode cL_rightTo 18 = .ok (.ireturn, 1) := by decide +kernel
set_option maxRecDepth 20000 in
theorem ggL_isSealed_X6_isSealed : GoodIn wsL_isSealed wsX6_isSealed := goodIn_ca (goodIn_r _ [6, 7, 8, 9, 10, 5, 11, 12, 13, 14, 15, 16, 17, 18, 19, 20, 21, 22, 23, 24, 25, 26, 27, 28, 29, 30, 31, 32, 33, 34, 35, 36, 37, 38, 39, 40, 41, 42, 43, 44, 45, 46, 47, 48, 49, 50, 51, 52, 53, 54, 55, 56, 57, 58, 59] (by decide +kernel) (by decide +kernel)) (goodIn_sub (fun _ h => List.mem_cons_of_mem _ (List.mem_append_right _ h)) (by decide +kernel))
set_option maxRecDepth 20000 in
theorem gL_isSealed_X6_isSealed : GoodIn wsL_isSealed (wsV RL 68 RX6 yX6_isSealed wsX6_isSealed) := goodIn_app (goodIn_of _ (by decide +kernel)) ggL_isSealed_X6_isSealed
theorem dL_isSealed_0 : decode cL_isSealed 0 = .ok (.aload_n 2, 1) := by decide +kernel
theorem dL_isSealed_1 : decode cL_isSealed 1 = .ok (.iconst 0, 1) := by decide +kernel
theorem dL_isSealed_2 : decode cL_isSealed 2 = .ok (.aload_n 0, 1) := by decide +kernel
theorem dL_isSealed_3 : decode cL_isSealed 3 = .ok (.iload_n 1, 1) := by decide +kernel
theorem dL_isSealed_4 : decode cL_isSealed 4 = .ok (.invokevirtual 68, 3) := by decide +kernel
theorem dL_isSealed_7 : decode cL_isSealed 7 = .ok (.ifCond .eq 7, 3) := by decide +kernel
theorem dL_isSealed_10 : decode cL_isSealed 10 = .ok (.lconst 1, 1) := by decide +kernel
theorem dL_isSealed_11 : decode cL_isSealed 11 = .ok (.goto 4, 3) := by decide +kernel
theorem dL_isSealed_14 : decode cL_isSealed 14 = .ok (.lconst 0, 1) := by decide +kernel
theorem dL_isSealed_15 : decode cL_isSealed 15 = .ok (.lastore, 1) := by decide +kernel
theorem dL_isSealed_16 : decode cL_isSealed 16 = .ok (.goto 6, 3) := by decide +kernel
theorem dL_isSealed_19 : decode cL_isSealed 19 = .ok (.astore_n 3, 1) := by decide +kernel
theorem dL_isSealed_20 : decode cL_isSealed 20 = .ok (.iconst 1, 1) := by decide +kernel
theorem dL_isSealed_21 : decode cL_isSealed 21 = .ok (.ireturn, 1) := by decide +kernel
theorem dL_isSealed_22 : decode cL_isSealed 22 = .ok (.iconst 0, 1) := by decide +kernel
theorem dL_isSealed_23 : decode cL_isSealed 23 = .ok (.ireturn, 1) := by decide +kernel
set_option maxRecDepth 20000 in
theorem ggL_count_X6_count : GoodIn wsL_count wsX6_count := goodIn_ca (goodIn_ca (goodIn_r _ [7, 8, 9, 10, 6, 11, 12, 13, 14, 15, 16, 17, 18, 19, 20, 21, 22, 23, 24, 25, 26, 27, 28, 29, 30, 31, 32, 33, 34, 35, 36, 37, 38, 39, 40, 41, 42, 43, 44, 45, 46, 47, 48, 49, 50, 51, 52, 53, 54, 55, 56, 57, 58, 59, 60, 61, 62, 63, 64, 65, 66, 67, 68, 69, 70, 71, 72, 73, 74, 75, 76, 77, 78, 79, 80, 81, 82] (by decide +kernel) (by decide +kernel)) (goodIn_sub (fun _ h => List.mem_cons_of_mem _ (List.mem_append_left _ (List.mem_append_right _ h))) (by decide +kernel))) (goodIn_sub (fun _ h => List.mem_cons_of_mem _ (List.mem_append_right _ h)) (by decide +kernel))
set_option maxRecDepth 20000 in
theorem gL_count_X6_count : GoodIn wsL_count (wsV RL 72 RX6 yX6_count wsX6_count) := goodIn_app (goodIn_of _ (by decide +kernel)) ggL_count_X6_count
theorem dL_count_0 : decode cL_count 0 = .ok (.aload_n 3, 1) := by decide +kernel
theorem dL_count_1 : decode cL_count 1 = .ok (.iconst 0, 1) := by decide +kernel
theorem dL_count_2 : decode cL_count 2 = .ok (.aload_n 0, 1) := by decide +kernel
theorem dL_count_3 : decode cL_count 3 = .ok (.iload_n 1, 1) := by decide +kernel
theorem dL_count_4 : decode cL_count 4 = .ok (.iload_n 2, 1) := by decide +kernel
theorem dL_count_5 : decode cL_count 5 = .ok (.invokevirtual 72, 3) := by decide +kernel
theorem dL_count_8 : decode cL_count 8 = .ok (.i2l, 1) := by decide +kernel
theorem dL_count_9 : decode cL_count 9 = .ok (.lastore, 1) := by decide +kernel
theorem dL_count_10 : decode cL_count 10 = .ok (.goto 11, 3) := by decide +kernel
theorem dL_count_13 : decode cL_count 13 = .ok (.astore 4, 2) := by decide +kernel
theorem dL_count_15 : decode cL_count 15 = .ok (.iconst 1, 1) := by decide +kernel
theorem dL_count_16 : decode cL_count 16 = .ok (.ireturn, 1) := by decide +kernel
theorem dL_count_17 : decode cL_count 17 = .ok (.astore 4, 2) := by decide +kernel
theorem dL_count_19 : decode cL_count 19 = .ok (.iconst 2, 1) := by decide +kernel
theorem dL_count_20 : decode cL_count 20 = .ok (.ireturn, 1) := by decide +kernel
theorem dL_count_21 : decode cL_count 21 = .ok (.iconst 0, 1) := by decide +kernel
theorem dL_count_22 : decode cL_count 22 = .ok (.ireturn, 1) := by decide +kernel
set_option maxRecDepth 20000 in
theorem ggL_law_X6_init : GoodIn wsL_law wsX6_init := goodIn_r _ [9, 10, 11, 12, 13, 14, 15, 16, 17, 18, 19, 20, 21, 22, 23, 24, 25, 26, 27, 28, 29, 30, 31, 32, 33, 34, 35, 36, 37, 38, 39, 40, 41, 42, 43, 44, 45, 46, 47, 48, 49, 6, 50, 685, 686, 687, 660, 661, 662, 663, 664, 665, 688, 689, 690, 691] (by decide +kernel) (by decide +kernel)
set_option maxRecDepth 20000 in
theorem gL_law_X6_init : GoodIn wsL_law (wsX6_init) := ggL_law_X6_init
set_option maxRecDepth 20000 in
theorem ggL_law_X7_init : GoodIn wsL_law wsX7_init := goodIn_r _ [53, 54, 11, 12, 45, 55, 56, 57, 58, 59, 60, 61, 62, 63, 64, 65, 66, 67, 68, 69, 666, 667, 668, 669, 670, 671, 672, 673, 674, 675, 676, 677, 678, 679, 680, 681, 682, 683, 684] (by decide +kernel) (by decide +kernel)
set_option maxRecDepth 20000 in
theorem gL_law_X7_init : GoodIn wsL_law (wsX7_init) := ggL_law_X7_init
set_option maxRecDepth 20000 in
theorem ggL_law_L_file : GoodIn wsL_law wsL_file := goodIn_ca (goodIn_ca (goodIn_r _ [73, 74, 75, 76, 77, 78, 2, 79, 80, 81, 16, 82, 83, 84, 85, 86, 87, 88, 89, 90, 91, 92, 15, 93, 94, 95, 96, 97, 98, 11, 12, 99, 100, 101, 102, 103, 104, 105, 106, 31, 107, 108, 109, 110, 111, 112, 113, 114, 115, 116, 117, 118, 30, 119, 120, 121, 122, 123, 124, 125, 126, 127, 128, 129, 130, 131, 132, 133, 134, 135, 136, 137, 138, 139, 140, 141, 142, 143, 144, 145, 146, 147, 148, 149, 150, 151, 152, 660, 661, 662, 663, 664, 665, 692, 693, 685, 686, 687] (by decide +kernel) (by decide +kernel)) (goodIn_sub (fun _ h => List.mem_append_left _ (List.mem_append_left _ (List.mem_append_right _ h))) (by decide +kernel))) (goodIn_sub (fun _ h => List.mem_append_left _ (List.mem_append_right _ h)) (by decide +kernel))
set_option maxRecDepth 20000 in
theorem gL_law_L_file : GoodIn wsL_law (va_wsS RL 79 yL_file wsL_file) := goodIn_app (goodIn_of _ (by decide +kernel)) ggL_law_L_file
set_option maxRecDepth 20000 in
theorem ggL_law_X7_file : GoodIn wsL_law wsX7_file := goodIn_r _ [156, 157, 55, 158, 159, 5, 160, 161, 162, 163, 164, 165, 666, 667, 668, 669, 670, 671, 672, 673, 674, 675, 676, 677, 678, 679, 680, 681, 682, 683, 684] (by decide +kernel) (by decide +kernel)
set_option maxRecDepth 20000 in
theorem gL_law_X7_file : GoodIn wsL_law (wsV RL 84 RX7 yX7_file wsX7_file) := goodIn_app (goodIn_of _ (by decide +kernel)) ggL_law_X7_file
set_option maxRecDepth 20000 in
theorem ggL_law_X7_thrown : GoodIn wsL_law wsX7_thrown := goodIn_r _ [169, 165, 666, 667, 668, 669, 670, 671, 672, 673, 674, 675, 676, 677, 678, 679, 680, 681, 682, 683, 684] (by decide +kernel) (by decide +kernel)
set_option maxRecDepth 20000 in
theorem gL_law_X7_thrown : GoodIn wsL_law (wsV RL 85 RX7 yX7_thrown wsX7_thrown) := goodIn_app (goodIn_of _ (by decide +kernel)) ggL_law_X7_thrown
set_option maxRecDepth 20000 in
theorem ggL_law_L_change : GoodIn wsL_law wsL_change := goodIn_ca (goodIn_ca (goodIn_r _ [172, 173, 74, 174, 175, 176, 2, 177, 17, 178, 179, 180, 181, 182, 16, 183, 184, 185, 186, 187, 188, 189, 90, 91, 92, 15, 93, 94, 190, 191, 192, 193, 194, 195, 196, 197, 198, 199, 200, 201, 202, 203, 204, 205, 31, 85, 86, 87, 88, 89, 206, 207, 208, 209, 18, 210, 211, 212, 213, 214, 215, 216, 217, 218, 219, 220, 221, 222, 223, 224, 225, 226, 227, 228, 229, 230, 231, 232, 233, 21, 234, 46, 235, 236, 237, 238, 239, 240, 241, 242, 243, 244, 245, 692, 693, 660, 661, 662, 663, 664, 665, 685, 686, 687, 694, 695, 696, 697, 698, 699, 700, 701, 702, 703, 704, 688, 689] (by decide +kernel) (by decide +kernel)) (goodIn_sub (fun _ h => List.mem_append_right _ h) (by decide +kernel))) (goodIn_sub (fun _ h => List.mem_append_left _ (List.mem_append_right _ h)) (by decide +kernel))
set_option maxRecDepth 20000 in
theorem gL_law_L_change : GoodIn wsL_law (va_wsS RL 89 yL_change wsL_change) := goodIn_app (goodIn_of _ (by decide +kernel)) ggL_law_L_change
set_option maxRecDepth 20000 in
theorem ggL_law_X7_change : GoodIn wsL_law wsX7_change := goodIn_r _ [249, 55, 250, 251, 252, 5, 253, 157, 158, 159, 160, 161, 162, 163, 164, 165, 254, 255, 256, 257, 258, 67, 62, 61, 666, 667, 668, 669, 670, 671, 672, 673, 674, 675, 676, 677, 678, 679, 680, 681, 682, 683, 684] (by decide +kernel) (by decide +kernel)
set_option maxRecDepth 20000 in
theorem gL_law_X7_change : GoodIn wsL_law (wsV RL 92 RX7 yX7_change wsX7_change) := goodIn_app (goodIn_of _ (by decide +kernel)) ggL_law_X7_change
set_option maxRecDepth 20000 in
theorem ggL_law_L_party : GoodIn wsL_law wsL_party := goodIn_ca (goodIn_ca (goodIn_r _ [261, 74, 75, 262, 263, 264, 2, 265, 80, 81, 17, 266, 267, 228, 85, 86, 87, 88, 89, 90, 91, 92, 15, 93, 94, 268, 269, 270, 271, 11, 12, 272, 273, 274, 230, 45, 275, 276, 277, 20, 21, 42, 43, 44, 46, 101, 102, 103, 104, 105, 106, 31, 107, 108, 109, 110, 111, 112, 113, 114, 115, 116, 117, 118, 30, 119, 120, 121, 122, 123, 124, 125, 126, 127, 128, 129, 130, 131, 132, 133, 134, 135, 136, 137, 138, 139, 140, 141, 142, 143, 144, 145, 146, 147, 148, 149, 150, 151, 152, 660, 661, 662, 663, 664, 665, 700, 701, 702, 703, 704, 685, 686, 687, 688, 689] (by decide +kernel) (by decide +kernel)) (goodIn_sub (fun _ h => List.mem_append_left _ (List.mem_append_left _ (List.mem_append_right _ h))) (by decide +kernel))) (goodIn_sub (fun _ h => List.mem_append_left _ (List.mem_append_right _ h)) (by decide +kernel))
set_option maxRecDepth 20000 in
theorem gL_law_L_party : GoodIn wsL_law (va_wsS RL 93 yL_party wsL_party) := goodIn_app (goodIn_of _ (by decide +kernel)) ggL_law_L_party
set_option maxRecDepth 20000 in
theorem ggL_law_X7_party : GoodIn wsL_law wsX7_party := goodIn_r _ [281, 282, 57, 158, 159, 5, 160, 161, 162, 163, 164, 165, 666, 667, 668, 669, 670, 671, 672, 673, 674, 675, 676, 677, 678, 679, 680, 681, 682, 683, 684] (by decide +kernel) (by decide +kernel)
set_option maxRecDepth 20000 in
theorem gL_law_X7_party : GoodIn wsL_law (wsV RL 95 RX7 yX7_party wsX7_party) := goodIn_app (goodIn_of _ (by decide +kernel)) ggL_law_X7_party
set_option maxRecDepth 20000 in
theorem ggL_law_L_budget : GoodIn wsL_law wsL_budget := goodIn_ca (goodIn_ca (goodIn_r _ [285, 173, 74, 286, 287, 288, 2, 289, 290, 291, 292, 293, 188, 189, 17, 178, 90, 91, 92, 15, 93, 94, 190, 191, 192, 193, 194, 195, 196, 197, 198, 199, 200, 201, 202, 203, 204, 205, 31, 85, 86, 87, 88, 89, 700, 701, 702, 703, 704, 660, 661, 662, 663, 664, 665, 685, 686, 687] (by decide +kernel) (by decide +kernel)) (goodIn_sub (fun _ h => List.mem_append_right _ h) (by decide +kernel))) (goodIn_sub (fun _ h => List.mem_append_left _ (List.mem_append_right _ h)) (by decide +kernel))
set_option maxRecDepth 20000 in
theorem gL_law_L_budget : GoodIn wsL_law (va_wsS RL 96 yL_budget wsL_budget) := goodIn_app (goodIn_of _ (by decide +kernel)) ggL_law_L_budget
set_option maxRecDepth 20000 in
theorem ggL_law_X7_budget : GoodIn wsL_law wsX7_budget := goodIn_r _ [297, 57, 298, 299, 300, 5, 301, 282, 158, 159, 160, 161, 162, 163, 164, 165, 666, 667, 668, 669, 670, 671, 672, 673, 674, 675, 676, 677, 678, 679, 680, 681, 682, 683, 684] (by decide +kernel) (by decide +kernel)
set_option maxRecDepth 20000 in
theorem gL_law_X7_budget : GoodIn wsL_law (wsV RL 98 RX7 yX7_budget wsX7_budget) := goodIn_app (goodIn_of _ (by decide +kernel)) ggL_law_X7_budget
set_option maxRecDepth 20000 in
theorem ggL_law_L_right : GoodIn wsL_law wsL_right := goodIn_ca (goodIn_ca (goodIn_r _ [304, 173, 74, 305, 306, 307, 2, 308, 309, 310, 311, 290, 291, 292, 293, 188, 189, 17, 178, 90, 91, 92, 15, 93, 94, 190, 191, 192, 193, 194, 195, 196, 197, 198, 199, 200, 201, 202, 203, 204, 205, 31, 184, 185, 186, 187, 16, 85, 86, 87, 88, 89, 312, 313, 314, 315, 11, 12, 316, 317, 318, 319, 320, 321, 228, 322, 273, 705, 706, 707, 660, 661, 662, 663, 664, 665, 685, 686, 687, 700, 701, 702, 703, 704] (by decide +kernel) (by decide +kernel)) (goodIn_sub (fun _ h => List.mem_append_right _ h) (by decide +kernel))) (goodIn_sub (fun _ h => List.mem_append_left _ (List.mem_append_right _ h)) (by decide +kernel))
set_option maxRecDepth 20000 in
theorem gL_law_L_right : GoodIn wsL_law (va_wsS RL 99 yL_right wsL_right) := goodIn_app (goodIn_of _ (by decide +kernel)) ggL_law_L_right
set_option maxRecDepth 20000 in
theorem ggL_law_X7_right : GoodIn wsL_law wsX7_right := goodIn_r _ [326, 58, 59, 60, 298, 299, 300, 5, 301, 282, 158, 159, 160, 250, 251, 252, 253, 157, 161, 162, 163, 164, 165, 666, 667, 668, 669, 670, 671, 672, 673, 674, 675, 676, 677, 678, 679, 680, 681, 682, 683, 684] (by decide +kernel) (by decide +kernel)
set_option maxRecDepth 20000 in
theorem gL_law_X7_right : GoodIn wsL_law (wsV RL 102 RX7 yX7_right wsX7_right) := goodIn_app (goodIn_of _ (by decide +kernel)) ggL_law_X7_right
set_option maxRecDepth 20000 in
theorem ggL_law_L_takeBack : GoodIn wsL_law wsL_takeBack := goodIn_ca (goodIn_r _ [329, 173, 330, 331, 332, 2, 333, 290, 291, 292, 293, 188, 189, 17, 178, 90, 91, 92, 15, 93, 94, 190, 191, 192, 193, 194, 195, 196, 197, 198, 199, 200, 201, 202, 203, 204, 205, 31, 184, 185, 186, 187, 16, 334, 335, 336, 228, 337, 273, 319, 320, 321, 322, 206, 207, 208, 209, 18, 210, 211, 212, 213, 214, 215, 216, 217, 218, 219, 220, 221, 222, 223, 224, 225, 226, 227, 229, 230, 231, 232, 233, 21, 234, 46, 235, 236, 237, 238, 239, 240, 241, 242, 243, 244, 245, 660, 661, 662, 663, 664, 665, 685, 686, 687, 700, 701, 702, 703, 704, 694, 695, 696, 697, 698, 699, 688, 689] (by decide +kernel) (by decide +kernel)) (goodIn_sub (fun _ h => List.mem_append_right _ h) (by decide +kernel))
set_option maxRecDepth 20000 in
theorem gL_law_L_takeBack : GoodIn wsL_law (va_wsS RL 103 yL_takeBack wsL_takeBack) := goodIn_app (goodIn_of _ (by decide +kernel)) ggL_law_L_takeBack
set_option maxRecDepth 20000 in
theorem ggL_law_X7_takeBack : GoodIn wsL_law wsX7_takeBack := goodIn_r _ [341, 58, 298, 299, 300, 5, 301, 282, 158, 159, 160, 250, 251, 252, 253, 157, 161, 162, 163, 164, 165, 254, 255, 256, 257, 258, 67, 62, 61, 666, 667, 668, 669, 670, 671, 672, 673, 674, 675, 676, 677, 678, 679, 680, 681, 682, 683, 684] (by decide +kernel) (by decide +kernel)
set_option maxRecDepth 20000 in
theorem gL_law_X7_takeBack : GoodIn wsL_law (wsV RL 105 RX7 yX7_takeBack wsX7_takeBack) := goodIn_app (goodIn_of _ (by decide +kernel)) ggL_law_X7_takeBack
set_option maxRecDepth 20000 in
theorem ggL_law_L_seal : GoodIn wsL_law wsL_seal := goodIn_ca (goodIn_ca (goodIn_r _ [344, 173, 74, 345, 346, 347, 2, 348, 179, 180, 181, 182, 16, 183, 184, 185, 186, 187, 188, 189, 90, 91, 92, 15, 93, 94, 190, 191, 192, 193, 194, 195, 196, 197, 198, 199, 200, 201, 202, 203, 204, 205, 31, 85, 86, 87, 88, 89, 692, 693, 660, 661, 662, 663, 664, 665, 685, 686, 687] (by decide +kernel) (by decide +kernel)) (goodIn_sub (fun _ h => List.mem_append_right _ h) (by decide +kernel))) (goodIn_sub (fun _ h => List.mem_append_left _ (List.mem_append_right _ h)) (by decide +kernel))
set_option maxRecDepth 20000 in
theorem gL_law_L_seal : GoodIn wsL_law (va_wsS RL 106 yL_seal wsL_seal) := goodIn_app (goodIn_of _ (by decide +kernel)) ggL_law_L_seal
set_option maxRecDepth 20000 in
theorem ggL_law_X7_seal : GoodIn wsL_law wsX7_seal := goodIn_r _ [352, 56, 250, 251, 252, 5, 253, 157, 158, 159, 160, 161, 162, 163, 164, 165, 666, 667, 668, 669, 670, 671, 672, 673, 674, 675, 676, 677, 678, 679, 680, 681, 682, 683, 684] (by decide +kernel) (by decide +kernel)
set_option maxRecDepth 20000 in
theorem gL_law_X7_seal : GoodIn wsL_law (wsV RL 109 RX7 yX7_seal wsX7_seal) := goodIn_app (goodIn_of _ (by decide +kernel)) ggL_law_X7_seal
set_option maxRecDepth 20000 in
theorem ggL_law_L_pass : GoodIn wsL_law wsL_pass := goodIn_ca (goodIn_ca (goodIn_r _ [355, 74, 75, 356, 357, 358, 2, 359, 80, 81, 360, 85, 86, 87, 88, 89, 660, 661, 662, 663, 664, 665] (by decide +kernel) (by decide +kernel)) (goodIn_sub (fun _ h => List.mem_append_left _ (List.mem_append_left _ (List.mem_append_right _ h))) (by decide +kernel))) (goodIn_sub (fun _ h => List.mem_append_left _ (List.mem_append_right _ h)) (by decide +kernel))
set_option maxRecDepth 20000 in
theorem gL_law_L_pass : GoodIn wsL_law (va_wsS RL 110 yL_pass wsL_pass) := goodIn_app (goodIn_of _ (by decide +kernel)) ggL_law_L_pass
set_option maxRecDepth 20000 in
theorem ggL_law_X7_pass : GoodIn wsL_law wsX7_pass := goodIn_r _ [364, 365, 158, 159, 5, 160, 161, 162, 163, 164, 165, 666, 667, 668, 669, 670, 671, 672, 673, 674, 675, 676, 677, 678, 679, 680, 681, 682, 683, 684] (by decide +kernel) (by decide +kernel)
set_option maxRecDepth 20000 in
theorem gL_law_X7_pass : GoodIn wsL_law (wsV RL 112 RX7 yX7_pass wsX7_pass) := goodIn_app (goodIn_of _ (by decide +kernel)) ggL_law_X7_pass
set_option maxRecDepth 20000 in
theorem ggL_law_L_ask : GoodIn wsL_law wsL_ask := goodIn_ca (goodIn_ca (goodIn_ca (goodIn_r _ [368, 173, 74, 75, 369, 370, 371, 2, 372, 80, 81, 18, 373, 374, 214, 360, 290, 291, 292, 293, 188, 189, 17, 178, 90, 91, 92, 15, 93, 94, 190, 191, 192, 193, 194, 195, 196, 197, 198, 199, 200, 201, 202, 203, 204, 205, 31, 375, 376, 377, 378, 16, 85, 86, 87, 88, 89, 379, 380, 381, 382, 383, 384, 385, 386, 218, 219, 220, 387, 388, 389, 228, 390, 391, 335, 336, 337, 273, 392, 393, 394, 311, 395, 317, 318, 316, 396, 397, 398, 399, 183, 400, 401, 402, 84, 403, 99, 404, 405, 406, 407, 408, 409, 410, 411, 412, 230, 240, 241, 413, 414, 415, 21, 416, 417, 418, 419, 420, 46, 421, 422, 423, 424, 425, 426, 427, 428, 429, 430, 431, 432, 433, 275, 434, 435, 436, 437, 438, 439, 440, 441, 11, 12, 217, 442, 443, 444, 445, 101, 102, 103, 104, 105, 106, 107, 108, 109, 110, 111, 112, 113, 114, 115, 116, 117, 118, 30, 119, 120, 121, 122, 123, 124, 125, 126, 127, 128, 129, 130, 131, 132, 133, 134, 135, 136, 137, 138, 139, 140, 141, 142, 143, 144, 145, 146, 147, 148, 149, 150, 151, 152, 236, 237, 238, 239, 242, 243, 244, 245, 235, 660, 661, 662, 663, 664, 665, 694, 695, 696, 697, 698, 699, 700, 701, 702, 703, 704, 685, 686, 687, 705, 706, 707, 692, 693, 688, 689] (by decide +kernel) (by decide +kernel)) (goodIn_sub (fun _ h => List.mem_append_left _ (List.mem_append_left _ (List.mem_append_right _ h))) (by decide +kernel))) (goodIn_sub (fun _ h => List.mem_append_right _ h) (by decide +kernel))) (goodIn_sub (fun _ h => List.mem_append_left _ (List.mem_append_right _ h)) (by decide +kernel))
set_option maxRecDepth 20000 in
theorem gL_law_L_ask : GoodIn wsL_law (va_wsS RL 113 yL_ask wsL_ask) := goodIn_app (goodIn_of _ (by decide +kernel)) ggL_law_L_ask
set_option maxRecDepth 20000 in
theorem ggL_law_X7_ask : GoodIn wsL_law wsX7_ask := goodIn_r _ [449, 258, 68, 157, 55, 61, 62, 63, 64, 65, 365, 298, 299, 300, 5, 301, 282, 158, 159, 160, 450, 451, 452, 453, 161, 162, 163, 164, 165, 454, 455, 456, 457, 56, 57, 458, 459, 460, 461, 58, 59, 60, 462, 463, 464, 465, 466, 467, 468, 469, 470, 471, 472, 69, 67, 473, 474, 475, 476, 477, 478, 479, 480, 481, 482, 483, 484, 485, 486, 487, 488, 489, 490, 491, 492, 493, 494, 495, 666, 667, 668, 669, 670, 671, 672, 673, 674, 675, 676, 677, 678, 679, 680, 681, 682, 683, 684] (by decide +kernel) (by decide +kernel)
set_option maxRecDepth 20000 in
theorem gL_law_X7_ask : GoodIn wsL_law (wsV RL 116 RX7 yX7_ask wsX7_ask) := goodIn_app (goodIn_of _ (by decide +kernel)) ggL_law_X7_ask
set_option maxRecDepth 20000 in
theorem ggL_law_L_cost : GoodIn wsL_law wsL_cost := goodIn_ca (goodIn_ca (goodIn_r _ [498, 173, 74, 499, 500, 501, 2, 502, 290, 291, 292, 293, 188, 189, 17, 178, 90, 91, 92, 15, 93, 94, 190, 191, 192, 193, 194, 195, 196, 197, 198, 199, 200, 201, 202, 203, 204, 205, 31, 375, 376, 377, 378, 16, 85, 86, 87, 88, 89, 425, 426, 427, 228, 428, 230, 240, 241, 429, 418, 419, 21, 420, 46, 219, 220, 660, 661, 662, 663, 664, 665, 685, 686, 687, 700, 701, 702, 703, 704, 688, 689] (by decide +kernel) (by decide +kernel)) (goodIn_sub (fun _ h => List.mem_append_right _ h) (by decide +kernel))) (goodIn_sub (fun _ h => List.mem_append_left _ (List.mem_append_right _ h)) (by decide +kernel))
set_option maxRecDepth 20000 in
theorem gL_law_L_cost : GoodIn wsL_law (va_wsS RL 117 yL_cost wsL_cost) := goodIn_app (goodIn_of _ (by decide +kernel)) ggL_law_L_cost
set_option maxRecDepth 20000 in
theorem ggL_law_X7_cost : GoodIn wsL_law wsX7_cost := goodIn_r _ [506, 298, 299, 300, 5, 301, 282, 158, 159, 160, 450, 451, 452, 453, 157, 161, 162, 163, 164, 165, 492, 493, 494, 495, 466, 467, 468, 469, 470, 471, 472, 69, 258, 67, 61, 63, 62, 473, 474, 475, 476, 477, 478, 479, 480, 481, 482, 483, 666, 667, 668, 669, 670, 671, 672, 673, 674, 675, 676, 677, 678, 679, 680, 681, 682, 683, 684] (by decide +kernel) (by decide +kernel)
set_option maxRecDepth 20000 in
theorem gL_law_X7_cost : GoodIn wsL_law (wsV RL 119 RX7 yX7_cost wsX7_cost) := goodIn_app (goodIn_of _ (by decide +kernel)) ggL_law_X7_cost
set_option maxRecDepth 20000 in
theorem ggL_law_L_answer : GoodIn wsL_law wsL_answer := goodIn_ca (goodIn_ca (goodIn_r _ [509, 173, 74, 510, 511, 512, 2, 513, 188, 189, 18, 210, 90, 91, 92, 15, 93, 94, 85, 86, 87, 88, 89, 190, 191, 192, 193, 194, 195, 196, 197, 198, 199, 200, 201, 202, 203, 204, 205, 31, 514, 515, 516, 214, 517, 217, 442, 443, 444, 216, 445, 660, 661, 662, 663, 664, 665, 685, 686, 687, 694, 695, 696, 697, 698, 699] (by decide +kernel) (by decide +kernel)) (goodIn_sub (fun _ h => List.mem_append_right _ h) (by decide +kernel))) (goodIn_sub (fun _ h => List.mem_append_left _ (List.mem_append_right _ h)) (by decide +kernel))
set_option maxRecDepth 20000 in
theorem gL_law_L_answer : GoodIn wsL_law (va_wsS RL 120 yL_answer wsL_answer) := goodIn_app (goodIn_of _ (by decide +kernel)) ggL_law_L_answer
set_option maxRecDepth 20000 in
theorem ggL_law_X7_answer : GoodIn wsL_law wsX7_answer := goodIn_r _ [521, 258, 61, 62, 63, 64, 67, 65, 158, 159, 5, 160, 161, 162, 163, 164, 165, 666, 667, 668, 669, 670, 671, 672, 673, 674, 675, 676, 677, 678, 679, 680, 681, 682, 683, 684] (by decide +kernel) (by decide +kernel)
set_option maxRecDepth 20000 in
theorem gL_law_X7_answer : GoodIn wsL_law (wsV RL 122 RX7 yX7_answer wsX7_answer) := goodIn_app (goodIn_of _ (by decide +kernel)) ggL_law_X7_answer
set_option maxRecDepth 20000 in
theorem ggL_law_L_spent : GoodIn wsL_law wsL_spent := goodIn_ca (goodIn_r _ [524, 173, 525, 526, 527, 2, 528, 290, 291, 292, 293, 188, 189, 17, 178, 90, 91, 92, 15, 93, 94, 190, 191, 192, 193, 194, 195, 196, 197, 198, 199, 200, 201, 202, 203, 204, 205, 31, 421, 422, 423, 228, 424, 230, 660, 661, 662, 663, 664, 665, 685, 686, 687, 700, 701, 702, 703, 704, 688, 689] (by decide +kernel) (by decide +kernel)) (goodIn_sub (fun _ h => List.mem_append_right _ h) (by decide +kernel))
set_option maxRecDepth 20000 in
theorem gL_law_L_spent : GoodIn wsL_law (va_wsS RL 123 yL_spent wsL_spent) := goodIn_app (goodIn_of _ (by decide +kernel)) ggL_law_L_spent
set_option maxRecDepth 20000 in
theorem ggL_law_X7_spent : GoodIn wsL_law wsX7_spent := goodIn_r _ [532, 298, 299, 300, 5, 301, 282, 158, 159, 160, 161, 162, 163, 164, 165, 488, 489, 490, 491, 469, 470, 471, 472, 69, 258, 67, 61, 63, 62, 473, 474, 475, 476, 477, 478, 479, 480, 481, 482, 483, 666, 667, 668, 669, 670, 671, 672, 673, 674, 675, 676, 677, 678, 679, 680, 681, 682, 683, 684] (by decide +kernel) (by decide +kernel)
set_option maxRecDepth 20000 in
theorem gL_law_X7_spent : GoodIn wsL_law (wsV RL 125 RX7 yX7_spent wsX7_spent) := goodIn_app (goodIn_of _ (by decide +kernel)) ggL_law_X7_spent
set_option maxRecDepth 20000 in
theorem ggL_law_L_spentAnew : GoodIn wsL_law wsL_spentAnew := goodIn_ca (goodIn_r _ [535, 173, 536, 537, 538, 2, 539, 290, 291, 292, 293, 188, 189, 17, 178, 90, 91, 92, 15, 93, 94, 190, 191, 192, 193, 194, 195, 196, 197, 198, 199, 200, 201, 202, 203, 204, 205, 31, 540, 541, 542, 543, 26, 16, 18, 210, 544, 545, 546, 25, 547, 50, 548, 120, 121, 122, 549, 147, 148, 550, 211, 212, 213, 214, 215, 216, 217, 551, 240, 241, 552, 553, 554, 555, 556, 557, 558, 559, 560, 561, 562, 563, 219, 220, 564, 565, 566, 567, 568, 569, 570, 571, 572, 573, 574, 575, 576, 577, 660, 661, 662, 663, 664, 665, 685, 686, 687, 694, 695, 696, 697, 698, 699, 690, 691, 700, 701, 702, 703, 704] (by decide +kernel) (by decide +kernel)) (goodIn_sub (fun _ h => List.mem_append_right _ h) (by decide +kernel))
set_option maxRecDepth 20000 in
theorem gL_law_L_spentAnew : GoodIn wsL_law (va_wsS RL 126 yL_spentAnew wsL_spentAnew) := goodIn_app (goodIn_of _ (by decide +kernel)) ggL_law_L_spentAnew
set_option maxRecDepth 20000 in
theorem ggL_law_X7_spentAnew : GoodIn wsL_law wsX7_spentAnew := goodIn_r _ [581, 298, 299, 300, 5, 301, 282, 158, 159, 160, 161, 162, 163, 164, 165, 488, 489, 490, 491, 469, 470, 471, 472, 69, 258, 67, 61, 63, 62, 473, 474, 475, 476, 477, 478, 479, 480, 481, 482, 483, 666, 667, 668, 669, 670, 671, 672, 673, 674, 675, 676, 677, 678, 679, 680, 681, 682, 683, 684] (by decide +kernel) (by decide +kernel)
set_option maxRecDepth 20000 in
theorem gL_law_X7_spentAnew : GoodIn wsL_law (wsV RL 128 RX7 yX7_spentAnew wsX7_spentAnew) := goodIn_app (goodIn_of _ (by decide +kernel)) ggL_law_X7_spentAnew
set_option maxRecDepth 20000 in
theorem ggL_law_L_finds : GoodIn wsL_law wsL_finds := goodIn_ca (goodIn_r _ [584, 173, 585, 586, 587, 2, 588, 290, 291, 292, 293, 188, 189, 17, 178, 90, 91, 92, 15, 93, 94, 190, 191, 192, 193, 194, 195, 196, 197, 198, 199, 200, 201, 202, 203, 204, 205, 31, 184, 185, 186, 187, 16, 589, 418, 419, 21, 420, 46, 219, 220, 700, 701, 702, 703, 704, 660, 661, 662, 663, 664, 665, 685, 686, 687, 688, 689] (by decide +kernel) (by decide +kernel)) (goodIn_sub (fun _ h => List.mem_append_right _ h) (by decide +kernel))
set_option maxRecDepth 20000 in
theorem gL_law_L_finds : GoodIn wsL_law (va_wsS RL 129 yL_finds wsL_finds) := goodIn_app (goodIn_of _ (by decide +kernel)) ggL_law_L_finds
set_option maxRecDepth 20000 in
theorem ggL_law_X7_finds : GoodIn wsL_law wsX7_finds := goodIn_r _ [593, 298, 299, 300, 5, 301, 282, 158, 159, 160, 250, 251, 252, 253, 157, 161, 162, 163, 164, 165, 594, 595, 596, 597, 469, 470, 471, 472, 69, 258, 67, 61, 63, 62, 473, 474, 475, 476, 477, 478, 479, 480, 481, 482, 483, 666, 667, 668, 669, 670, 671, 672, 673, 674, 675, 676, 677, 678, 679, 680, 681, 682, 683, 684] (by decide +kernel) (by decide +kernel)
set_option maxRecDepth 20000 in
theorem gL_law_X7_finds : GoodIn wsL_law (wsV RL 131 RX7 yX7_finds wsX7_finds) := goodIn_app (goodIn_of _ (by decide +kernel)) ggL_law_X7_finds
set_option maxRecDepth 20000 in
theorem ggL_law_L_together : GoodIn wsL_law wsL_together := goodIn_ca (goodIn_ca (goodIn_r _ [600, 173, 74, 601, 602, 603, 2, 604, 17, 22, 184, 185, 186, 187, 188, 189, 16, 90, 91, 92, 15, 93, 94, 85, 86, 87, 88, 89, 605, 606, 607, 608, 178, 609, 232, 233, 21, 234, 46, 235, 190, 191, 192, 193, 194, 195, 196, 197, 198, 199, 200, 201, 202, 203, 204, 205, 31, 218, 219, 220, 610, 611, 612, 613, 614, 243, 244, 245, 589, 418, 419, 420, 660, 661, 662, 663, 664, 665, 685, 686, 687, 700, 701, 702, 703, 704, 688, 689] (by decide +kernel) (by decide +kernel)) (goodIn_sub (fun _ h => List.mem_append_right _ h) (by decide +kernel))) (goodIn_sub (fun _ h => List.mem_append_left _ (List.mem_append_right _ h)) (by decide +kernel))
set_option maxRecDepth 20000 in
theorem gL_law_L_together : GoodIn wsL_law (va_wsS RL 132 yL_together wsL_together) := goodIn_app (goodIn_of _ (by decide +kernel)) ggL_law_L_together
set_option maxRecDepth 20000 in
theorem ggL_law_X7_together : GoodIn wsL_law wsX7_together := goodIn_r _ [618, 282, 250, 251, 252, 5, 253, 157, 158, 159, 160, 161, 162, 163, 164, 165, 594, 595, 596, 597, 469, 470, 471, 472, 69, 258, 67, 61, 63, 62, 473, 474, 475, 476, 477, 478, 479, 480, 481, 482, 483, 666, 667, 668, 669, 670, 671, 672, 673, 674, 675, 676, 677, 678, 679, 680, 681, 682, 683, 684] (by decide +kernel) (by decide +kernel)
set_option maxRecDepth 20000 in
theorem gL_law_X7_together : GoodIn wsL_law (wsV RL 134 RX7 yX7_together wsX7_together) := goodIn_app (goodIn_of _ (by decide +kernel)) ggL_law_X7_together
set_option maxRecDepth 20000 in
theorem ggL_law_L_rightTo : GoodIn wsL_law wsL_rightTo := goodIn_ca (goodIn_r _ [621, 173, 622, 623, 624, 2, 625, 360, 290, 291, 292, 293, 188, 189, 17, 178, 90, 91, 92, 15, 93, 94, 190, 191, 192, 193, 194, 195, 196, 197, 198, 199, 200, 201, 202, 203, 204, 205, 31, 184, 185, 186, 187, 16, 387, 388, 389, 228, 390, 391, 335, 336, 337, 273, 392, 393, 394, 311, 395, 317, 318, 316, 660, 661, 662, 663, 664, 665, 685, 686, 687, 700, 701, 702, 703, 704, 705, 706, 707] (by decide +kernel) (by decide +kernel)) (goodIn_sub (fun _ h => List.mem_append_right _ h) (by decide +kernel))
set_option maxRecDepth 20000 in
theorem gL_law_L_rightTo : GoodIn wsL_law (va_wsS RL 135 yL_rightTo wsL_rightTo) := goodIn_app (goodIn_of _ (by decide +kernel)) ggL_law_L_rightTo
set_option maxRecDepth 20000 in
theorem ggL_law_X7_rightTo : GoodIn wsL_law wsX7_rightTo := goodIn_r _ [629, 298, 299, 300, 5, 301, 282, 158, 159, 160, 250, 251, 252, 253, 157, 161, 162, 163, 164, 165, 458, 459, 460, 461, 58, 365, 59, 60, 666, 667, 668, 669, 670, 671, 672, 673, 674, 675, 676, 677, 678, 679, 680, 681, 682, 683, 684] (by decide +kernel) (by decide +kernel)
set_option maxRecDepth 20000 in
theorem gL_law_X7_rightTo : GoodIn wsL_law (wsV RL 137 RX7 yX7_rightTo wsX7_rightTo) := goodIn_app (goodIn_of _ (by decide +kernel)) ggL_law_X7_rightTo
set_option maxRecDepth 20000 in
theorem ggL_law_L_isSealed : GoodIn wsL_law wsL_isSealed := goodIn_ca (goodIn_r _ [632, 173, 633, 634, 635, 2, 636, 360, 179, 180, 181, 182, 16, 183, 184, 185, 186, 187, 188, 189, 90, 91, 92, 15, 93, 94, 190, 191, 192, 193, 194, 195, 196, 197, 198, 199, 200, 201, 202, 203, 204, 205, 31, 400, 401, 402, 84, 403, 99, 660, 661, 662, 663, 664, 665, 685, 686, 687, 692, 693] (by decide +kernel) (by decide +kernel)) (goodIn_sub (fun _ h => List.mem_append_right _ h) (by decide +kernel))
set_option maxRecDepth 20000 in
theorem gL_law_L_isSealed : GoodIn wsL_law (va_wsS RL 138 yL_isSealed wsL_isSealed) := goodIn_app (goodIn_of _ (by decide +kernel)) ggL_law_L_isSealed
set_option maxRecDepth 20000 in
theorem ggL_law_X7_isSealed : GoodIn wsL_law wsX7_isSealed := goodIn_r _ [640, 56, 365, 250, 251, 252, 5, 253, 157, 158, 159, 160, 161, 162, 163, 164, 165, 666, 667, 668, 669, 670, 671, 672, 673, 674, 675, 676, 677, 678, 679, 680, 681, 682, 683, 684] (by decide +kernel) (by decide +kernel)
set_option maxRecDepth 20000 in
theorem gL_law_X7_isSealed : GoodIn wsL_law (wsV RL 140 RX7 yX7_isSealed wsX7_isSealed) := goodIn_app (goodIn_of _ (by decide +kernel)) ggL_law_X7_isSealed
set_option maxRecDepth 20000 in
theorem ggL_law_L_count : GoodIn wsL_law wsL_count := goodIn_ca (goodIn_ca (goodIn_r _ [643, 173, 74, 644, 645, 646, 2, 647, 290, 291, 292, 293, 188, 189, 17, 178, 90, 91, 92, 15, 93, 94, 190, 191, 192, 193, 194, 195, 196, 197, 198, 199, 200, 201, 202, 203, 204, 205, 31, 85, 86, 87, 88, 89, 648, 649, 650, 651, 18, 210, 211, 212, 213, 214, 215, 216, 217, 652, 653, 654, 228, 655, 275, 660, 661, 662, 663, 664, 665, 685, 686, 687, 694, 695, 696, 697, 698, 699, 700, 701, 702, 703, 704] (by decide +kernel) (by decide +kernel)) (goodIn_sub (fun _ h => List.mem_append_right _ h) (by decide +kernel))) (goodIn_sub (fun _ h => List.mem_append_left _ (List.mem_append_right _ h)) (by decide +kernel))
set_option maxRecDepth 20000 in
theorem gL_law_L_count : GoodIn wsL_law (va_wsS RL 141 yL_count wsL_count) := goodIn_app (goodIn_of _ (by decide +kernel)) ggL_law_L_count
set_option maxRecDepth 20000 in
theorem ggL_law_X7_count : GoodIn wsL_law wsX7_count := goodIn_r _ [659, 258, 61, 67, 68, 298, 299, 300, 5, 301, 282, 158, 159, 160, 161, 162, 163, 164, 165, 666, 667, 668, 669, 670, 671, 672, 673, 674, 675, 676, 677, 678, 679, 680, 681, 682, 683, 684] (by decide +kernel) (by decide +kernel)
set_option maxRecDepth 20000 in
theorem gL_law_X7_count : GoodIn wsL_law (wsV RL 143 RX7 yX7_count wsX7_count) := goodIn_app (goodIn_of _ (by decide +kernel)) ggL_law_X7_count
end
section
theorem dL_law_0 : decode cL_law 0 = .ok (.new 8, 3) := by decide +kernel
theorem dL_law_3 : decode cL_law 3 = .ok (.dup, 1) := by decide +kernel
theorem dL_law_4 : decode cL_law 4 = .ok (.invokespecial 75, 3) := by decide +kernel
theorem dL_law_7 : decode cL_law 7 = .ok (.astore_n 1, 1) := by decide +kernel
theorem dL_law_8 : decode cL_law 8 = .ok (.new 76, 3) := by decide +kernel
theorem dL_law_11 : decode cL_law 11 = .ok (.dup, 1) := by decide +kernel
theorem dL_law_12 : decode cL_law 12 = .ok (.invokespecial 78, 3) := by decide +kernel
theorem dL_law_15 : decode cL_law 15 = .ok (.astore_n 2, 1) := by decide +kernel
theorem dL_law_16 : decode cL_law 16 = .ok (.iconst 1, 1) := by decide +kernel
theorem dL_law_17 : decode cL_law 17 = .ok (.newarray .long, 2) := by decide +kernel
theorem dL_law_19 : decode cL_law 19 = .ok (.astore_n 3, 1) := by decide +kernel
theorem dL_law_20 : decode cL_law 20 = .ok (.iconst 0, 1) := by decide +kernel
theorem dL_law_21 : decode cL_law 21 = .ok (.istore 4, 2) := by decide +kernel
theorem dL_law_23 : decode cL_law 23 = .ok (.iload 4, 2) := by decide +kernel
theorem dL_law_25 : decode cL_law 25 = .ok (.aload_n 0, 1) := by decide +kernel
theorem dL_law_26 : decode cL_law 26 = .ok (.arraylength, 1) := by decide +kernel
theorem dL_law_27 : decode cL_law 27 = .ok (.bipush 6, 2) := by decide +kernel
theorem dL_law_29 : decode cL_law 29 = .ok (.isub, 1) := by decide +kernel
theorem dL_law_30 : decode cL_law 30 = .ok (.if_icmp .gt 1283, 3) := by decide +kernel
theorem dL_law_33 : decode cL_law 33 = .ok (.aload_n 0, 1) := by decide +kernel
theorem dL_law_34 : decode cL_law 34 = .ok (.iload 4, 2) := by decide +kernel
theorem dL_law_36 : decode cL_law 36 = .ok (.iaload, 1) := by decide +kernel
theorem dL_law_37 : decode cL_law 37 = .ok (.bipush 31, 2) := by decide +kernel
theorem dL_law_39 : decode cL_law 39 = .ok (.iand, 1) := by decide +kernel
theorem dL_law_40 : decode cL_law 40 = .ok (.tableswitch 1267 0 17 #[88, 144, 212, 268, 336, 420, 488, 536, 592, 672, 752, 820, 876, 932, 1000, 1068, 1136, 1199], 88) := by decide +kernel
theorem dL_law_128 : decode cL_law 128 = .ok (.aload_n 1, 1) := by decide +kernel
theorem dL_law_129 : decode cL_law 129 = .ok (.aload_n 0, 1) := by decide +kernel
theorem dL_law_130 : decode cL_law 130 = .ok (.iload 4, 2) := by decide +kernel
theorem dL_law_132 : decode cL_law 132 = .ok (.iconst 1, 1) := by decide +kernel
theorem dL_law_133 : decode cL_law 133 = .ok (.iadd, 1) := by decide +kernel
theorem dL_law_134 : decode cL_law 134 = .ok (.iaload, 1) := by decide +kernel
theorem dL_law_135 : decode cL_law 135 = .ok (.aload_n 3, 1) := by decide +kernel
theorem dL_law_136 : decode cL_law 136 = .ok (.invokestatic 79, 3) := by decide +kernel
theorem dL_law_139 : decode cL_law 139 = .ok (.istore 5, 2) := by decide +kernel
theorem dL_law_141 : decode cL_law 141 = .ok (.aload_n 2, 1) := by decide +kernel
theorem dL_law_142 : decode cL_law 142 = .ok (.aload_n 0, 1) := by decide +kernel
theorem dL_law_143 : decode cL_law 143 = .ok (.iload 4, 2) := by decide +kernel
theorem dL_law_145 : decode cL_law 145 = .ok (.iconst 1, 1) := by decide +kernel
theorem dL_law_146 : decode cL_law 146 = .ok (.iadd, 1) := by decide +kernel
theorem dL_law_147 : decode cL_law 147 = .ok (.iaload, 1) := by decide +kernel
theorem dL_law_148 : decode cL_law 148 = .ok (.invokevirtual 84, 3) := by decide +kernel
theorem dL_law_151 : decode cL_law 151 = .ok (.istore 6, 2) := by decide +kernel
theorem dL_law_153 : decode cL_law 153 = .ok (.aload_n 2, 1) := by decide +kernel
theorem dL_law_154 : decode cL_law 154 = .ok (.invokevirtual 85, 3) := by decide +kernel
theorem dL_law_157 : decode cL_law 157 = .ok (.iload 5, 2) := by decide +kernel
theorem dL_law_159 : decode cL_law 159 = .ok (.if_icmp .eq 5, 3) := by decide +kernel
theorem dL_law_162 : decode cL_law 162 = .ok (.iconst 0, 1) := by decide +kernel
theorem dL_law_163 : decode cL_law 163 = .ok (.ireturn, 1) := by decide +kernel
theorem dL_law_164 : decode cL_law 164 = .ok (.iload 5, 2) := by decide +kernel
theorem dL_law_166 : decode cL_law 166 = .ok (.ifCond .ne 15, 3) := by decide +kernel
theorem dL_law_169 : decode cL_law 169 = .ok (.aload_n 3, 1) := by decide +kernel
theorem dL_law_170 : decode cL_law 170 = .ok (.iconst 0, 1) := by decide +kernel
theorem dL_law_171 : decode cL_law 171 = .ok (.laload, 1) := by decide +kernel
theorem dL_law_172 : decode cL_law 172 = .ok (.iload 6, 2) := by decide +kernel
theorem dL_law_174 : decode cL_law 174 = .ok (.i2l, 1) := by decide +kernel
theorem dL_law_175 : decode cL_law 175 = .ok (.lcmp, 1) := by decide +kernel
theorem dL_law_176 : decode cL_law 176 = .ok (.ifCond .eq 5, 3) := by decide +kernel
theorem dL_law_179 : decode cL_law 179 = .ok (.iconst 0, 1) := by decide +kernel
theorem dL_law_180 : decode cL_law 180 = .ok (.ireturn, 1) := by decide +kernel
theorem dL_law_181 : decode cL_law 181 = .ok (.goto 1126, 3) := by decide +kernel
theorem dL_law_184 : decode cL_law 184 = .ok (.aload_n 1, 1) := by decide +kernel
theorem dL_law_185 : decode cL_law 185 = .ok (.aload_n 0, 1) := by decide +kernel
theorem dL_law_186 : decode cL_law 186 = .ok (.iload 4, 2) := by decide +kernel
theorem dL_law_188 : decode cL_law 188 = .ok (.iconst 1, 1) := by decide +kernel
theorem dL_law_189 : decode cL_law 189 = .ok (.iadd, 1) := by decide +kernel
theorem dL_law_190 : decode cL_law 190 = .ok (.iaload, 1) := by decide +kernel
theorem dL_law_191 : decode cL_law 191 = .ok (.aload_n 0, 1) := by decide +kernel
theorem dL_law_192 : decode cL_law 192 = .ok (.iload 4, 2) := by decide +kernel
theorem dL_law_194 : decode cL_law 194 = .ok (.iconst 2, 1) := by decide +kernel
theorem dL_law_195 : decode cL_law 195 = .ok (.iadd, 1) := by decide +kernel
theorem dL_law_196 : decode cL_law 196 = .ok (.iaload, 1) := by decide +kernel
theorem dL_law_197 : decode cL_law 197 = .ok (.aload_n 3, 1) := by decide +kernel
theorem dL_law_198 : decode cL_law 198 = .ok (.invokestatic 89, 3) := by decide +kernel
theorem dL_law_201 : decode cL_law 201 = .ok (.istore 5, 2) := by decide +kernel
theorem dL_law_203 : decode cL_law 203 = .ok (.aload_n 2, 1) := by decide +kernel
theorem dL_law_204 : decode cL_law 204 = .ok (.aload_n 0, 1) := by decide +kernel
theorem dL_law_205 : decode cL_law 205 = .ok (.iload 4, 2) := by decide +kernel
theorem dL_law_207 : decode cL_law 207 = .ok (.iconst 1, 1) := by decide +kernel
theorem dL_law_208 : decode cL_law 208 = .ok (.iadd, 1) := by decide +kernel
theorem dL_law_209 : decode cL_law 209 = .ok (.iaload, 1) := by decide +kernel
theorem dL_law_210 : decode cL_law 210 = .ok (.aload_n 0, 1) := by decide +kernel
theorem dL_law_211 : decode cL_law 211 = .ok (.iload 4, 2) := by decide +kernel
theorem dL_law_213 : decode cL_law 213 = .ok (.iconst 2, 1) := by decide +kernel
theorem dL_law_214 : decode cL_law 214 = .ok (.iadd, 1) := by decide +kernel
theorem dL_law_215 : decode cL_law 215 = .ok (.iaload, 1) := by decide +kernel
theorem dL_law_216 : decode cL_law 216 = .ok (.invokevirtual 92, 3) := by decide +kernel
theorem dL_law_219 : decode cL_law 219 = .ok (.istore 6, 2) := by decide +kernel
theorem dL_law_221 : decode cL_law 221 = .ok (.aload_n 2, 1) := by decide +kernel
theorem dL_law_222 : decode cL_law 222 = .ok (.invokevirtual 85, 3) := by decide +kernel
theorem dL_law_225 : decode cL_law 225 = .ok (.iload 5, 2) := by decide +kernel
theorem dL_law_227 : decode cL_law 227 = .ok (.if_icmp .eq 5, 3) := by decide +kernel
theorem dL_law_230 : decode cL_law 230 = .ok (.iconst 0, 1) := by decide +kernel
theorem dL_law_231 : decode cL_law 231 = .ok (.ireturn, 1) := by decide +kernel
theorem dL_law_232 : decode cL_law 232 = .ok (.iload 5, 2) := by decide +kernel
theorem dL_law_234 : decode cL_law 234 = .ok (.ifCond .ne 15, 3) := by decide +kernel
theorem dL_law_237 : decode cL_law 237 = .ok (.aload_n 3, 1) := by decide +kernel
theorem dL_law_238 : decode cL_law 238 = .ok (.iconst 0, 1) := by decide +kernel
theorem dL_law_239 : decode cL_law 239 = .ok (.laload, 1) := by decide +kernel
theorem dL_law_240 : decode cL_law 240 = .ok (.iload 6, 2) := by decide +kernel
theorem dL_law_242 : decode cL_law 242 = .ok (.i2l, 1) := by decide +kernel
theorem dL_law_243 : decode cL_law 243 = .ok (.lcmp, 1) := by decide +kernel
theorem dL_law_244 : decode cL_law 244 = .ok (.ifCond .eq 5, 3) := by decide +kernel
theorem dL_law_247 : decode cL_law 247 = .ok (.iconst 0, 1) := by decide +kernel
theorem dL_law_248 : decode cL_law 248 = .ok (.ireturn, 1) := by decide +kernel
theorem dL_law_249 : decode cL_law 249 = .ok (.goto 1058, 3) := by decide +kernel
theorem dL_law_252 : decode cL_law 252 = .ok (.aload_n 1, 1) := by decide +kernel
theorem dL_law_253 : decode cL_law 253 = .ok (.aload_n 0, 1) := by decide +kernel
theorem dL_law_254 : decode cL_law 254 = .ok (.iload 4, 2) := by decide +kernel
theorem dL_law_256 : decode cL_law 256 = .ok (.iconst 1, 1) := by decide +kernel
theorem dL_law_257 : decode cL_law 257 = .ok (.iadd, 1) := by decide +kernel
theorem dL_law_258 : decode cL_law 258 = .ok (.iaload, 1) := by decide +kernel
theorem dL_law_259 : decode cL_law 259 = .ok (.aload_n 3, 1) := by decide +kernel
theorem dL_law_260 : decode cL_law 260 = .ok (.invokestatic 93, 3) := by decide +kernel
theorem dL_law_263 : decode cL_law 263 = .ok (.istore 5, 2) := by decide +kernel
theorem dL_law_265 : decode cL_law 265 = .ok (.aload_n 2, 1) := by decide +kernel
theorem dL_law_266 : decode cL_law 266 = .ok (.aload_n 0, 1) := by decide +kernel
theorem dL_law_267 : decode cL_law 267 = .ok (.iload 4, 2) := by decide +kernel
theorem dL_law_269 : decode cL_law 269 = .ok (.iconst 1, 1) := by decide +kernel
theorem dL_law_270 : decode cL_law 270 = .ok (.iadd, 1) := by decide +kernel
theorem dL_law_271 : decode cL_law 271 = .ok (.iaload, 1) := by decide +kernel
theorem dL_law_272 : decode cL_law 272 = .ok (.invokevirtual 95, 3) := by decide +kernel
theorem dL_law_275 : decode cL_law 275 = .ok (.istore 6, 2) := by decide +kernel
theorem dL_law_277 : decode cL_law 277 = .ok (.aload_n 2, 1) := by decide +kernel
theorem dL_law_278 : decode cL_law 278 = .ok (.invokevirtual 85, 3) := by decide +kernel
theorem dL_law_281 : decode cL_law 281 = .ok (.iload 5, 2) := by decide +kernel
theorem dL_law_283 : decode cL_law 283 = .ok (.if_icmp .eq 5, 3) := by decide +kernel
theorem dL_law_286 : decode cL_law 286 = .ok (.iconst 0, 1) := by decide +kernel
theorem dL_law_287 : decode cL_law 287 = .ok (.ireturn, 1) := by decide +kernel
theorem dL_law_288 : decode cL_law 288 = .ok (.iload 5, 2) := by decide +kernel
theorem dL_law_290 : decode cL_law 290 = .ok (.ifCond .ne 15, 3) := by decide +kernel
theorem dL_law_293 : decode cL_law 293 = .ok (.aload_n 3, 1) := by decide +kernel
theorem dL_law_294 : decode cL_law 294 = .ok (.iconst 0, 1) := by decide +kernel
theorem dL_law_295 : decode cL_law 295 = .ok (.laload, 1) := by decide +kernel
theorem dL_law_296 : decode cL_law 296 = .ok (.iload 6, 2) := by decide +kernel
theorem dL_law_298 : decode cL_law 298 = .ok (.i2l, 1) := by decide +kernel
theorem dL_law_299 : decode cL_law 299 = .ok (.lcmp, 1) := by decide +kernel
theorem dL_law_300 : decode cL_law 300 = .ok (.ifCond .eq 5, 3) := by decide +kernel
theorem dL_law_303 : decode cL_law 303 = .ok (.iconst 0, 1) := by decide +kernel
theorem dL_law_304 : decode cL_law 304 = .ok (.ireturn, 1) := by decide +kernel
theorem dL_law_305 : decode cL_law 305 = .ok (.goto 1002, 3) := by decide +kernel
theorem dL_law_308 : decode cL_law 308 = .ok (.aload_n 1, 1) := by decide +kernel
theorem dL_law_309 : decode cL_law 309 = .ok (.aload_n 0, 1) := by decide +kernel
theorem dL_law_310 : decode cL_law 310 = .ok (.iload 4, 2) := by decide +kernel
theorem dL_law_312 : decode cL_law 312 = .ok (.iconst 1, 1) := by decide +kernel
theorem dL_law_313 : decode cL_law 313 = .ok (.iadd, 1) := by decide +kernel
theorem dL_law_314 : decode cL_law 314 = .ok (.iaload, 1) := by decide +kernel
theorem dL_law_315 : decode cL_law 315 = .ok (.aload_n 0, 1) := by decide +kernel
theorem dL_law_316 : decode cL_law 316 = .ok (.iload 4, 2) := by decide +kernel
theorem dL_law_318 : decode cL_law 318 = .ok (.iconst 2, 1) := by decide +kernel
theorem dL_law_319 : decode cL_law 319 = .ok (.iadd, 1) := by decide +kernel
theorem dL_law_320 : decode cL_law 320 = .ok (.iaload, 1) := by decide +kernel
theorem dL_law_321 : decode cL_law 321 = .ok (.aload_n 3, 1) := by decide +kernel
theorem dL_law_322 : decode cL_law 322 = .ok (.invokestatic 96, 3) := by decide +kernel
theorem dL_law_325 : decode cL_law 325 = .ok (.istore 5, 2) := by decide +kernel
theorem dL_law_327 : decode cL_law 327 = .ok (.aload_n 2, 1) := by decide +kernel
theorem dL_law_328 : decode cL_law 328 = .ok (.aload_n 0, 1) := by decide +kernel
theorem dL_law_329 : decode cL_law 329 = .ok (.iload 4, 2) := by decide +kernel
theorem dL_law_331 : decode cL_law 331 = .ok (.iconst 1, 1) := by decide +kernel
theorem dL_law_332 : decode cL_law 332 = .ok (.iadd, 1) := by decide +kernel
theorem dL_law_333 : decode cL_law 333 = .ok (.iaload, 1) := by decide +kernel
theorem dL_law_334 : decode cL_law 334 = .ok (.aload_n 0, 1) := by decide +kernel
theorem dL_law_335 : decode cL_law 335 = .ok (.iload 4, 2) := by decide +kernel
theorem dL_law_337 : decode cL_law 337 = .ok (.iconst 2, 1) := by decide +kernel
theorem dL_law_338 : decode cL_law 338 = .ok (.iadd, 1) := by decide +kernel
theorem dL_law_339 : decode cL_law 339 = .ok (.iaload, 1) := by decide +kernel
theorem dL_law_340 : decode cL_law 340 = .ok (.invokevirtual 98, 3) := by decide +kernel
theorem dL_law_343 : decode cL_law 343 = .ok (.istore 6, 2) := by decide +kernel
theorem dL_law_345 : decode cL_law 345 = .ok (.aload_n 2, 1) := by decide +kernel
theorem dL_law_346 : decode cL_law 346 = .ok (.invokevirtual 85, 3) := by decide +kernel
theorem dL_law_349 : decode cL_law 349 = .ok (.iload 5, 2) := by decide +kernel
theorem dL_law_351 : decode cL_law 351 = .ok (.if_icmp .eq 5, 3) := by decide +kernel
theorem dL_law_354 : decode cL_law 354 = .ok (.iconst 0, 1) := by decide +kernel
theorem dL_law_355 : decode cL_law 355 = .ok (.ireturn, 1) := by decide +kernel
theorem dL_law_356 : decode cL_law 356 = .ok (.iload 5, 2) := by decide +kernel
theorem dL_law_358 : decode cL_law 358 = .ok (.ifCond .ne 15, 3) := by decide +kernel
theorem dL_law_361 : decode cL_law 361 = .ok (.aload_n 3, 1) := by decide +kernel
theorem dL_law_362 : decode cL_law 362 = .ok (.iconst 0, 1) := by decide +kernel
theorem dL_law_363 : decode cL_law 363 = .ok (.laload, 1) := by decide +kernel
theorem dL_law_364 : decode cL_law 364 = .ok (.iload 6, 2) := by decide +kernel
theorem dL_law_366 : decode cL_law 366 = .ok (.i2l, 1) := by decide +kernel
theorem dL_law_367 : decode cL_law 367 = .ok (.lcmp, 1) := by decide +kernel
theorem dL_law_368 : decode cL_law 368 = .ok (.ifCond .eq 5, 3) := by decide +kernel
theorem dL_law_371 : decode cL_law 371 = .ok (.iconst 0, 1) := by decide +kernel
theorem dL_law_372 : decode cL_law 372 = .ok (.ireturn, 1) := by decide +kernel
theorem dL_law_373 : decode cL_law 373 = .ok (.goto 934, 3) := by decide +kernel
theorem dL_law_376 : decode cL_law 376 = .ok (.aload_n 1, 1) := by decide +kernel
theorem dL_law_377 : decode cL_law 377 = .ok (.aload_n 0, 1) := by decide +kernel
theorem dL_law_378 : decode cL_law 378 = .ok (.iload 4, 2) := by decide +kernel
theorem dL_law_380 : decode cL_law 380 = .ok (.iconst 1, 1) := by decide +kernel
theorem dL_law_381 : decode cL_law 381 = .ok (.iadd, 1) := by decide +kernel
theorem dL_law_382 : decode cL_law 382 = .ok (.iaload, 1) := by decide +kernel
theorem dL_law_383 : decode cL_law 383 = .ok (.aload_n 0, 1) := by decide +kernel
theorem dL_law_384 : decode cL_law 384 = .ok (.iload 4, 2) := by decide +kernel
theorem dL_law_386 : decode cL_law 386 = .ok (.iconst 2, 1) := by decide +kernel
theorem dL_law_387 : decode cL_law 387 = .ok (.iadd, 1) := by decide +kernel
theorem dL_law_388 : decode cL_law 388 = .ok (.iaload, 1) := by decide +kernel
theorem dL_law_389 : decode cL_law 389 = .ok (.aload_n 0, 1) := by decide +kernel
theorem dL_law_390 : decode cL_law 390 = .ok (.iload 4, 2) := by decide +kernel
theorem dL_law_392 : decode cL_law 392 = .ok (.iconst 3, 1) := by decide +kernel
theorem dL_law_393 : decode cL_law 393 = .ok (.iadd, 1) := by decide +kernel
theorem dL_law_394 : decode cL_law 394 = .ok (.iaload, 1) := by decide +kernel
theorem dL_law_395 : decode cL_law 395 = .ok (.aload_n 0, 1) := by decide +kernel
theorem dL_law_396 : decode cL_law 396 = .ok (.iload 4, 2) := by decide +kernel
theorem dL_law_398 : decode cL_law 398 = .ok (.iconst 4, 1) := by decide +kernel
theorem dL_law_399 : decode cL_law 399 = .ok (.iadd, 1) := by decide +kernel
theorem dL_law_400 : decode cL_law 400 = .ok (.iaload, 1) := by decide +kernel
theorem dL_law_401 : decode cL_law 401 = .ok (.aload_n 0, 1) := by decide +kernel
theorem dL_law_402 : decode cL_law 402 = .ok (.iload 4, 2) := by decide +kernel
theorem dL_law_404 : decode cL_law 404 = .ok (.iconst 5, 1) := by decide +kernel
theorem dL_law_405 : decode cL_law 405 = .ok (.iadd, 1) := by decide +kernel
theorem dL_law_406 : decode cL_law 406 = .ok (.iaload, 1) := by decide +kernel
theorem dL_law_407 : decode cL_law 407 = .ok (.invokestatic 99, 3) := by decide +kernel
theorem dL_law_410 : decode cL_law 410 = .ok (.istore 5, 2) := by decide +kernel
theorem dL_law_412 : decode cL_law 412 = .ok (.aload_n 2, 1) := by decide +kernel
theorem dL_law_413 : decode cL_law 413 = .ok (.aload_n 0, 1) := by decide +kernel
theorem dL_law_414 : decode cL_law 414 = .ok (.iload 4, 2) := by decide +kernel
theorem dL_law_416 : decode cL_law 416 = .ok (.iconst 1, 1) := by decide +kernel
theorem dL_law_417 : decode cL_law 417 = .ok (.iadd, 1) := by decide +kernel
theorem dL_law_418 : decode cL_law 418 = .ok (.iaload, 1) := by decide +kernel
theorem dL_law_419 : decode cL_law 419 = .ok (.aload_n 0, 1) := by decide +kernel
theorem dL_law_420 : decode cL_law 420 = .ok (.iload 4, 2) := by decide +kernel
theorem dL_law_422 : decode cL_law 422 = .ok (.iconst 2, 1) := by decide +kernel
theorem dL_law_423 : decode cL_law 423 = .ok (.iadd, 1) := by decide +kernel
theorem dL_law_424 : decode cL_law 424 = .ok (.iaload, 1) := by decide +kernel
theorem dL_law_425 : decode cL_law 425 = .ok (.aload_n 0, 1) := by decide +kernel
theorem dL_law_426 : decode cL_law 426 = .ok (.iload 4, 2) := by decide +kernel
theorem dL_law_428 : decode cL_law 428 = .ok (.iconst 3, 1) := by decide +kernel
theorem dL_law_429 : decode cL_law 429 = .ok (.iadd, 1) := by decide +kernel
theorem dL_law_430 : decode cL_law 430 = .ok (.iaload, 1) := by decide +kernel
theorem dL_law_431 : decode cL_law 431 = .ok (.aload_n 0, 1) := by decide +kernel
theorem dL_law_432 : decode cL_law 432 = .ok (.iload 4, 2) := by decide +kernel
theorem dL_law_434 : decode cL_law 434 = .ok (.iconst 4, 1) := by decide +kernel
theorem dL_law_435 : decode cL_law 435 = .ok (.iadd, 1) := by decide +kernel
theorem dL_law_436 : decode cL_law 436 = .ok (.iaload, 1) := by decide +kernel
theorem dL_law_437 : decode cL_law 437 = .ok (.aload_n 0, 1) := by decide +kernel
theorem dL_law_438 : decode cL_law 438 = .ok (.iload 4, 2) := by decide +kernel
theorem dL_law_440 : decode cL_law 440 = .ok (.iconst 5, 1) := by decide +kernel
theorem dL_law_441 : decode cL_law 441 = .ok (.iadd, 1) := by decide +kernel
theorem dL_law_442 : decode cL_law 442 = .ok (.iaload, 1) := by decide +kernel
theorem dL_law_443 : decode cL_law 443 = .ok (.invokevirtual 102, 3) := by decide +kernel
theorem dL_law_446 : decode cL_law 446 = .ok (.aload_n 2, 1) := by decide +kernel
theorem dL_law_447 : decode cL_law 447 = .ok (.invokevirtual 85, 3) := by decide +kernel
theorem dL_law_450 : decode cL_law 450 = .ok (.iload 5, 2) := by decide +kernel
theorem dL_law_452 : decode cL_law 452 = .ok (.if_icmp .eq 5, 3) := by decide +kernel
theorem dL_law_455 : decode cL_law 455 = .ok (.iconst 0, 1) := by decide +kernel
theorem dL_law_456 : decode cL_law 456 = .ok (.ireturn, 1) := by decide +kernel
theorem dL_law_457 : decode cL_law 457 = .ok (.goto 850, 3) := by decide +kernel
theorem dL_law_460 : decode cL_law 460 = .ok (.aload_n 1, 1) := by decide +kernel
theorem dL_law_461 : decode cL_law 461 = .ok (.aload_n 0, 1) := by decide +kernel
theorem dL_law_462 : decode cL_law 462 = .ok (.iload 4, 2) := by decide +kernel
theorem dL_law_464 : decode cL_law 464 = .ok (.iconst 1, 1) := by decide +kernel
theorem dL_law_465 : decode cL_law 465 = .ok (.iadd, 1) := by decide +kernel
theorem dL_law_466 : decode cL_law 466 = .ok (.iaload, 1) := by decide +kernel
theorem dL_law_467 : decode cL_law 467 = .ok (.aload_n 0, 1) := by decide +kernel
theorem dL_law_468 : decode cL_law 468 = .ok (.iload 4, 2) := by decide +kernel
theorem dL_law_470 : decode cL_law 470 = .ok (.iconst 2, 1) := by decide +kernel
theorem dL_law_471 : decode cL_law 471 = .ok (.iadd, 1) := by decide +kernel
theorem dL_law_472 : decode cL_law 472 = .ok (.iaload, 1) := by decide +kernel
theorem dL_law_473 : decode cL_law 473 = .ok (.aload_n 3, 1) := by decide +kernel
theorem dL_law_474 : decode cL_law 474 = .ok (.invokestatic 103, 3) := by decide +kernel
theorem dL_law_477 : decode cL_law 477 = .ok (.istore 5, 2) := by decide +kernel
theorem dL_law_479 : decode cL_law 479 = .ok (.aload_n 2, 1) := by decide +kernel
theorem dL_law_480 : decode cL_law 480 = .ok (.aload_n 0, 1) := by decide +kernel
theorem dL_law_481 : decode cL_law 481 = .ok (.iload 4, 2) := by decide +kernel
theorem dL_law_483 : decode cL_law 483 = .ok (.iconst 1, 1) := by decide +kernel
theorem dL_law_484 : decode cL_law 484 = .ok (.iadd, 1) := by decide +kernel
theorem dL_law_485 : decode cL_law 485 = .ok (.iaload, 1) := by decide +kernel
theorem dL_law_486 : decode cL_law 486 = .ok (.aload_n 0, 1) := by decide +kernel
theorem dL_law_487 : decode cL_law 487 = .ok (.iload 4, 2) := by decide +kernel
theorem dL_law_489 : decode cL_law 489 = .ok (.iconst 2, 1) := by decide +kernel
theorem dL_law_490 : decode cL_law 490 = .ok (.iadd, 1) := by decide +kernel
theorem dL_law_491 : decode cL_law 491 = .ok (.iaload, 1) := by decide +kernel
theorem dL_law_492 : decode cL_law 492 = .ok (.invokevirtual 105, 3) := by decide +kernel
theorem dL_law_495 : decode cL_law 495 = .ok (.istore 6, 2) := by decide +kernel
theorem dL_law_497 : decode cL_law 497 = .ok (.aload_n 2, 1) := by decide +kernel
theorem dL_law_498 : decode cL_law 498 = .ok (.invokevirtual 85, 3) := by decide +kernel
theorem dL_law_501 : decode cL_law 501 = .ok (.iload 5, 2) := by decide +kernel
theorem dL_law_503 : decode cL_law 503 = .ok (.if_icmp .eq 5, 3) := by decide +kernel
theorem dL_law_506 : decode cL_law 506 = .ok (.iconst 0, 1) := by decide +kernel
theorem dL_law_507 : decode cL_law 507 = .ok (.ireturn, 1) := by decide +kernel
theorem dL_law_508 : decode cL_law 508 = .ok (.iload 5, 2) := by decide +kernel
theorem dL_law_510 : decode cL_law 510 = .ok (.ifCond .ne 15, 3) := by decide +kernel
theorem dL_law_513 : decode cL_law 513 = .ok (.aload_n 3, 1) := by decide +kernel
theorem dL_law_514 : decode cL_law 514 = .ok (.iconst 0, 1) := by decide +kernel
theorem dL_law_515 : decode cL_law 515 = .ok (.laload, 1) := by decide +kernel
theorem dL_law_516 : decode cL_law 516 = .ok (.iload 6, 2) := by decide +kernel
theorem dL_law_518 : decode cL_law 518 = .ok (.i2l, 1) := by decide +kernel
theorem dL_law_519 : decode cL_law 519 = .ok (.lcmp, 1) := by decide +kernel
theorem dL_law_520 : decode cL_law 520 = .ok (.ifCond .eq 5, 3) := by decide +kernel
theorem dL_law_523 : decode cL_law 523 = .ok (.iconst 0, 1) := by decide +kernel
theorem dL_law_524 : decode cL_law 524 = .ok (.ireturn, 1) := by decide +kernel
theorem dL_law_525 : decode cL_law 525 = .ok (.goto 782, 3) := by decide +kernel
theorem dL_law_528 : decode cL_law 528 = .ok (.aload_n 1, 1) := by decide +kernel
theorem dL_law_529 : decode cL_law 529 = .ok (.aload_n 0, 1) := by decide +kernel
theorem dL_law_530 : decode cL_law 530 = .ok (.iload 4, 2) := by decide +kernel
theorem dL_law_532 : decode cL_law 532 = .ok (.iconst 1, 1) := by decide +kernel
theorem dL_law_533 : decode cL_law 533 = .ok (.iadd, 1) := by decide +kernel
theorem dL_law_534 : decode cL_law 534 = .ok (.iaload, 1) := by decide +kernel
theorem dL_law_535 : decode cL_law 535 = .ok (.aload_n 0, 1) := by decide +kernel
theorem dL_law_536 : decode cL_law 536 = .ok (.iload 4, 2) := by decide +kernel
theorem dL_law_538 : decode cL_law 538 = .ok (.iconst 2, 1) := by decide +kernel
theorem dL_law_539 : decode cL_law 539 = .ok (.iadd, 1) := by decide +kernel
theorem dL_law_540 : decode cL_law 540 = .ok (.iaload, 1) := by decide +kernel
theorem dL_law_541 : decode cL_law 541 = .ok (.invokestatic 106, 3) := by decide +kernel
theorem dL_law_544 : decode cL_law 544 = .ok (.istore 5, 2) := by decide +kernel
theorem dL_law_546 : decode cL_law 546 = .ok (.aload_n 2, 1) := by decide +kernel
theorem dL_law_547 : decode cL_law 547 = .ok (.aload_n 0, 1) := by decide +kernel
theorem dL_law_548 : decode cL_law 548 = .ok (.iload 4, 2) := by decide +kernel
theorem dL_law_550 : decode cL_law 550 = .ok (.iconst 1, 1) := by decide +kernel
theorem dL_law_551 : decode cL_law 551 = .ok (.iadd, 1) := by decide +kernel
theorem dL_law_552 : decode cL_law 552 = .ok (.iaload, 1) := by decide +kernel
theorem dL_law_553 : decode cL_law 553 = .ok (.aload_n 0, 1) := by decide +kernel
theorem dL_law_554 : decode cL_law 554 = .ok (.iload 4, 2) := by decide +kernel
theorem dL_law_556 : decode cL_law 556 = .ok (.iconst 2, 1) := by decide +kernel
theorem dL_law_557 : decode cL_law 557 = .ok (.iadd, 1) := by decide +kernel
theorem dL_law_558 : decode cL_law 558 = .ok (.iaload, 1) := by decide +kernel
theorem dL_law_559 : decode cL_law 559 = .ok (.invokevirtual 109, 3) := by decide +kernel
theorem dL_law_562 : decode cL_law 562 = .ok (.aload_n 2, 1) := by decide +kernel
theorem dL_law_563 : decode cL_law 563 = .ok (.invokevirtual 85, 3) := by decide +kernel
theorem dL_law_566 : decode cL_law 566 = .ok (.iload 5, 2) := by decide +kernel
theorem dL_law_568 : decode cL_law 568 = .ok (.if_icmp .eq 5, 3) := by decide +kernel
theorem dL_law_571 : decode cL_law 571 = .ok (.iconst 0, 1) := by decide +kernel
theorem dL_law_572 : decode cL_law 572 = .ok (.ireturn, 1) := by decide +kernel
theorem dL_law_573 : decode cL_law 573 = .ok (.goto 734, 3) := by decide +kernel
theorem dL_law_576 : decode cL_law 576 = .ok (.aload_n 1, 1) := by decide +kernel
theorem dL_law_577 : decode cL_law 577 = .ok (.aload_n 0, 1) := by decide +kernel
theorem dL_law_578 : decode cL_law 578 = .ok (.iload 4, 2) := by decide +kernel
theorem dL_law_580 : decode cL_law 580 = .ok (.iconst 1, 1) := by decide +kernel
theorem dL_law_581 : decode cL_law 581 = .ok (.iadd, 1) := by decide +kernel
theorem dL_law_582 : decode cL_law 582 = .ok (.iaload, 1) := by decide +kernel
theorem dL_law_583 : decode cL_law 583 = .ok (.aload_n 3, 1) := by decide +kernel
theorem dL_law_584 : decode cL_law 584 = .ok (.invokestatic 110, 3) := by decide +kernel
theorem dL_law_587 : decode cL_law 587 = .ok (.istore 5, 2) := by decide +kernel
theorem dL_law_589 : decode cL_law 589 = .ok (.aload_n 2, 1) := by decide +kernel
theorem dL_law_590 : decode cL_law 590 = .ok (.aload_n 0, 1) := by decide +kernel
theorem dL_law_591 : decode cL_law 591 = .ok (.iload 4, 2) := by decide +kernel
theorem dL_law_593 : decode cL_law 593 = .ok (.iconst 1, 1) := by decide +kernel
theorem dL_law_594 : decode cL_law 594 = .ok (.iadd, 1) := by decide +kernel
theorem dL_law_595 : decode cL_law 595 = .ok (.iaload, 1) := by decide +kernel
theorem dL_law_596 : decode cL_law 596 = .ok (.invokevirtual 112, 3) := by decide +kernel
theorem dL_law_599 : decode cL_law 599 = .ok (.istore 6, 2) := by decide +kernel
theorem dL_law_601 : decode cL_law 601 = .ok (.aload_n 2, 1) := by decide +kernel
theorem dL_law_602 : decode cL_law 602 = .ok (.invokevirtual 85, 3) := by decide +kernel
theorem dL_law_605 : decode cL_law 605 = .ok (.iload 5, 2) := by decide +kernel
theorem dL_law_607 : decode cL_law 607 = .ok (.if_icmp .eq 5, 3) := by decide +kernel
theorem dL_law_610 : decode cL_law 610 = .ok (.iconst 0, 1) := by decide +kernel
theorem dL_law_611 : decode cL_law 611 = .ok (.ireturn, 1) := by decide +kernel
theorem dL_law_612 : decode cL_law 612 = .ok (.iload 5, 2) := by decide +kernel
theorem dL_law_614 : decode cL_law 614 = .ok (.ifCond .ne 15, 3) := by decide +kernel
theorem dL_law_617 : decode cL_law 617 = .ok (.aload_n 3, 1) := by decide +kernel
theorem dL_law_618 : decode cL_law 618 = .ok (.iconst 0, 1) := by decide +kernel
theorem dL_law_619 : decode cL_law 619 = .ok (.laload, 1) := by decide +kernel
theorem dL_law_620 : decode cL_law 620 = .ok (.iload 6, 2) := by decide +kernel
theorem dL_law_622 : decode cL_law 622 = .ok (.i2l, 1) := by decide +kernel
theorem dL_law_623 : decode cL_law 623 = .ok (.lcmp, 1) := by decide +kernel
theorem dL_law_624 : decode cL_law 624 = .ok (.ifCond .eq 5, 3) := by decide +kernel
theorem dL_law_627 : decode cL_law 627 = .ok (.iconst 0, 1) := by decide +kernel
theorem dL_law_628 : decode cL_law 628 = .ok (.ireturn, 1) := by decide +kernel
theorem dL_law_629 : decode cL_law 629 = .ok (.goto 678, 3) := by decide +kernel
theorem dL_law_632 : decode cL_law 632 = .ok (.aload_n 1, 1) := by decide +kernel
theorem dL_law_633 : decode cL_law 633 = .ok (.aload_n 0, 1) := by decide +kernel
theorem dL_law_634 : decode cL_law 634 = .ok (.iload 4, 2) := by decide +kernel
theorem dL_law_636 : decode cL_law 636 = .ok (.iconst 1, 1) := by decide +kernel
theorem dL_law_637 : decode cL_law 637 = .ok (.iadd, 1) := by decide +kernel
theorem dL_law_638 : decode cL_law 638 = .ok (.iaload, 1) := by decide +kernel
theorem dL_law_639 : decode cL_law 639 = .ok (.aload_n 0, 1) := by decide +kernel
theorem dL_law_640 : decode cL_law 640 = .ok (.iload 4, 2) := by decide +kernel
theorem dL_law_642 : decode cL_law 642 = .ok (.iconst 2, 1) := by decide +kernel
theorem dL_law_643 : decode cL_law 643 = .ok (.iadd, 1) := by decide +kernel
theorem dL_law_644 : decode cL_law 644 = .ok (.iaload, 1) := by decide +kernel
theorem dL_law_645 : decode cL_law 645 = .ok (.aload_n 0, 1) := by decide +kernel
theorem dL_law_646 : decode cL_law 646 = .ok (.iload 4, 2) := by decide +kernel
theorem dL_law_648 : decode cL_law 648 = .ok (.iconst 3, 1) := by decide +kernel
theorem dL_law_649 : decode cL_law 649 = .ok (.iadd, 1) := by decide +kernel
theorem dL_law_650 : decode cL_law 650 = .ok (.iaload, 1) := by decide +kernel
theorem dL_law_651 : decode cL_law 651 = .ok (.aload_n 3, 1) := by decide +kernel
theorem dL_law_652 : decode cL_law 652 = .ok (.invokestatic 113, 3) := by decide +kernel
theorem dL_law_655 : decode cL_law 655 = .ok (.istore 5, 2) := by decide +kernel
theorem dL_law_657 : decode cL_law 657 = .ok (.aload_n 2, 1) := by decide +kernel
theorem dL_law_658 : decode cL_law 658 = .ok (.aload_n 0, 1) := by decide +kernel
theorem dL_law_659 : decode cL_law 659 = .ok (.iload 4, 2) := by decide +kernel
theorem dL_law_661 : decode cL_law 661 = .ok (.iconst 1, 1) := by decide +kernel
theorem dL_law_662 : decode cL_law 662 = .ok (.iadd, 1) := by decide +kernel
theorem dL_law_663 : decode cL_law 663 = .ok (.iaload, 1) := by decide +kernel
theorem dL_law_664 : decode cL_law 664 = .ok (.aload_n 0, 1) := by decide +kernel
theorem dL_law_665 : decode cL_law 665 = .ok (.iload 4, 2) := by decide +kernel
theorem dL_law_667 : decode cL_law 667 = .ok (.iconst 2, 1) := by decide +kernel
theorem dL_law_668 : decode cL_law 668 = .ok (.iadd, 1) := by decide +kernel
theorem dL_law_669 : decode cL_law 669 = .ok (.iaload, 1) := by decide +kernel
theorem dL_law_670 : decode cL_law 670 = .ok (.aload_n 0, 1) := by decide +kernel
theorem dL_law_671 : decode cL_law 671 = .ok (.iload 4, 2) := by decide +kernel
theorem dL_law_673 : decode cL_law 673 = .ok (.iconst 3, 1) := by decide +kernel
theorem dL_law_674 : decode cL_law 674 = .ok (.iadd, 1) := by decide +kernel
theorem dL_law_675 : decode cL_law 675 = .ok (.iaload, 1) := by decide +kernel
theorem dL_law_676 : decode cL_law 676 = .ok (.invokevirtual 116, 3) := by decide +kernel
theorem dL_law_679 : decode cL_law 679 = .ok (.istore 6, 2) := by decide +kernel
theorem dL_law_681 : decode cL_law 681 = .ok (.aload_n 2, 1) := by decide +kernel
theorem dL_law_682 : decode cL_law 682 = .ok (.invokevirtual 85, 3) := by decide +kernel
theorem dL_law_685 : decode cL_law 685 = .ok (.iload 5, 2) := by decide +kernel
theorem dL_law_687 : decode cL_law 687 = .ok (.if_icmp .eq 5, 3) := by decide +kernel
theorem dL_law_690 : decode cL_law 690 = .ok (.iconst 0, 1) := by decide +kernel
theorem dL_law_691 : decode cL_law 691 = .ok (.ireturn, 1) := by decide +kernel
theorem dL_law_692 : decode cL_law 692 = .ok (.iload 5, 2) := by decide +kernel
theorem dL_law_694 : decode cL_law 694 = .ok (.ifCond .ne 15, 3) := by decide +kernel
theorem dL_law_697 : decode cL_law 697 = .ok (.aload_n 3, 1) := by decide +kernel
theorem dL_law_698 : decode cL_law 698 = .ok (.iconst 0, 1) := by decide +kernel
theorem dL_law_699 : decode cL_law 699 = .ok (.laload, 1) := by decide +kernel
theorem dL_law_700 : decode cL_law 700 = .ok (.iload 6, 2) := by decide +kernel
theorem dL_law_702 : decode cL_law 702 = .ok (.i2l, 1) := by decide +kernel
theorem dL_law_703 : decode cL_law 703 = .ok (.lcmp, 1) := by decide +kernel
theorem dL_law_704 : decode cL_law 704 = .ok (.ifCond .eq 5, 3) := by decide +kernel
theorem dL_law_707 : decode cL_law 707 = .ok (.iconst 0, 1) := by decide +kernel
theorem dL_law_708 : decode cL_law 708 = .ok (.ireturn, 1) := by decide +kernel
theorem dL_law_709 : decode cL_law 709 = .ok (.goto 598, 3) := by decide +kernel
theorem dL_law_712 : decode cL_law 712 = .ok (.aload_n 1, 1) := by decide +kernel
theorem dL_law_713 : decode cL_law 713 = .ok (.aload_n 0, 1) := by decide +kernel
theorem dL_law_714 : decode cL_law 714 = .ok (.iload 4, 2) := by decide +kernel
theorem dL_law_716 : decode cL_law 716 = .ok (.iconst 1, 1) := by decide +kernel
theorem dL_law_717 : decode cL_law 717 = .ok (.iadd, 1) := by decide +kernel
theorem dL_law_718 : decode cL_law 718 = .ok (.iaload, 1) := by decide +kernel
theorem dL_law_719 : decode cL_law 719 = .ok (.aload_n 0, 1) := by decide +kernel
theorem dL_law_720 : decode cL_law 720 = .ok (.iload 4, 2) := by decide +kernel
theorem dL_law_722 : decode cL_law 722 = .ok (.iconst 2, 1) := by decide +kernel
theorem dL_law_723 : decode cL_law 723 = .ok (.iadd, 1) := by decide +kernel
theorem dL_law_724 : decode cL_law 724 = .ok (.iaload, 1) := by decide +kernel
theorem dL_law_725 : decode cL_law 725 = .ok (.aload_n 0, 1) := by decide +kernel
theorem dL_law_726 : decode cL_law 726 = .ok (.iload 4, 2) := by decide +kernel
theorem dL_law_728 : decode cL_law 728 = .ok (.iconst 3, 1) := by decide +kernel
theorem dL_law_729 : decode cL_law 729 = .ok (.iadd, 1) := by decide +kernel
theorem dL_law_730 : decode cL_law 730 = .ok (.iaload, 1) := by decide +kernel
theorem dL_law_731 : decode cL_law 731 = .ok (.aload_n 3, 1) := by decide +kernel
theorem dL_law_732 : decode cL_law 732 = .ok (.invokestatic 117, 3) := by decide +kernel
theorem dL_law_735 : decode cL_law 735 = .ok (.istore 5, 2) := by decide +kernel
theorem dL_law_737 : decode cL_law 737 = .ok (.aload_n 2, 1) := by decide +kernel
theorem dL_law_738 : decode cL_law 738 = .ok (.aload_n 0, 1) := by decide +kernel
theorem dL_law_739 : decode cL_law 739 = .ok (.iload 4, 2) := by decide +kernel
theorem dL_law_741 : decode cL_law 741 = .ok (.iconst 1, 1) := by decide +kernel
theorem dL_law_742 : decode cL_law 742 = .ok (.iadd, 1) := by decide +kernel
theorem dL_law_743 : decode cL_law 743 = .ok (.iaload, 1) := by decide +kernel
theorem dL_law_744 : decode cL_law 744 = .ok (.aload_n 0, 1) := by decide +kernel
theorem dL_law_745 : decode cL_law 745 = .ok (.iload 4, 2) := by decide +kernel
theorem dL_law_747 : decode cL_law 747 = .ok (.iconst 2, 1) := by decide +kernel
theorem dL_law_748 : decode cL_law 748 = .ok (.iadd, 1) := by decide +kernel
theorem dL_law_749 : decode cL_law 749 = .ok (.iaload, 1) := by decide +kernel
theorem dL_law_750 : decode cL_law 750 = .ok (.aload_n 0, 1) := by decide +kernel
theorem dL_law_751 : decode cL_law 751 = .ok (.iload 4, 2) := by decide +kernel
theorem dL_law_753 : decode cL_law 753 = .ok (.iconst 3, 1) := by decide +kernel
theorem dL_law_754 : decode cL_law 754 = .ok (.iadd, 1) := by decide +kernel
theorem dL_law_755 : decode cL_law 755 = .ok (.iaload, 1) := by decide +kernel
theorem dL_law_756 : decode cL_law 756 = .ok (.invokevirtual 119, 3) := by decide +kernel
theorem dL_law_759 : decode cL_law 759 = .ok (.istore 6, 2) := by decide +kernel
theorem dL_law_761 : decode cL_law 761 = .ok (.aload_n 2, 1) := by decide +kernel
theorem dL_law_762 : decode cL_law 762 = .ok (.invokevirtual 85, 3) := by decide +kernel
theorem dL_law_765 : decode cL_law 765 = .ok (.iload 5, 2) := by decide +kernel
theorem dL_law_767 : decode cL_law 767 = .ok (.if_icmp .eq 5, 3) := by decide +kernel
theorem dL_law_770 : decode cL_law 770 = .ok (.iconst 0, 1) := by decide +kernel
theorem dL_law_771 : decode cL_law 771 = .ok (.ireturn, 1) := by decide +kernel
theorem dL_law_772 : decode cL_law 772 = .ok (.iload 5, 2) := by decide +kernel
theorem dL_law_774 : decode cL_law 774 = .ok (.ifCond .ne 15, 3) := by decide +kernel
theorem dL_law_777 : decode cL_law 777 = .ok (.aload_n 3, 1) := by decide +kernel
theorem dL_law_778 : decode cL_law 778 = .ok (.iconst 0, 1) := by decide +kernel
theorem dL_law_779 : decode cL_law 779 = .ok (.laload, 1) := by decide +kernel
theorem dL_law_780 : decode cL_law 780 = .ok (.iload 6, 2) := by decide +kernel
theorem dL_law_782 : decode cL_law 782 = .ok (.i2l, 1) := by decide +kernel
theorem dL_law_783 : decode cL_law 783 = .ok (.lcmp, 1) := by decide +kernel
theorem dL_law_784 : decode cL_law 784 = .ok (.ifCond .eq 5, 3) := by decide +kernel
theorem dL_law_787 : decode cL_law 787 = .ok (.iconst 0, 1) := by decide +kernel
theorem dL_law_788 : decode cL_law 788 = .ok (.ireturn, 1) := by decide +kernel
theorem dL_law_789 : decode cL_law 789 = .ok (.goto 518, 3) := by decide +kernel
theorem dL_law_792 : decode cL_law 792 = .ok (.aload_n 1, 1) := by decide +kernel
theorem dL_law_793 : decode cL_law 793 = .ok (.aload_n 0, 1) := by decide +kernel
theorem dL_law_794 : decode cL_law 794 = .ok (.iload 4, 2) := by decide +kernel
theorem dL_law_796 : decode cL_law 796 = .ok (.iconst 1, 1) := by decide +kernel
theorem dL_law_797 : decode cL_law 797 = .ok (.iadd, 1) := by decide +kernel
theorem dL_law_798 : decode cL_law 798 = .ok (.iaload, 1) := by decide +kernel
theorem dL_law_799 : decode cL_law 799 = .ok (.aload_n 0, 1) := by decide +kernel
theorem dL_law_800 : decode cL_law 800 = .ok (.iload 4, 2) := by decide +kernel
theorem dL_law_802 : decode cL_law 802 = .ok (.iconst 2, 1) := by decide +kernel
theorem dL_law_803 : decode cL_law 803 = .ok (.iadd, 1) := by decide +kernel
theorem dL_law_804 : decode cL_law 804 = .ok (.iaload, 1) := by decide +kernel
theorem dL_law_805 : decode cL_law 805 = .ok (.aload_n 3, 1) := by decide +kernel
theorem dL_law_806 : decode cL_law 806 = .ok (.invokestatic 120, 3) := by decide +kernel
theorem dL_law_809 : decode cL_law 809 = .ok (.istore 5, 2) := by decide +kernel
theorem dL_law_811 : decode cL_law 811 = .ok (.aload_n 2, 1) := by decide +kernel
theorem dL_law_812 : decode cL_law 812 = .ok (.aload_n 0, 1) := by decide +kernel
theorem dL_law_813 : decode cL_law 813 = .ok (.iload 4, 2) := by decide +kernel
theorem dL_law_815 : decode cL_law 815 = .ok (.iconst 1, 1) := by decide +kernel
theorem dL_law_816 : decode cL_law 816 = .ok (.iadd, 1) := by decide +kernel
theorem dL_law_817 : decode cL_law 817 = .ok (.iaload, 1) := by decide +kernel
theorem dL_law_818 : decode cL_law 818 = .ok (.aload_n 0, 1) := by decide +kernel
theorem dL_law_819 : decode cL_law 819 = .ok (.iload 4, 2) := by decide +kernel
theorem dL_law_821 : decode cL_law 821 = .ok (.iconst 2, 1) := by decide +kernel
theorem dL_law_822 : decode cL_law 822 = .ok (.iadd, 1) := by decide +kernel
theorem dL_law_823 : decode cL_law 823 = .ok (.iaload, 1) := by decide +kernel
theorem dL_law_824 : decode cL_law 824 = .ok (.invokevirtual 122, 3) := by decide +kernel
theorem dL_law_827 : decode cL_law 827 = .ok (.istore 6, 2) := by decide +kernel
theorem dL_law_829 : decode cL_law 829 = .ok (.aload_n 2, 1) := by decide +kernel
theorem dL_law_830 : decode cL_law 830 = .ok (.invokevirtual 85, 3) := by decide +kernel
theorem dL_law_833 : decode cL_law 833 = .ok (.iload 5, 2) := by decide +kernel
theorem dL_law_835 : decode cL_law 835 = .ok (.if_icmp .eq 5, 3) := by decide +kernel
theorem dL_law_838 : decode cL_law 838 = .ok (.iconst 0, 1) := by decide +kernel
theorem dL_law_839 : decode cL_law 839 = .ok (.ireturn, 1) := by decide +kernel
theorem dL_law_840 : decode cL_law 840 = .ok (.iload 5, 2) := by decide +kernel
theorem dL_law_842 : decode cL_law 842 = .ok (.ifCond .ne 15, 3) := by decide +kernel
theorem dL_law_845 : decode cL_law 845 = .ok (.aload_n 3, 1) := by decide +kernel
theorem dL_law_846 : decode cL_law 846 = .ok (.iconst 0, 1) := by decide +kernel
theorem dL_law_847 : decode cL_law 847 = .ok (.laload, 1) := by decide +kernel
theorem dL_law_848 : decode cL_law 848 = .ok (.iload 6, 2) := by decide +kernel
theorem dL_law_850 : decode cL_law 850 = .ok (.i2l, 1) := by decide +kernel
theorem dL_law_851 : decode cL_law 851 = .ok (.lcmp, 1) := by decide +kernel
theorem dL_law_852 : decode cL_law 852 = .ok (.ifCond .eq 5, 3) := by decide +kernel
theorem dL_law_855 : decode cL_law 855 = .ok (.iconst 0, 1) := by decide +kernel
theorem dL_law_856 : decode cL_law 856 = .ok (.ireturn, 1) := by decide +kernel
theorem dL_law_857 : decode cL_law 857 = .ok (.goto 450, 3) := by decide +kernel
theorem dL_law_860 : decode cL_law 860 = .ok (.aload_n 1, 1) := by decide +kernel
theorem dL_law_861 : decode cL_law 861 = .ok (.aload_n 0, 1) := by decide +kernel
theorem dL_law_862 : decode cL_law 862 = .ok (.iload 4, 2) := by decide +kernel
theorem dL_law_864 : decode cL_law 864 = .ok (.iconst 1, 1) := by decide +kernel
theorem dL_law_865 : decode cL_law 865 = .ok (.iadd, 1) := by decide +kernel
theorem dL_law_866 : decode cL_law 866 = .ok (.iaload, 1) := by decide +kernel
theorem dL_law_867 : decode cL_law 867 = .ok (.aload_n 3, 1) := by decide +kernel
theorem dL_law_868 : decode cL_law 868 = .ok (.invokestatic 123, 3) := by decide +kernel
theorem dL_law_871 : decode cL_law 871 = .ok (.istore 5, 2) := by decide +kernel
theorem dL_law_873 : decode cL_law 873 = .ok (.aload_n 2, 1) := by decide +kernel
theorem dL_law_874 : decode cL_law 874 = .ok (.aload_n 0, 1) := by decide +kernel
theorem dL_law_875 : decode cL_law 875 = .ok (.iload 4, 2) := by decide +kernel
theorem dL_law_877 : decode cL_law 877 = .ok (.iconst 1, 1) := by decide +kernel
theorem dL_law_878 : decode cL_law 878 = .ok (.iadd, 1) := by decide +kernel
theorem dL_law_879 : decode cL_law 879 = .ok (.iaload, 1) := by decide +kernel
theorem dL_law_880 : decode cL_law 880 = .ok (.invokevirtual 125, 3) := by decide +kernel
theorem dL_law_883 : decode cL_law 883 = .ok (.istore 6, 2) := by decide +kernel
theorem dL_law_885 : decode cL_law 885 = .ok (.aload_n 2, 1) := by decide +kernel
theorem dL_law_886 : decode cL_law 886 = .ok (.invokevirtual 85, 3) := by decide +kernel
theorem dL_law_889 : decode cL_law 889 = .ok (.iload 5, 2) := by decide +kernel
theorem dL_law_891 : decode cL_law 891 = .ok (.if_icmp .eq 5, 3) := by decide +kernel
theorem dL_law_894 : decode cL_law 894 = .ok (.iconst 0, 1) := by decide +kernel
theorem dL_law_895 : decode cL_law 895 = .ok (.ireturn, 1) := by decide +kernel
theorem dL_law_896 : decode cL_law 896 = .ok (.iload 5, 2) := by decide +kernel
theorem dL_law_898 : decode cL_law 898 = .ok (.ifCond .ne 15, 3) := by decide +kernel
theorem dL_law_901 : decode cL_law 901 = .ok (.aload_n 3, 1) := by decide +kernel
theorem dL_law_902 : decode cL_law 902 = .ok (.iconst 0, 1) := by decide +kernel
theorem dL_law_903 : decode cL_law 903 = .ok (.laload, 1) := by decide +kernel
theorem dL_law_904 : decode cL_law 904 = .ok (.iload 6, 2) := by decide +kernel
theorem dL_law_906 : decode cL_law 906 = .ok (.i2l, 1) := by decide +kernel
theorem dL_law_907 : decode cL_law 907 = .ok (.lcmp, 1) := by decide +kernel
theorem dL_law_908 : decode cL_law 908 = .ok (.ifCond .eq 5, 3) := by decide +kernel
theorem dL_law_911 : decode cL_law 911 = .ok (.iconst 0, 1) := by decide +kernel
theorem dL_law_912 : decode cL_law 912 = .ok (.ireturn, 1) := by decide +kernel
theorem dL_law_913 : decode cL_law 913 = .ok (.goto 394, 3) := by decide +kernel
theorem dL_law_916 : decode cL_law 916 = .ok (.aload_n 1, 1) := by decide +kernel
theorem dL_law_917 : decode cL_law 917 = .ok (.aload_n 0, 1) := by decide +kernel
theorem dL_law_918 : decode cL_law 918 = .ok (.iload 4, 2) := by decide +kernel
theorem dL_law_920 : decode cL_law 920 = .ok (.iconst 1, 1) := by decide +kernel
theorem dL_law_921 : decode cL_law 921 = .ok (.iadd, 1) := by decide +kernel
theorem dL_law_922 : decode cL_law 922 = .ok (.iaload, 1) := by decide +kernel
theorem dL_law_923 : decode cL_law 923 = .ok (.aload_n 3, 1) := by decide +kernel
theorem dL_law_924 : decode cL_law 924 = .ok (.invokestatic 126, 3) := by decide +kernel
theorem dL_law_927 : decode cL_law 927 = .ok (.istore 5, 2) := by decide +kernel
theorem dL_law_929 : decode cL_law 929 = .ok (.aload_n 2, 1) := by decide +kernel
theorem dL_law_930 : decode cL_law 930 = .ok (.aload_n 0, 1) := by decide +kernel
theorem dL_law_931 : decode cL_law 931 = .ok (.iload 4, 2) := by decide +kernel
theorem dL_law_933 : decode cL_law 933 = .ok (.iconst 1, 1) := by decide +kernel
theorem dL_law_934 : decode cL_law 934 = .ok (.iadd, 1) := by decide +kernel
theorem dL_law_935 : decode cL_law 935 = .ok (.iaload, 1) := by decide +kernel
theorem dL_law_936 : decode cL_law 936 = .ok (.invokevirtual 128, 3) := by decide +kernel
theorem dL_law_939 : decode cL_law 939 = .ok (.istore 6, 2) := by decide +kernel
theorem dL_law_941 : decode cL_law 941 = .ok (.aload_n 2, 1) := by decide +kernel
theorem dL_law_942 : decode cL_law 942 = .ok (.invokevirtual 85, 3) := by decide +kernel
theorem dL_law_945 : decode cL_law 945 = .ok (.iload 5, 2) := by decide +kernel
theorem dL_law_947 : decode cL_law 947 = .ok (.if_icmp .eq 5, 3) := by decide +kernel
theorem dL_law_950 : decode cL_law 950 = .ok (.iconst 0, 1) := by decide +kernel
theorem dL_law_951 : decode cL_law 951 = .ok (.ireturn, 1) := by decide +kernel
theorem dL_law_952 : decode cL_law 952 = .ok (.iload 5, 2) := by decide +kernel
theorem dL_law_954 : decode cL_law 954 = .ok (.ifCond .ne 15, 3) := by decide +kernel
theorem dL_law_957 : decode cL_law 957 = .ok (.aload_n 3, 1) := by decide +kernel
theorem dL_law_958 : decode cL_law 958 = .ok (.iconst 0, 1) := by decide +kernel
theorem dL_law_959 : decode cL_law 959 = .ok (.laload, 1) := by decide +kernel
theorem dL_law_960 : decode cL_law 960 = .ok (.iload 6, 2) := by decide +kernel
theorem dL_law_962 : decode cL_law 962 = .ok (.i2l, 1) := by decide +kernel
theorem dL_law_963 : decode cL_law 963 = .ok (.lcmp, 1) := by decide +kernel
theorem dL_law_964 : decode cL_law 964 = .ok (.ifCond .eq 5, 3) := by decide +kernel
theorem dL_law_967 : decode cL_law 967 = .ok (.iconst 0, 1) := by decide +kernel
theorem dL_law_968 : decode cL_law 968 = .ok (.ireturn, 1) := by decide +kernel
theorem dL_law_969 : decode cL_law 969 = .ok (.goto 338, 3) := by decide +kernel
theorem dL_law_972 : decode cL_law 972 = .ok (.aload_n 1, 1) := by decide +kernel
theorem dL_law_973 : decode cL_law 973 = .ok (.aload_n 0, 1) := by decide +kernel
theorem dL_law_974 : decode cL_law 974 = .ok (.iload 4, 2) := by decide +kernel
theorem dL_law_976 : decode cL_law 976 = .ok (.iconst 1, 1) := by decide +kernel
theorem dL_law_977 : decode cL_law 977 = .ok (.iadd, 1) := by decide +kernel
theorem dL_law_978 : decode cL_law 978 = .ok (.iaload, 1) := by decide +kernel
theorem dL_law_979 : decode cL_law 979 = .ok (.aload_n 0, 1) := by decide +kernel
theorem dL_law_980 : decode cL_law 980 = .ok (.iload 4, 2) := by decide +kernel
theorem dL_law_982 : decode cL_law 982 = .ok (.iconst 2, 1) := by decide +kernel
theorem dL_law_983 : decode cL_law 983 = .ok (.iadd, 1) := by decide +kernel
theorem dL_law_984 : decode cL_law 984 = .ok (.iaload, 1) := by decide +kernel
theorem dL_law_985 : decode cL_law 985 = .ok (.aload_n 3, 1) := by decide +kernel
theorem dL_law_986 : decode cL_law 986 = .ok (.invokestatic 129, 3) := by decide +kernel
theorem dL_law_989 : decode cL_law 989 = .ok (.istore 5, 2) := by decide +kernel
theorem dL_law_991 : decode cL_law 991 = .ok (.aload_n 2, 1) := by decide +kernel
theorem dL_law_992 : decode cL_law 992 = .ok (.aload_n 0, 1) := by decide +kernel
theorem dL_law_993 : decode cL_law 993 = .ok (.iload 4, 2) := by decide +kernel
theorem dL_law_995 : decode cL_law 995 = .ok (.iconst 1, 1) := by decide +kernel
theorem dL_law_996 : decode cL_law 996 = .ok (.iadd, 1) := by decide +kernel
theorem dL_law_997 : decode cL_law 997 = .ok (.iaload, 1) := by decide +kernel
theorem dL_law_998 : decode cL_law 998 = .ok (.aload_n 0, 1) := by decide +kernel
theorem dL_law_999 : decode cL_law 999 = .ok (.iload 4, 2) := by decide +kernel
theorem dL_law_1001 : decode cL_law 1001 = .ok (.iconst 2, 1) := by decide +kernel
theorem dL_law_1002 : decode cL_law 1002 = .ok (.iadd, 1) := by decide +kernel
theorem dL_law_1003 : decode cL_law 1003 = .ok (.iaload, 1) := by decide +kernel
theorem dL_law_1004 : decode cL_law 1004 = .ok (.invokevirtual 131, 3) := by decide +kernel
theorem dL_law_1007 : decode cL_law 1007 = .ok (.istore 6, 2) := by decide +kernel
theorem dL_law_1009 : decode cL_law 1009 = .ok (.aload_n 2, 1) := by decide +kernel
theorem dL_law_1010 : decode cL_law 1010 = .ok (.invokevirtual 85, 3) := by decide +kernel
theorem dL_law_1013 : decode cL_law 1013 = .ok (.iload 5, 2) := by decide +kernel
theorem dL_law_1015 : decode cL_law 1015 = .ok (.if_icmp .eq 5, 3) := by decide +kernel
theorem dL_law_1018 : decode cL_law 1018 = .ok (.iconst 0, 1) := by decide +kernel
theorem dL_law_1019 : decode cL_law 1019 = .ok (.ireturn, 1) := by decide +kernel
theorem dL_law_1020 : decode cL_law 1020 = .ok (.iload 5, 2) := by decide +kernel
theorem dL_law_1022 : decode cL_law 1022 = .ok (.ifCond .ne 15, 3) := by decide +kernel
theorem dL_law_1025 : decode cL_law 1025 = .ok (.aload_n 3, 1) := by decide +kernel
theorem dL_law_1026 : decode cL_law 1026 = .ok (.iconst 0, 1) := by decide +kernel
theorem dL_law_1027 : decode cL_law 1027 = .ok (.laload, 1) := by decide +kernel
theorem dL_law_1028 : decode cL_law 1028 = .ok (.iload 6, 2) := by decide +kernel
theorem dL_law_1030 : decode cL_law 1030 = .ok (.i2l, 1) := by decide +kernel
theorem dL_law_1031 : decode cL_law 1031 = .ok (.lcmp, 1) := by decide +kernel
theorem dL_law_1032 : decode cL_law 1032 = .ok (.ifCond .eq 5, 3) := by decide +kernel
theorem dL_law_1035 : decode cL_law 1035 = .ok (.iconst 0, 1) := by decide +kernel
theorem dL_law_1036 : decode cL_law 1036 = .ok (.ireturn, 1) := by decide +kernel
theorem dL_law_1037 : decode cL_law 1037 = .ok (.goto 270, 3) := by decide +kernel
theorem dL_law_1040 : decode cL_law 1040 = .ok (.aload_n 1, 1) := by decide +kernel
theorem dL_law_1041 : decode cL_law 1041 = .ok (.aload_n 0, 1) := by decide +kernel
theorem dL_law_1042 : decode cL_law 1042 = .ok (.iload 4, 2) := by decide +kernel
theorem dL_law_1044 : decode cL_law 1044 = .ok (.iconst 1, 1) := by decide +kernel
theorem dL_law_1045 : decode cL_law 1045 = .ok (.iadd, 1) := by decide +kernel
theorem dL_law_1046 : decode cL_law 1046 = .ok (.iaload, 1) := by decide +kernel
theorem dL_law_1047 : decode cL_law 1047 = .ok (.aload_n 0, 1) := by decide +kernel
theorem dL_law_1048 : decode cL_law 1048 = .ok (.iload 4, 2) := by decide +kernel
theorem dL_law_1050 : decode cL_law 1050 = .ok (.iconst 2, 1) := by decide +kernel
theorem dL_law_1051 : decode cL_law 1051 = .ok (.iadd, 1) := by decide +kernel
theorem dL_law_1052 : decode cL_law 1052 = .ok (.iaload, 1) := by decide +kernel
theorem dL_law_1053 : decode cL_law 1053 = .ok (.aload_n 3, 1) := by decide +kernel
theorem dL_law_1054 : decode cL_law 1054 = .ok (.invokestatic 132, 3) := by decide +kernel
theorem dL_law_1057 : decode cL_law 1057 = .ok (.istore 5, 2) := by decide +kernel
theorem dL_law_1059 : decode cL_law 1059 = .ok (.aload_n 2, 1) := by decide +kernel
theorem dL_law_1060 : decode cL_law 1060 = .ok (.aload_n 0, 1) := by decide +kernel
theorem dL_law_1061 : decode cL_law 1061 = .ok (.iload 4, 2) := by decide +kernel
theorem dL_law_1063 : decode cL_law 1063 = .ok (.iconst 1, 1) := by decide +kernel
theorem dL_law_1064 : decode cL_law 1064 = .ok (.iadd, 1) := by decide +kernel
theorem dL_law_1065 : decode cL_law 1065 = .ok (.iaload, 1) := by decide +kernel
theorem dL_law_1066 : decode cL_law 1066 = .ok (.aload_n 0, 1) := by decide +kernel
theorem dL_law_1067 : decode cL_law 1067 = .ok (.iload 4, 2) := by decide +kernel
theorem dL_law_1069 : decode cL_law 1069 = .ok (.iconst 2, 1) := by decide +kernel
theorem dL_law_1070 : decode cL_law 1070 = .ok (.iadd, 1) := by decide +kernel
theorem dL_law_1071 : decode cL_law 1071 = .ok (.iaload, 1) := by decide +kernel
theorem dL_law_1072 : decode cL_law 1072 = .ok (.invokevirtual 134, 3) := by decide +kernel
theorem dL_law_1075 : decode cL_law 1075 = .ok (.istore 6, 2) := by decide +kernel
theorem dL_law_1077 : decode cL_law 1077 = .ok (.aload_n 2, 1) := by decide +kernel
theorem dL_law_1078 : decode cL_law 1078 = .ok (.invokevirtual 85, 3) := by decide +kernel
theorem dL_law_1081 : decode cL_law 1081 = .ok (.iload 5, 2) := by decide +kernel
theorem dL_law_1083 : decode cL_law 1083 = .ok (.if_icmp .eq 5, 3) := by decide +kernel
theorem dL_law_1086 : decode cL_law 1086 = .ok (.iconst 0, 1) := by decide +kernel
theorem dL_law_1087 : decode cL_law 1087 = .ok (.ireturn, 1) := by decide +kernel
theorem dL_law_1088 : decode cL_law 1088 = .ok (.iload 5, 2) := by decide +kernel
theorem dL_law_1090 : decode cL_law 1090 = .ok (.ifCond .ne 15, 3) := by decide +kernel
theorem dL_law_1093 : decode cL_law 1093 = .ok (.aload_n 3, 1) := by decide +kernel
theorem dL_law_1094 : decode cL_law 1094 = .ok (.iconst 0, 1) := by decide +kernel
theorem dL_law_1095 : decode cL_law 1095 = .ok (.laload, 1) := by decide +kernel
theorem dL_law_1096 : decode cL_law 1096 = .ok (.iload 6, 2) := by decide +kernel
theorem dL_law_1098 : decode cL_law 1098 = .ok (.i2l, 1) := by decide +kernel
theorem dL_law_1099 : decode cL_law 1099 = .ok (.lcmp, 1) := by decide +kernel
theorem dL_law_1100 : decode cL_law 1100 = .ok (.ifCond .eq 5, 3) := by decide +kernel
theorem dL_law_1103 : decode cL_law 1103 = .ok (.iconst 0, 1) := by decide +kernel
theorem dL_law_1104 : decode cL_law 1104 = .ok (.ireturn, 1) := by decide +kernel
theorem dL_law_1105 : decode cL_law 1105 = .ok (.goto 202, 3) := by decide +kernel
theorem dL_law_1108 : decode cL_law 1108 = .ok (.aload_n 1, 1) := by decide +kernel
theorem dL_law_1109 : decode cL_law 1109 = .ok (.aload_n 0, 1) := by decide +kernel
theorem dL_law_1110 : decode cL_law 1110 = .ok (.iload 4, 2) := by decide +kernel
theorem dL_law_1112 : decode cL_law 1112 = .ok (.iconst 1, 1) := by decide +kernel
theorem dL_law_1113 : decode cL_law 1113 = .ok (.iadd, 1) := by decide +kernel
theorem dL_law_1114 : decode cL_law 1114 = .ok (.iaload, 1) := by decide +kernel
theorem dL_law_1115 : decode cL_law 1115 = .ok (.aload_n 0, 1) := by decide +kernel
theorem dL_law_1116 : decode cL_law 1116 = .ok (.iload 4, 2) := by decide +kernel
theorem dL_law_1118 : decode cL_law 1118 = .ok (.iconst 2, 1) := by decide +kernel
theorem dL_law_1119 : decode cL_law 1119 = .ok (.iadd, 1) := by decide +kernel
theorem dL_law_1120 : decode cL_law 1120 = .ok (.iaload, 1) := by decide +kernel
theorem dL_law_1121 : decode cL_law 1121 = .ok (.aload_n 3, 1) := by decide +kernel
theorem dL_law_1122 : decode cL_law 1122 = .ok (.invokestatic 135, 3) := by decide +kernel
theorem dL_law_1125 : decode cL_law 1125 = .ok (.istore 5, 2) := by decide +kernel
theorem dL_law_1127 : decode cL_law 1127 = .ok (.aload_n 2, 1) := by decide +kernel
theorem dL_law_1128 : decode cL_law 1128 = .ok (.aload_n 0, 1) := by decide +kernel
theorem dL_law_1129 : decode cL_law 1129 = .ok (.iload 4, 2) := by decide +kernel
theorem dL_law_1131 : decode cL_law 1131 = .ok (.iconst 1, 1) := by decide +kernel
theorem dL_law_1132 : decode cL_law 1132 = .ok (.iadd, 1) := by decide +kernel
theorem dL_law_1133 : decode cL_law 1133 = .ok (.iaload, 1) := by decide +kernel
theorem dL_law_1134 : decode cL_law 1134 = .ok (.aload_n 0, 1) := by decide +kernel
theorem dL_law_1135 : decode cL_law 1135 = .ok (.iload 4, 2) := by decide +kernel
theorem dL_law_1137 : decode cL_law 1137 = .ok (.iconst 2, 1) := by decide +kernel
theorem dL_law_1138 : decode cL_law 1138 = .ok (.iadd, 1) := by decide +kernel
theorem dL_law_1139 : decode cL_law 1139 = .ok (.iaload, 1) := by decide +kernel
theorem dL_law_1140 : decode cL_law 1140 = .ok (.invokevirtual 137, 3) := by decide +kernel
theorem dL_law_1143 : decode cL_law 1143 = .ok (.istore 6, 2) := by decide +kernel
theorem dL_law_1145 : decode cL_law 1145 = .ok (.aload_n 2, 1) := by decide +kernel
theorem dL_law_1146 : decode cL_law 1146 = .ok (.invokevirtual 85, 3) := by decide +kernel
theorem dL_law_1149 : decode cL_law 1149 = .ok (.iload 5, 2) := by decide +kernel
theorem dL_law_1151 : decode cL_law 1151 = .ok (.if_icmp .eq 5, 3) := by decide +kernel
theorem dL_law_1154 : decode cL_law 1154 = .ok (.iconst 0, 1) := by decide +kernel
theorem dL_law_1155 : decode cL_law 1155 = .ok (.ireturn, 1) := by decide +kernel
theorem dL_law_1156 : decode cL_law 1156 = .ok (.iload 5, 2) := by decide +kernel
theorem dL_law_1158 : decode cL_law 1158 = .ok (.ifCond .ne 15, 3) := by decide +kernel
theorem dL_law_1161 : decode cL_law 1161 = .ok (.aload_n 3, 1) := by decide +kernel
theorem dL_law_1162 : decode cL_law 1162 = .ok (.iconst 0, 1) := by decide +kernel
theorem dL_law_1163 : decode cL_law 1163 = .ok (.laload, 1) := by decide +kernel
theorem dL_law_1164 : decode cL_law 1164 = .ok (.iload 6, 2) := by decide +kernel
theorem dL_law_1166 : decode cL_law 1166 = .ok (.i2l, 1) := by decide +kernel
theorem dL_law_1167 : decode cL_law 1167 = .ok (.lcmp, 1) := by decide +kernel
theorem dL_law_1168 : decode cL_law 1168 = .ok (.ifCond .eq 5, 3) := by decide +kernel
theorem dL_law_1171 : decode cL_law 1171 = .ok (.iconst 0, 1) := by decide +kernel
theorem dL_law_1172 : decode cL_law 1172 = .ok (.ireturn, 1) := by decide +kernel
theorem dL_law_1173 : decode cL_law 1173 = .ok (.goto 134, 3) := by decide +kernel
theorem dL_law_1176 : decode cL_law 1176 = .ok (.aload_n 1, 1) := by decide +kernel
theorem dL_law_1177 : decode cL_law 1177 = .ok (.aload_n 0, 1) := by decide +kernel
theorem dL_law_1178 : decode cL_law 1178 = .ok (.iload 4, 2) := by decide +kernel
theorem dL_law_1180 : decode cL_law 1180 = .ok (.iconst 1, 1) := by decide +kernel
theorem dL_law_1181 : decode cL_law 1181 = .ok (.iadd, 1) := by decide +kernel
theorem dL_law_1182 : decode cL_law 1182 = .ok (.iaload, 1) := by decide +kernel
theorem dL_law_1183 : decode cL_law 1183 = .ok (.aload_n 3, 1) := by decide +kernel
theorem dL_law_1184 : decode cL_law 1184 = .ok (.invokestatic 138, 3) := by decide +kernel
theorem dL_law_1187 : decode cL_law 1187 = .ok (.istore 5, 2) := by decide +kernel
theorem dL_law_1189 : decode cL_law 1189 = .ok (.aload_n 2, 1) := by decide +kernel
theorem dL_law_1190 : decode cL_law 1190 = .ok (.aload_n 0, 1) := by decide +kernel
theorem dL_law_1191 : decode cL_law 1191 = .ok (.iload 4, 2) := by decide +kernel
theorem dL_law_1193 : decode cL_law 1193 = .ok (.iconst 1, 1) := by decide +kernel
theorem dL_law_1194 : decode cL_law 1194 = .ok (.iadd, 1) := by decide +kernel
theorem dL_law_1195 : decode cL_law 1195 = .ok (.iaload, 1) := by decide +kernel
theorem dL_law_1196 : decode cL_law 1196 = .ok (.invokevirtual 140, 3) := by decide +kernel
theorem dL_law_1199 : decode cL_law 1199 = .ok (.istore 6, 2) := by decide +kernel
theorem dL_law_1201 : decode cL_law 1201 = .ok (.aload_n 2, 1) := by decide +kernel
theorem dL_law_1202 : decode cL_law 1202 = .ok (.invokevirtual 85, 3) := by decide +kernel
theorem dL_law_1205 : decode cL_law 1205 = .ok (.iload 5, 2) := by decide +kernel
theorem dL_law_1207 : decode cL_law 1207 = .ok (.if_icmp .eq 5, 3) := by decide +kernel
theorem dL_law_1210 : decode cL_law 1210 = .ok (.iconst 0, 1) := by decide +kernel
theorem dL_law_1211 : decode cL_law 1211 = .ok (.ireturn, 1) := by decide +kernel
theorem dL_law_1212 : decode cL_law 1212 = .ok (.iload 5, 2) := by decide +kernel
theorem dL_law_1214 : decode cL_law 1214 = .ok (.ifCond .ne 22, 3) := by decide +kernel
theorem dL_law_1217 : decode cL_law 1217 = .ok (.aload_n 3, 1) := by decide +kernel
theorem dL_law_1218 : decode cL_law 1218 = .ok (.iconst 0, 1) := by decide +kernel
theorem dL_law_1219 : decode cL_law 1219 = .ok (.laload, 1) := by decide +kernel
theorem dL_law_1220 : decode cL_law 1220 = .ok (.iload 6, 2) := by decide +kernel
theorem dL_law_1222 : decode cL_law 1222 = .ok (.ifCond .eq 7, 3) := by decide +kernel
theorem dL_law_1225 : decode cL_law 1225 = .ok (.lconst 1, 1) := by decide +kernel
theorem dL_law_1226 : decode cL_law 1226 = .ok (.goto 4, 3) := by decide +kernel
theorem dL_law_1229 : decode cL_law 1229 = .ok (.lconst 0, 1) := by decide +kernel
theorem dL_law_1230 : decode cL_law 1230 = .ok (.lcmp, 1) := by decide +kernel
theorem dL_law_1231 : decode cL_law 1231 = .ok (.ifCond .eq 5, 3) := by decide +kernel
theorem dL_law_1234 : decode cL_law 1234 = .ok (.iconst 0, 1) := by decide +kernel
theorem dL_law_1235 : decode cL_law 1235 = .ok (.ireturn, 1) := by decide +kernel
theorem dL_law_1236 : decode cL_law 1236 = .ok (.goto 71, 3) := by decide +kernel
theorem dL_law_1239 : decode cL_law 1239 = .ok (.aload_n 1, 1) := by decide +kernel
theorem dL_law_1240 : decode cL_law 1240 = .ok (.aload_n 0, 1) := by decide +kernel
theorem dL_law_1241 : decode cL_law 1241 = .ok (.iload 4, 2) := by decide +kernel
theorem dL_law_1243 : decode cL_law 1243 = .ok (.iconst 1, 1) := by decide +kernel
theorem dL_law_1244 : decode cL_law 1244 = .ok (.iadd, 1) := by decide +kernel
theorem dL_law_1245 : decode cL_law 1245 = .ok (.iaload, 1) := by decide +kernel
theorem dL_law_1246 : decode cL_law 1246 = .ok (.aload_n 0, 1) := by decide +kernel
theorem dL_law_1247 : decode cL_law 1247 = .ok (.iload 4, 2) := by decide +kernel
theorem dL_law_1249 : decode cL_law 1249 = .ok (.iconst 2, 1) := by decide +kernel
theorem dL_law_1250 : decode cL_law 1250 = .ok (.iadd, 1) := by decide +kernel
theorem dL_law_1251 : decode cL_law 1251 = .ok (.iaload, 1) := by decide +kernel
theorem dL_law_1252 : decode cL_law 1252 = .ok (.aload_n 3, 1) := by decide +kernel
theorem dL_law_1253 : decode cL_law 1253 = .ok (.invokestatic 141, 3) := by decide +kernel
theorem dL_law_1256 : decode cL_law 1256 = .ok (.istore 5, 2) := by decide +kernel
theorem dL_law_1258 : decode cL_law 1258 = .ok (.aload_n 2, 1) := by decide +kernel
theorem dL_law_1259 : decode cL_law 1259 = .ok (.aload_n 0, 1) := by decide +kernel
theorem dL_law_1260 : decode cL_law 1260 = .ok (.iload 4, 2) := by decide +kernel
theorem dL_law_1262 : decode cL_law 1262 = .ok (.iconst 1, 1) := by decide +kernel
theorem dL_law_1263 : decode cL_law 1263 = .ok (.iadd, 1) := by decide +kernel
theorem dL_law_1264 : decode cL_law 1264 = .ok (.iaload, 1) := by decide +kernel
theorem dL_law_1265 : decode cL_law 1265 = .ok (.aload_n 0, 1) := by decide +kernel
theorem dL_law_1266 : decode cL_law 1266 = .ok (.iload 4, 2) := by decide +kernel
theorem dL_law_1268 : decode cL_law 1268 = .ok (.iconst 2, 1) := by decide +kernel
theorem dL_law_1269 : decode cL_law 1269 = .ok (.iadd, 1) := by decide +kernel
theorem dL_law_1270 : decode cL_law 1270 = .ok (.iaload, 1) := by decide +kernel
theorem dL_law_1271 : decode cL_law 1271 = .ok (.invokevirtual 143, 3) := by decide +kernel
theorem dL_law_1274 : decode cL_law 1274 = .ok (.istore 6, 2) := by decide +kernel
theorem dL_law_1276 : decode cL_law 1276 = .ok (.aload_n 2, 1) := by decide +kernel
theorem dL_law_1277 : decode cL_law 1277 = .ok (.invokevirtual 85, 3) := by decide +kernel
theorem dL_law_1280 : decode cL_law 1280 = .ok (.iload 5, 2) := by decide +kernel
theorem dL_law_1282 : decode cL_law 1282 = .ok (.if_icmp .eq 5, 3) := by decide +kernel
theorem dL_law_1285 : decode cL_law 1285 = .ok (.iconst 0, 1) := by decide +kernel
theorem dL_law_1286 : decode cL_law 1286 = .ok (.ireturn, 1) := by decide +kernel
theorem dL_law_1287 : decode cL_law 1287 = .ok (.iload 5, 2) := by decide +kernel
theorem dL_law_1289 : decode cL_law 1289 = .ok (.ifCond .ne 15, 3) := by decide +kernel
theorem dL_law_1292 : decode cL_law 1292 = .ok (.aload_n 3, 1) := by decide +kernel
theorem dL_law_1293 : decode cL_law 1293 = .ok (.iconst 0, 1) := by decide +kernel
theorem dL_law_1294 : decode cL_law 1294 = .ok (.laload, 1) := by decide +kernel
theorem dL_law_1295 : decode cL_law 1295 = .ok (.iload 6, 2) := by decide +kernel
theorem dL_law_1297 : decode cL_law 1297 = .ok (.i2l, 1) := by decide +kernel
theorem dL_law_1298 : decode cL_law 1298 = .ok (.lcmp, 1) := by decide +kernel
theorem dL_law_1299 : decode cL_law 1299 = .ok (.ifCond .eq 5, 3) := by decide +kernel
theorem dL_law_1302 : decode cL_law 1302 = .ok (.iconst 0, 1) := by decide +kernel
theorem dL_law_1303 : decode cL_law 1303 = .ok (.ireturn, 1) := by decide +kernel
theorem dL_law_1304 : decode cL_law 1304 = .ok (.goto 3, 3) := by decide +kernel
theorem dL_law_1307 : decode cL_law 1307 = .ok (.iinc 4 6, 3) := by decide +kernel
theorem dL_law_1310 : decode cL_law 1310 = .ok (.goto (-1287), 3) := by decide +kernel
theorem dL_law_1313 : decode cL_law 1313 = .ok (.iconst 1, 1) := by decide +kernel
theorem dL_law_1314 : decode cL_law 1314 = .ok (.ireturn, 1) := by decide +kernel
abbrev vwCl : List vw_C := [(RJx4a65c, TJx4a65c, 3), (RX0, TX0, 6), (RX1, TX1, 2), (RX2, TX2, 2), (RX3, TX3, 2), (RX4, TX4, 5), (RX5, TX5, 3), (RX6, TX6, 6), (RX7, TX7, 19)]
end
