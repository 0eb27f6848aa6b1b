section
-- ===== PART A: goes FIRST, ahead of the names: the tables' words, and 'selects' of the private methods out of them =====
/-- a private method of a class that the tables say can be made, by its rows of tables_1 -/
def lw_okq (q : MethodName × Nat) : Prop := (q.1.cls ≠ "java/lang/invoke/MethodHandle" ∧ q.1.cls ≠ "java/lang/invoke/VarHandle") ∧ Cond.instantiable q.1.cls q.2 ∈ tables_1 ∧ Cond.privateMethod q.1 ∈ tables_1 ∧ Cond.instanceMethod q.1 ∈ tables_1
theorem lw_p0 : lw_okq (⟨"java/lang/Throwable", "fillInStackTrace", "(I)Ljava/lang/Throwable;"⟩, 6) := ⟨⟨by decide +kernel, by decide +kernel⟩, List.mem_of_getElem? (i := 158) (by decide +kernel), List.mem_of_getElem? (i := 156) (by decide +kernel), List.mem_of_getElem? (i := 157) (by decide +kernel)⟩
theorem lw_p1 : lw_okq (⟨"java/util/ArrayList", "add", "(Ljava/lang/Object;[Ljava/lang/Object;I)V"⟩, 3) := ⟨⟨by decide +kernel, by decide +kernel⟩, List.mem_of_getElem? (i := 34) (by decide +kernel), List.mem_of_getElem? (i := 227) (by decide +kernel), List.mem_of_getElem? (i := 228) (by decide +kernel)⟩
theorem lw_p2 : lw_okq (⟨"java/util/ArrayList", "grow", "()[Ljava/lang/Object;"⟩, 3) := ⟨⟨by decide +kernel, by decide +kernel⟩, List.mem_of_getElem? (i := 34) (by decide +kernel), List.mem_of_getElem? (i := 231) (by decide +kernel), List.mem_of_getElem? (i := 232) (by decide +kernel)⟩
theorem lw_p3 : lw_okq (⟨"java/util/ArrayList", "grow", "(I)[Ljava/lang/Object;"⟩, 3) := ⟨⟨by decide +kernel, by decide +kernel⟩, List.mem_of_getElem? (i := 34) (by decide +kernel), List.mem_of_getElem? (i := 235) (by decide +kernel), List.mem_of_getElem? (i := 236) (by decide +kernel)⟩
theorem lw_p4 : lw_okq (⟨"Dataroom", "fileAt", "(I)LDataroom$Card;"⟩, 6) := ⟨⟨by decide +kernel, by decide +kernel⟩, List.mem_of_getElem? (i := 26) (by decide +kernel), List.mem_of_getElem? (i := 290) (by decide +kernel), List.mem_of_getElem? (i := 291) (by decide +kernel)⟩
theorem lw_p5 : lw_okq (⟨"Dataroom", "requireFile", "(I)V"⟩, 6) := ⟨⟨by decide +kernel, by decide +kernel⟩, List.mem_of_getElem? (i := 26) (by decide +kernel), List.mem_of_getElem? (i := 294) (by decide +kernel), List.mem_of_getElem? (i := 295) (by decide +kernel)⟩
theorem lw_p6 : lw_okq (⟨"Dataroom", "recall", "(LDataroom$Party;I)I"⟩, 6) := ⟨⟨by decide +kernel, by decide +kernel⟩, List.mem_of_getElem? (i := 26) (by decide +kernel), List.mem_of_getElem? (i := 329) (by decide +kernel), List.mem_of_getElem? (i := 330) (by decide +kernel)⟩
theorem lw_p7 : lw_okq (⟨"Dataroom", "learnAnew", "(LDataroom$Party;)V"⟩, 6) := ⟨⟨by decide +kernel, by decide +kernel⟩, List.mem_of_getElem? (i := 26) (by decide +kernel), List.mem_of_getElem? (i := 341) (by decide +kernel), List.mem_of_getElem? (i := 342) (by decide +kernel)⟩
theorem lw_p8 : lw_okq (⟨"Dataroom", "partyAt", "(I)LDataroom$Party;"⟩, 6) := ⟨⟨by decide +kernel, by decide +kernel⟩, List.mem_of_getElem? (i := 26) (by decide +kernel), List.mem_of_getElem? (i := 410) (by decide +kernel), List.mem_of_getElem? (i := 411) (by decide +kernel)⟩
theorem lw_p9 : lw_okq (⟨"Dataroom", "requireQuestion", "(II)V"⟩, 6) := ⟨⟨by decide +kernel, by decide +kernel⟩, List.mem_of_getElem? (i := 26) (by decide +kernel), List.mem_of_getElem? (i := 475) (by decide +kernel), List.mem_of_getElem? (i := 476) (by decide +kernel)⟩
theorem lw_p10 : lw_okq (⟨"Dataroom", "refusalOf", "(LDataroom$Party;II)I"⟩, 6) := ⟨⟨by decide +kernel, by decide +kernel⟩, List.mem_of_getElem? (i := 26) (by decide +kernel), List.mem_of_getElem? (i := 480) (by decide +kernel), List.mem_of_getElem? (i := 481) (by decide +kernel)⟩
theorem lw_p11 : lw_okq (⟨"Dataroom", "lacksRight", "(LDataroom$Party;I)Z"⟩, 6) := ⟨⟨by decide +kernel, by decide +kernel⟩, List.mem_of_getElem? (i := 26) (by decide +kernel), List.mem_of_getElem? (i := 484) (by decide +kernel), List.mem_of_getElem? (i := 485) (by decide +kernel)⟩
theorem lw_p12 : lw_okq (⟨"Dataroom", "hasSealed", "(I)Z"⟩, 6) := ⟨⟨by decide +kernel, by decide +kernel⟩, List.mem_of_getElem? (i := 26) (by decide +kernel), List.mem_of_getElem? (i := 497) (by decide +kernel), List.mem_of_getElem? (i := 498) (by decide +kernel)⟩
theorem lw_p13 : lw_okq (⟨"Dataroom$Party", "wouldFind", "(III)Z"⟩, 5) := ⟨⟨by decide +kernel, by decide +kernel⟩, List.mem_of_getElem? (i := 372) (by decide +kernel), List.mem_of_getElem? (i := 510) (by decide +kernel), List.mem_of_getElem? (i := 511) (by decide +kernel)⟩
theorem lw_p14 : lw_okq (⟨"Dataroom", "sumOf", "(II)I"⟩, 6) := ⟨⟨by decide +kernel, by decide +kernel⟩, List.mem_of_getElem? (i := 26) (by decide +kernel), List.mem_of_getElem? (i := 535) (by decide +kernel), List.mem_of_getElem? (i := 536) (by decide +kernel)⟩
theorem lw_p15 : lw_okq (⟨"Dataroom", "countKnownSets", "(LDataroom$Party;I)I"⟩, 6) := ⟨⟨by decide +kernel, by decide +kernel⟩, List.mem_of_getElem? (i := 26) (by decide +kernel), List.mem_of_getElem? (i := 599) (by decide +kernel), List.mem_of_getElem? (i := 600) (by decide +kernel)⟩
def lw_privs_1 : List (MethodName × Nat) := [(⟨"java/lang/Throwable", "fillInStackTrace", "(I)Ljava/lang/Throwable;"⟩, 6), (⟨"java/util/ArrayList", "add", "(Ljava/lang/Object;[Ljava/lang/Object;I)V"⟩, 3), (⟨"java/util/ArrayList", "grow", "()[Ljava/lang/Object;"⟩, 3), (⟨"java/util/ArrayList", "grow", "(I)[Ljava/lang/Object;"⟩, 3), (⟨"Dataroom", "fileAt", "(I)LDataroom$Card;"⟩, 6), (⟨"Dataroom", "requireFile", "(I)V"⟩, 6), (⟨"Dataroom", "recall", "(LDataroom$Party;I)I"⟩, 6), (⟨"Dataroom", "learnAnew", "(LDataroom$Party;)V"⟩, 6), (⟨"Dataroom", "partyAt", "(I)LDataroom$Party;"⟩, 6), (⟨"Dataroom", "requireQuestion", "(II)V"⟩, 6), (⟨"Dataroom", "refusalOf", "(LDataroom$Party;II)I"⟩, 6), (⟨"Dataroom", "lacksRight", "(LDataroom$Party;I)Z"⟩, 6), (⟨"Dataroom", "hasSealed", "(I)Z"⟩, 6), (⟨"Dataroom$Party", "wouldFind", "(III)Z"⟩, 5), (⟨"Dataroom", "sumOf", "(II)I"⟩, 6), (⟨"Dataroom", "countKnownSets", "(LDataroom$Party;I)I"⟩, 6)]
theorem lw_r1 : ∀ q ∈ lw_privs_1, lw_okq q := List.forall_mem_cons.mpr ⟨lw_p0, List.forall_mem_cons.mpr ⟨lw_p1, List.forall_mem_cons.mpr ⟨lw_p2, List.forall_mem_cons.mpr ⟨lw_p3, List.forall_mem_cons.mpr ⟨lw_p4, List.forall_mem_cons.mpr ⟨lw_p5, List.forall_mem_cons.mpr ⟨lw_p6, List.forall_mem_cons.mpr ⟨lw_p7, List.forall_mem_cons.mpr ⟨lw_p8, List.forall_mem_cons.mpr ⟨lw_p9, List.forall_mem_cons.mpr ⟨lw_p10, List.forall_mem_cons.mpr ⟨lw_p11, List.forall_mem_cons.mpr ⟨lw_p12, List.forall_mem_cons.mpr ⟨lw_p13, List.forall_mem_cons.mpr ⟨lw_p14, List.forall_mem_cons.mpr ⟨lw_p15, fun _ h => absurd h List.not_mem_nil⟩⟩⟩⟩⟩⟩⟩⟩⟩⟩⟩⟩⟩⟩⟩⟩
theorem lw_p16 : lw_okq (⟨"Dataroom$Marks", "isMarked", "(I)Z"⟩, 2) := ⟨⟨by decide +kernel, by decide +kernel⟩, List.mem_of_getElem? (i := 75) (by decide +kernel), List.mem_of_getElem? (i := 614) (by decide +kernel), List.mem_of_getElem? (i := 615) (by decide +kernel)⟩
theorem lw_p17 : lw_okq (⟨"Dataroom", "shareKnowledge", "(II)V"⟩, 6) := ⟨⟨by decide +kernel, by decide +kernel⟩, List.mem_of_getElem? (i := 26) (by decide +kernel), List.mem_of_getElem? (i := 652) (by decide +kernel), List.mem_of_getElem? (i := 653) (by decide +kernel)⟩
theorem lw_p18 : lw_okq (⟨"Dataroom", "countStanding", "(LDataroom$Party;)I"⟩, 6) := ⟨⟨by decide +kernel, by decide +kernel⟩, List.mem_of_getElem? (i := 26) (by decide +kernel), List.mem_of_getElem? (i := 683) (by decide +kernel), List.mem_of_getElem? (i := 684) (by decide +kernel)⟩
theorem lw_p19 : lw_okq (⟨"DataroomModel", "goesWell", "(I)Z"⟩, 19) := ⟨⟨by decide +kernel, by decide +kernel⟩, List.mem_of_getElem? (i := 691) (by decide +kernel), List.mem_of_getElem? (i := 767) (by decide +kernel), List.mem_of_getElem? (i := 768) (by decide +kernel)⟩
theorem lw_p20 : lw_okq (⟨"DataroomModel", "isFile", "(I)Z"⟩, 19) := ⟨⟨by decide +kernel, by decide +kernel⟩, List.mem_of_getElem? (i := 691) (by decide +kernel), List.mem_of_getElem? (i := 775) (by decide +kernel), List.mem_of_getElem? (i := 776) (by decide +kernel)⟩
theorem lw_p21 : lw_okq (⟨"DataroomModel", "recall", "(II)I"⟩, 19) := ⟨⟨by decide +kernel, by decide +kernel⟩, List.mem_of_getElem? (i := 691) (by decide +kernel), List.mem_of_getElem? (i := 779) (by decide +kernel), List.mem_of_getElem? (i := 780) (by decide +kernel)⟩
theorem lw_p22 : lw_okq (⟨"DataroomModel", "isParty", "(I)Z"⟩, 19) := ⟨⟨by decide +kernel, by decide +kernel⟩, List.mem_of_getElem? (i := 691) (by decide +kernel), List.mem_of_getElem? (i := 791) (by decide +kernel), List.mem_of_getElem? (i := 792) (by decide +kernel)⟩
theorem lw_p23 : lw_okq (⟨"DataroomModel", "isQuestion", "(II)Z"⟩, 19) := ⟨⟨by decide +kernel, by decide +kernel⟩, List.mem_of_getElem? (i := 691) (by decide +kernel), List.mem_of_getElem? (i := 815) (by decide +kernel), List.mem_of_getElem? (i := 816) (by decide +kernel)⟩
theorem lw_p24 : lw_okq (⟨"DataroomModel", "refusal", "(III)I"⟩, 19) := ⟨⟨by decide +kernel, by decide +kernel⟩, List.mem_of_getElem? (i := 691) (by decide +kernel), List.mem_of_getElem? (i := 819) (by decide +kernel), List.mem_of_getElem? (i := 820) (by decide +kernel)⟩
theorem lw_p25 : lw_okq (⟨"DataroomModel", "rightOf", "(II)I"⟩, 19) := ⟨⟨by decide +kernel, by decide +kernel⟩, List.mem_of_getElem? (i := 691) (by decide +kernel), List.mem_of_getElem? (i := 823) (by decide +kernel), List.mem_of_getElem? (i := 824) (by decide +kernel)⟩
theorem lw_p26 : lw_okq (⟨"DataroomModel", "wouldTell", "(III)Z"⟩, 19) := ⟨⟨by decide +kernel, by decide +kernel⟩, List.mem_of_getElem? (i := 691) (by decide +kernel), List.mem_of_getElem? (i := 827) (by decide +kernel), List.mem_of_getElem? (i := 828) (by decide +kernel)⟩
theorem lw_p27 : lw_okq (⟨"DataroomModel", "know", "(II)I"⟩, 19) := ⟨⟨by decide +kernel, by decide +kernel⟩, List.mem_of_getElem? (i := 691) (by decide +kernel), List.mem_of_getElem? (i := 834) (by decide +kernel), List.mem_of_getElem? (i := 835) (by decide +kernel)⟩
theorem lw_p28 : lw_okq (⟨"DataroomModel", "learn", "(I)Z"⟩, 19) := ⟨⟨by decide +kernel, by decide +kernel⟩, List.mem_of_getElem? (i := 691) (by decide +kernel), List.mem_of_getElem? (i := 838) (by decide +kernel), List.mem_of_getElem? (i := 839) (by decide +kernel)⟩
theorem lw_p29 : lw_okq (⟨"DataroomModel", "reduce", "(I)I"⟩, 19) := ⟨⟨by decide +kernel, by decide +kernel⟩, List.mem_of_getElem? (i := 691) (by decide +kernel), List.mem_of_getElem? (i := 842) (by decide +kernel), List.mem_of_getElem? (i := 843) (by decide +kernel)⟩
theorem lw_p30 : lw_okq (⟨"DataroomModel", "found", "()I"⟩, 19) := ⟨⟨by decide +kernel, by decide +kernel⟩, List.mem_of_getElem? (i := 691) (by decide +kernel), List.mem_of_getElem? (i := 849) (by decide +kernel), List.mem_of_getElem? (i := 850) (by decide +kernel)⟩
theorem lw_p31 : lw_okq (⟨"DataroomModel", "spentBy", "(I)I"⟩, 19) := ⟨⟨by decide +kernel, by decide +kernel⟩, List.mem_of_getElem? (i := 691) (by decide +kernel), List.mem_of_getElem? (i := 853) (by decide +kernel), List.mem_of_getElem? (i := 854) (by decide +kernel)⟩
def lw_privs_2 : List (MethodName × Nat) := [(⟨"Dataroom$Marks", "isMarked", "(I)Z"⟩, 2), (⟨"Dataroom", "shareKnowledge", "(II)V"⟩, 6), (⟨"Dataroom", "countStanding", "(LDataroom$Party;)I"⟩, 6), (⟨"DataroomModel", "goesWell", "(I)Z"⟩, 19), (⟨"DataroomModel", "isFile", "(I)Z"⟩, 19), (⟨"DataroomModel", "recall", "(II)I"⟩, 19), (⟨"DataroomModel", "isParty", "(I)Z"⟩, 19), (⟨"DataroomModel", "isQuestion", "(II)Z"⟩, 19), (⟨"DataroomModel", "refusal", "(III)I"⟩, 19), (⟨"DataroomModel", "rightOf", "(II)I"⟩, 19), (⟨"DataroomModel", "wouldTell", "(III)Z"⟩, 19), (⟨"DataroomModel", "know", "(II)I"⟩, 19), (⟨"DataroomModel", "learn", "(I)Z"⟩, 19), (⟨"DataroomModel", "reduce", "(I)I"⟩, 19), (⟨"DataroomModel", "found", "()I"⟩, 19), (⟨"DataroomModel", "spentBy", "(I)I"⟩, 19)]
theorem lw_r2 : ∀ q ∈ lw_privs_2, lw_okq q := List.forall_mem_cons.mpr ⟨lw_p16, List.forall_mem_cons.mpr ⟨lw_p17, List.forall_mem_cons.mpr ⟨lw_p18, List.forall_mem_cons.mpr ⟨lw_p19, List.forall_mem_cons.mpr ⟨lw_p20, List.forall_mem_cons.mpr ⟨lw_p21, List.forall_mem_cons.mpr ⟨lw_p22, List.forall_mem_cons.mpr ⟨lw_p23, List.forall_mem_cons.mpr ⟨lw_p24, List.forall_mem_cons.mpr ⟨lw_p25, List.forall_mem_cons.mpr ⟨lw_p26, List.forall_mem_cons.mpr ⟨lw_p27, List.forall_mem_cons.mpr ⟨lw_p28, List.forall_mem_cons.mpr ⟨lw_p29, List.forall_mem_cons.mpr ⟨lw_p30, List.forall_mem_cons.mpr ⟨lw_p31, fun _ h => absurd h List.not_mem_nil⟩⟩⟩⟩⟩⟩⟩⟩⟩⟩⟩⟩⟩⟩⟩⟩
theorem lw_p32 : lw_okq (⟨"DataroomModel", "costOf", "(III)I"⟩, 19) := ⟨⟨by decide +kernel, by decide +kernel⟩, List.mem_of_getElem? (i := 691) (by decide +kernel), List.mem_of_getElem? (i := 857) (by decide +kernel), List.mem_of_getElem? (i := 858) (by decide +kernel)⟩
theorem lw_p33 : lw_okq (⟨"DataroomModel", "findsBy", "(II)I"⟩, 19) := ⟨⟨by decide +kernel, by decide +kernel⟩, List.mem_of_getElem? (i := 691) (by decide +kernel), List.mem_of_getElem? (i := 881) (by decide +kernel), List.mem_of_getElem? (i := 882) (by decide +kernel)⟩
def lw_privs_3 : List (MethodName × Nat) := [(⟨"DataroomModel", "costOf", "(III)I"⟩, 19), (⟨"DataroomModel", "findsBy", "(II)I"⟩, 19)]
theorem lw_r3 : ∀ q ∈ lw_privs_3, lw_okq q := List.forall_mem_cons.mpr ⟨lw_p32, List.forall_mem_cons.mpr ⟨lw_p33, fun _ h => absurd h List.not_mem_nil⟩⟩
def lw_privs : List (MethodName × Nat) := lw_privs_1 ++ (lw_privs_2 ++ (lw_privs_3))
def lw_tbl : List Cond := k2_sels lw_privs ++ tables_1
theorem lw_privs_ok : ∀ q ∈ lw_privs, lw_okq q := by
  show ∀ q ∈ lw_privs_1 ++ (lw_privs_2 ++ (lw_privs_3)), lw_okq q
  exact List.forall_mem_append.mpr ⟨lw_r1, List.forall_mem_append.mpr ⟨lw_r2, lw_r3⟩⟩
end
section
/-! ===== BEGIN words of one list among another's, by their places ===== -/
theorem goodIn_r {big : List Cond} (ws : List Cond) (ps : List Nat) (hp : ws = ps.filterMap (fun i => big[i]?)) (h : ws.all goodWord = true) : GoodIn big ws := by
  intro w hw
  have h1 := List.all_eq_true.mp h w hw
  rw [hp] at hw
  obtain ⟨i, -, hi⟩ := List.mem_filterMap.mp hw
  have hm : w ∈ big := by first | exact List.mem_of_getElem? hi | exact List.getElem?_mem hi
  exact ⟨hm, good_of_word h1⟩
theorem goodIn_app {big a b : List Cond} (ha : GoodIn big a) (hb : GoodIn big b) : GoodIn big (a ++ b) := fun w h => (List.mem_append.mp h).elim (ha w) (hb w)
theorem goodIn_ca {big a b : List Cond} {c : Cond} (ha : GoodIn big (c :: a)) (hb : GoodIn big b) : GoodIn big (c :: (a ++ b)) := fun w h => (List.mem_cons.mp h).elim (fun e => ha w (List.mem_cons.mpr (Or.inl e))) (fun h => (List.mem_append.mp h).elim (fun h => ha w (List.mem_cons.mpr (Or.inr h))) (hb w))
theorem goodIn_sub {big ws : List Cond} (hm : ∀ w ∈ ws, w ∈ big) (h : ws.all goodWord = true) : GoodIn big ws := fun w hw => ⟨hm w hw, good_of_word (List.all_eq_true.mp h w hw)⟩
/-! ===== END ===== -/

/-! ===== BEGIN exceptions that leave a method, and their catching by the caller (launches without stack traces) ===== -/
section VXA
/-! The laws vx_back, vx_callV, vx_callS, vx_callSW, vx_throw0, vx_throwS follow proofs of the library, with one case more: JvmDerived/Free/Laws.lean (Back.of_free), Shelf42/LK1.lean (callV, callS), Shelf/KitTraced.lean (throwNew0V, throwNewS). -/
/-- where a method has thrown q: the class by its name, the cell, what was written, the world -/
def vx_T (XC : String → State → State → Prop) (st : State) (q : Addr) (t : State) (mc ms : Nat) (free : Addr → Prop) : Prop :=
  ∃ (E : String) (ce : Cell) (L : List Loc), XC E st t ∧ t.heap[q]? = some ce ∧ ce.vm = .none ∧ st.vm.findClass E = some ce.cls ∧ st.WarmedH t.vm ∧ st.sameButNew ({ t with vm := st.vm } : State) L mc ms ∧ ∀ z ∈ L, free z.base
def vx_Q (Qc : Array Value → State → Outcome → State → Prop) (XC : String → State → State → Prop) (mc ms : Nat) (free : Addr → Prop) : Array Value → State → Outcome → State → Prop := fun a st o t =>
  (Qc a st o t ∧ ∃ L, FrameEnd st o t L mc ms ∧ ∀ q ∈ L, free q.base) ∨ ∃ q, o = .threw q ∧ vx_T XC st q t mc ms free
/-- a callee that returns or throws -/
def vx_Met (l : Launch) (y : MethodName) (ws : List Cond) (rm : Room) (Pc : Array Value → State → Prop) (Qc : Array Value → State → Outcome → State → Prop) (XC : String → State → State → Prop) (mc ms : Nat) (free : Addr → Prop) : Prop :=
  MetFree l y (headSpec ws rm) Pc (fun _ _ _ _ _ => True) (vx_Q Qc XC mc ms free)
def vx_Post (XC : String → State → State → Prop) (mc ms : Nat) (free : Addr → Prop) : Pt → Array Value → Addr → Pt → Prop := fun A a q B =>
  ∃ (g : JFrame) (mk : MethodId) (t : State) (L : List Loc) (E : String) (ce : Cell), B.U.heap = t.heap ∧ B.U.vm = t.vm ∧ XC E (A.U.calling g mk a) t ∧ t.heap[q]? = some ce ∧ ce.vm = .none ∧ A.U.vm.findClass E = some ce.cls ∧ B.locs = A.locs ++ L ∧ (∀ z ∈ L, free z.base) ∧ B.cells = A.cells + mc ∧ B.slots = A.slots + ms
def vx_Back (l : Launch) (R : Room) (p : Program) (e : Env) (below : List Frame) (s : State) (sargs : Array Value) (y : MethodName) (len W9 : Nat)
    (Pre : Pt → Array Value → Prop) (Post : Pt → Array Value → Option Value → Pt → Prop) (PostX : Pt → Array Value → Addr → Pt → Prop) : Prop :=
  ∀ (m : MethodId) (meth : Method) (c : Code) (A : Pt) (g : JFrame) (ig : Instr) (mk : MethodId) (a : Array Value),
    Stand p l e R s m sargs below meth c A.U A.locs A.cells A.slots → g.method = m → g.locals.size = c.maxLocals → decode c.code g.pc = .ok (ig, len) →
    2 * g.monitorRoom + (g.stack.map fun v => v.category).sum ≤ W9 → A.U.methodNamed? y = some mk → Pre A a →
    (∃ (v : Option Value) (B : Pt), Stand p l e R s m sargs below meth c B.U B.locs B.cells B.slots ∧ Post A a v B ∧
      Steps p.tables e below (doInvoke e (A.U.setTop g) [] mk a).1 (B.U.setTop { g with pc := g.pc + len, stack := v.toList ++ g.stack })) ∨
    (∃ (q : Addr) (B : Pt), Stand p l e R s m sargs below meth c B.U B.locs B.cells B.slots ∧ PostX A a q B ∧
      Steps p.tables e below (doInvoke e (A.U.setTop g) [] mk a).1 ((B.U.setTop g).pushFrame (.throwing q)))
section Payer
variable {l : Launch} {R : Room} {p : Program} {e : Env} {below : List Frame} {s : State} {sargs : Array Value} {y : MethodName} {len W9 : Nat}
theorem vx_back {ws : List Cond} {rm : Room} {Pc : Array Value → State → Prop} {Qc : Array Value → State → Outcome → State → Prop} {XC : String → State → State → Prop} {mc ms : Nat} {free : Addr → Prop} {bytes : ByteArray} {maxL : Nat} {ret : Option FieldType}
    (hM : vx_Met l y ws rm Pc Qc XC mc ms free) (hblind : FrameBlind Pc) (hrc : rm.cells = mc) (hrs : rm.slots = ms)
    (hframes : rm.frames + 1 ≤ R.frames) (hlocals : W9 + (maxL + 11) + rm.locals ≤ R.locals)
    (hws : ∀ w ∈ ws, ∀ a' U, s.WarmedH U.vm → w.before a' U = true) (hcode : Cond.code y bytes maxL ret ∈ ws) (hinit : ∀ a' U, s.WarmedH U.vm → (Cond.initialized y.cls).before a' U = true) :
    vx_Back l R p e below s sargs y len W9 (PreOf R mc ms Pc) (PostOf Qc mc ms free) (vx_Post XC mc ms free) := by
  intro m meth c A g ig mk a X hg hsize hdg hW hn hp
  have h1 : (headSpec ws rm).pre.before a A.U = true := atoms_intro fun w hw => hws w hw _ _ X.warmed
  have h2 : (Cond.code y bytes maxL ret).before a A.U = true := hws _ hcode _ _ X.warmed
  have h3 : (Cond.initialized y.cls).before a A.U = true := hinit _ _ X.warmed
  have h4 : A.cells + (headSpec ws rm).room.cells ≤ R.cells := by rw [show (headSpec ws rm).room.cells = mc from hrc]; exact hp.1
  have h5 : A.slots + (headSpec ws rm).room.slots ≤ R.slots := by rw [show (headSpec ws rm).room.slots = ms from hrs]; exact hp.2.1
  have hPc : Pc a (A.U.calling g mk a) := hblind _ _ _ _ hp.2.2
  obtain ⟨U, Ls, c0, s0⟩ := A
  dsimp only [Pt.U, Pt.locs, Pt.cells, Pt.slots] at h1 h2 h3 h4 h5 X hn hPc ⊢
  obtain ⟨methY, cY, hmY, hcY, -, hlY, -, -, -, -⟩ := Cond.code_spec hn h2
  obtain ⟨kY, hkY, -⟩ := className_of_methodNamed hn
  have hinitY : kY.init = .initialized := Cond.initialized_spec (findClass_of_methodNamed hn) hkY h3
  have h : At U g.method c below := by rw [hg]; exact X.here
  have hlocals9 : W9 + (maxL + 11) + (headSpec ws rm).room.locals ≤ R.locals := hlocals
  have happ : (headSpec ws rm).appliesLoose y e.platform (U.calling g mk a) = true :=
    Spec.appliesLoose_calling (g := g) h hdg hn hkY hinitY
      (X.room_calling (g := g) (R' := (headSpec ws rm).room) hsize hmY hcY hframes (by rw [hlY]; omega) h4 h5) h1
  obtain ⟨mid, hmid⟩ := h.above
  have hfr : (U.setTop g).frames = (.java g :: mid) ++ below := by rw [State.frames_setTop' g h.top, hmid]; rfl
  obtain ⟨o, s₂, hsteps, -, hend, hq⟩ := Steps.callFree hM p X.admits X.cas X.clock (acts := []) hfr happ hPc trivial
  have hq' : vx_Q Qc XC mc ms free a (U.calling g mk a) o s₂ := hq
  rw [State.frames_setTop' g h.top] at hend
  obtain ⟨g₀, hg0⟩ := Option.isSome_iff_exists.mp h.top
  obtain ⟨r, hr⟩ := State.topJava?_eq_some.mp hg0
  have hr' : (({ U with heap := s₂.heap, slotsUsed := s₂.slotsUsed } : State).setVm s₂.vm).frames = .java g₀ :: r := hr
  rcases hq' with ⟨hqc, L, hfe, hL⟩ | ⟨q, rfl, E, ce, L, hx, hce, hcv, hcl, hW₂, hsm, hL⟩
  · obtain ⟨⟨v, rfl⟩, hW₂, e2, q2, q3, q4, q5, q6⟩ := id hfe
    have e3 : s₂ = ({ (U.calling g mk a).setFrames s₂.frames with heap := s₂.heap, slotsUsed := s₂.slotsUsed } : State).setVm s₂.vm := by
      have : s₂ = ({ s₂ with vm := (U.calling g mk a).vm } : State).setVm s₂.vm := rfl
      rw [e2] at this
      exact this
    obtain ⟨c₂, i₂, len₂, hc₂, hd₂, hf₂⟩ := hend
    have hW' : U.WarmedH s₂.vm := hW₂
    have hcc : c₂ = c := by
      have h1 : s₂.code? g.method = U.code? g.method := by
        rw [State.code?_eq, State.code?_eq, hW'.alike.method?]
      exact Option.some.inj (hc₂.symm.trans (h1.trans h.code))
    subst hcc
    have hlen : len₂ = len := by rw [hdg] at hd₂; cases hd₂; rfl
    subst hlen
    have hs₂ : s₂ = (({ U with heap := s₂.heap, slotsUsed := s₂.slotsUsed } : State).setVm s₂.vm).setTop { g with pc := g.pc + len₂, stack := v.toList ++ g.stack } := by
      refine e3.trans ?_
      rw [hf₂, State.calling_eq h.top, State.setFrames_setFrames, State.setTop_of_frames _ hr', hr]
      rfl
    have hsame : U.sameButNew ({ U with heap := s₂.heap, slotsUsed := s₂.slotsUsed } : State) L mc ms := by
      refine ⟨?_, q2, q3, q4, q5, q6⟩
      obtain ⟨t, ht, -⟩ := State.frames_cons hr
      show ({ U with heap := s₂.heap, slotsUsed := s₂.slotsUsed } : State) = { U.setFrames U.frames with heap := s₂.heap, slotsUsed := s₂.slotsUsed }
      rw [State.setFrames_self ht]
    subst hg
    refine Or.inl ⟨v, ⟨(({ U with heap := s₂.heap, slotsUsed := s₂.slotsUsed } : State).setVm s₂.vm), Ls ++ L, c0 + mc, s0 + ms⟩,
      ⟨X.admits, X.cas, X.clock, X.frames, X.room, X.hears, X.method, X.code, (X.here.setHeapUsed s₂.heap s₂.slotsUsed).setVm hW'.alike, X.tail, State.WarmedH.trans X.warmed hW', X.limits, X.bytes, X.same.trans (hsame.setVm s.vm)⟩,
      ⟨g, mk, s₂, L, rfl, rfl, hqc, rfl, hL, rfl, rfl⟩, ?_⟩
    show Steps p.tables e below _ ((({ U with heap := s₂.heap, slotsUsed := s₂.slotsUsed } : State).setVm s₂.vm).setTop { g with pc := g.pc + len₂, stack := v.toList ++ g.stack })
    rw [← hs₂]
    exact hsteps
  · obtain ⟨e2, q2, q3, q4, q5, q6⟩ := id hsm
    have e3 : s₂ = ({ (U.calling g mk a).setFrames s₂.frames with heap := s₂.heap, slotsUsed := s₂.slotsUsed } : State).setVm s₂.vm := by
      have : s₂ = ({ s₂ with vm := (U.calling g mk a).vm } : State).setVm s₂.vm := rfl
      rw [e2] at this
      exact this
    have hf₂ : s₂.frames = .throwing q :: .java g :: U.frames.tail := hend
    have hW' : U.WarmedH s₂.vm := hW₂
    have hs₂ : s₂ = ((({ U with heap := s₂.heap, slotsUsed := s₂.slotsUsed } : State).setVm s₂.vm).setTop g).pushFrame (.throwing q) := by
      refine e3.trans ?_
      rw [hf₂, State.calling_eq h.top, State.setFrames_setFrames, State.pushFrame, State.frames_setTop _ hr', State.setTop_of_frames _ hr', State.setFrames_setFrames, hr]
      rfl
    have hsame : U.sameButNew ({ U with heap := s₂.heap, slotsUsed := s₂.slotsUsed } : State) L mc ms := by
      refine ⟨?_, q2, q3, q4, q5, q6⟩
      obtain ⟨t, ht, -⟩ := State.frames_cons hr
      show ({ U with heap := s₂.heap, slotsUsed := s₂.slotsUsed } : State) = { U.setFrames U.frames with heap := s₂.heap, slotsUsed := s₂.slotsUsed }
      rw [State.setFrames_self ht]
    subst hg
    refine Or.inr ⟨q, ⟨(({ U with heap := s₂.heap, slotsUsed := s₂.slotsUsed } : State).setVm s₂.vm), Ls ++ L, c0 + mc, s0 + ms⟩,
      ⟨X.admits, X.cas, X.clock, X.frames, X.room, X.hears, X.method, X.code, (X.here.setHeapUsed s₂.heap s₂.slotsUsed).setVm hW'.alike, X.tail, State.WarmedH.trans X.warmed hW', X.limits, X.bytes, X.same.trans (hsame.setVm s.vm)⟩,
      ⟨g, mk, s₂, L, E, ce, rfl, rfl, hx, hce, hcv, hcl, rfl, hL, rfl, rfl⟩, ?_⟩
    show Steps p.tables e below _ (((({ U with heap := s₂.heap, slotsUsed := s₂.slotsUsed } : State).setVm s₂.vm).setTop g).pushFrame (.throwing q))
    rw [← hs₂]
    exact hsteps
end Payer
section Calls
variable {p : Program} {l : Launch} {e : Env} {R : Room} {s : State} {m : MethodId} {args : Array Value} {below : List Frame} {meth : Method} {c : Code} {T : State} {locs : List Loc} {cells slots : Nat}
theorem vx_callV (X : Stand p l e R s m args below meth c T locs cells slots) (hexec : p.tables.exec = Jvm.exec) {own C : String} {index : Nat} {y : MethodName} {bytes : ByteArray} {maxL : Nat} {ret : Option FieldType}
    (hown : s.vm.findClass own = some m.cls) (hlink : (Cond.methodLink own index y).before args s = true) (hinst : (Cond.instanceMethod y).before args s = true) (hsel : (Cond.selects C y y).before args s = true)
    (hcode : (Cond.code y bytes maxL ret).before args s = true) (hy : y.cls ≠ "java/lang/invoke/MethodHandle" ∧ y.cls ≠ "java/lang/invoke/VarHandle")
    {W9 : Nat} {Pre : Pt → Array Value → Prop} {Post : Pt → Array Value → Option Value → Pt → Prop} {PostX : Pt → Array Value → Addr → Pt → Prop} (hK : vx_Back l R p e below s args y 3 W9 Pre Post PostX)
    {b : Addr} {cellB : Cell} (hcell : T.heap[b]? = some cellB) (hobj : cellB.vm.isStatics = false) (hcls : s.vm.findClass C = some cellB.cls)
    {g : JFrame} (hg : g.method = m) (hsize : g.locals.size = c.maxLocals) {argsL rest : List Value} (hlen : ∀ sig, parseMethodDescriptor y.desc = some sig → argsL.length = sig.parameters.length)
    (hstack : g.stack = argsL.reverse ++ .ref b :: rest) (hW : 2 * g.monitorRoom + (rest.map fun v => v.category).sum ≤ W9) (hdg : decode c.code g.pc = .ok (.invokevirtual index, 3))
    (hpre : ∀ vm₁, s.WarmedH vm₁ → Pre ⟨T.setVm vm₁, locs, cells, slots⟩ (Value.ref b :: argsL).toArray) :
    (∃ (v : Option Value) (vm₁ : Vm) (B : Pt), s.WarmedH vm₁ ∧ Stand p l e R s m args below meth c B.U B.locs B.cells B.slots ∧ Post ⟨T.setVm vm₁, locs, cells, slots⟩ (Value.ref b :: argsL).toArray v B ∧
      ∀ target, Steps p.tables e below (B.U.setTop { g with pc := g.pc + 3, stack := v.toList ++ rest }) target → Steps p.tables e below (T.setTop g) target) ∨
    (∃ (q : Addr) (vm₁ : Vm) (B : Pt), s.WarmedH vm₁ ∧ Stand p l e R s m args below meth c B.U B.locs B.cells B.slots ∧ PostX ⟨T.setVm vm₁, locs, cells, slots⟩ (Value.ref b :: argsL).toArray q B ∧
      Steps p.tables e below (T.setTop g) ((B.U.setTop { g with stack := rest }).pushFrame (.throwing q))) := by
  obtain ⟨mk, methM, hnamed, hmethM, hstM, habM⟩ := Cond.instanceMethod_spec hinst
  obtain ⟨methM', cM, hmethM', -, -, -, -, -, -, hsigM⟩ := Cond.code_spec hnamed hcode
  cases hmethM.symm.trans hmethM'
  obtain ⟨c2, r2, m2, q1, q2, q3, q4, kP, hkP, hkPi⟩ := Cond.selects_spec hsel
  cases hcls.symm.trans q1
  cases (State.methodFound?_of_named hnamed hy).symm.trans q2
  cases hnamed.symm.trans q3
  have hselP : selectMethod e.platform s.vm cellB.cls mk = .method mk := by rw [Launch.admits_selectMethod X.admits]; exact q4
  obtain ⟨vm₁, X₁, hstep₁⟩ := X.invokevirtual hexec hown hlink hnamed hmethM hstM hkP hkPi hy (a := b) (cell := cellB) hcell
    (fun z h => by rw [h] at hobj; cases hobj) hselP hmethM habM hkP hkPi (g := g) hg (argsL := argsL) (rest := rest) (hlen _ hsigM) hstack hdg
  rcases hK m meth c ⟨T.setVm vm₁, locs, cells, slots⟩ { g with stack := rest } (.invokevirtual index) mk (Value.ref b :: argsL).toArray X₁ hg hsize hdg hW (X₁.named hnamed) (hpre vm₁ X₁.warmed) with ⟨v, B, X', hpost, hsteps⟩ | ⟨q, B, X', hpost, hsteps⟩
  · exact Or.inl ⟨v, vm₁, B, X₁.warmed, X', hpost, fun target h => hstep₁ _ fun acts => by rw [doInvoke_state]; exact hsteps.trans h⟩
  · exact Or.inr ⟨q, vm₁, B, X₁.warmed, X', hpost, hstep₁ _ fun acts => by rw [doInvoke_state]; exact hsteps⟩
theorem vx_callS (X : Stand p l e R s m args below meth c T locs cells slots) (hexec : p.tables.exec = Jvm.exec) {own : String} {index : Nat} {y : MethodName} {bytes : ByteArray} {maxL : Nat} {ret : Option FieldType}
    (hown : s.vm.findClass own = some m.cls) (hlink : (Cond.methodLink own index y).before args s = true) (hstat : (Cond.static y).before args s = true) (hinit : (Cond.initialized y.cls).before args s = true)
    (hcode : (Cond.code y bytes maxL ret).before args s = true) (hy : y.cls ≠ "java/lang/invoke/MethodHandle" ∧ y.cls ≠ "java/lang/invoke/VarHandle")
    {W9 : Nat} {Pre : Pt → Array Value → Prop} {Post : Pt → Array Value → Option Value → Pt → Prop} {PostX : Pt → Array Value → Addr → Pt → Prop} (hK : vx_Back l R p e below s args y 3 W9 Pre Post PostX)
    {g : JFrame} (hg : g.method = m) (hsize : g.locals.size = c.maxLocals) {argsL rest : List Value} (hlen : ∀ sig, parseMethodDescriptor y.desc = some sig → argsL.length = sig.parameters.length)
    (hstack : g.stack = argsL.reverse ++ rest) (hW : 2 * g.monitorRoom + (rest.map fun v => v.category).sum ≤ W9) (hdg : decode c.code g.pc = .ok (.invokestatic index, 3))
    (hpre : ∀ vm₁, s.WarmedH vm₁ → Pre ⟨T.setVm vm₁, locs, cells, slots⟩ argsL.toArray) :
    (∃ (v : Option Value) (vm₁ : Vm) (B : Pt), s.WarmedH vm₁ ∧ Stand p l e R s m args below meth c B.U B.locs B.cells B.slots ∧ Post ⟨T.setVm vm₁, locs, cells, slots⟩ argsL.toArray v B ∧
      ∀ target, Steps p.tables e below (B.U.setTop { g with pc := g.pc + 3, stack := v.toList ++ rest }) target → Steps p.tables e below (T.setTop g) target) ∨
    (∃ (q : Addr) (vm₁ : Vm) (B : Pt), s.WarmedH vm₁ ∧ Stand p l e R s m args below meth c B.U B.locs B.cells B.slots ∧ PostX ⟨T.setVm vm₁, locs, cells, slots⟩ argsL.toArray q B ∧
      Steps p.tables e below (T.setTop g) ((B.U.setTop { g with stack := rest }).pushFrame (.throwing q))) := by
  obtain ⟨mk, hnamed⟩ := Cond.code_named hcode
  obtain ⟨methM, cM, hmethM, -, -, -, -, -, -, hsigM⟩ := Cond.code_spec hnamed hcode
  have hstatic : methM.isStatic = true := Cond.static_spec hnamed hmethM hstat
  obtain ⟨kP, hkP, -⟩ := className_of_methodNamed hnamed
  have hinitP : kP.init = .initialized := Cond.initialized_spec (findClass_of_methodNamed hnamed) hkP hinit
  obtain ⟨vm₁, X₁, hstep₁⟩ := X.invokestatic hexec hown hlink hnamed hmethM hstatic hkP hinitP hy (g := g) hg (argsL := argsL) (rest := rest) (hlen _ hsigM) hstack hdg
  rcases hK m meth c ⟨T.setVm vm₁, locs, cells, slots⟩ { g with stack := rest } (.invokestatic index) mk argsL.toArray X₁ hg hsize hdg hW (X₁.named hnamed) (hpre vm₁ X₁.warmed) with ⟨v, B, X', hpost, hsteps⟩ | ⟨q, B, X', hpost, hsteps⟩
  · exact Or.inl ⟨v, vm₁, B, X₁.warmed, X', hpost, fun target h => hstep₁ _ fun acts => by rw [doInvoke_state]; exact hsteps.trans h⟩
  · exact Or.inr ⟨q, vm₁, B, X₁.warmed, X', hpost, hstep₁ _ fun acts => by rw [doInvoke_state]; exact hsteps⟩
end Calls
theorem vx_cls {s : State} {T : State} {vm₁ : Vm} {E : String} {k : ClassId} (hW : s.WarmedH vm₁) (h : (T.setVm vm₁).vm.findClass E = some k) : s.vm.findClass E = some k := by
  have h1 : vm₁.findClass E = some k := h
  rw [hW.alike.findClass] at h1
  exact h1
/-- the method's frame g, with q thrown over it -/
def vx_W (p : Program) (l : Launch) (e : Env) (R : Room) (s : State) (m : MethodId) (args : Array Value) (below : List Frame) (meth : Method) (c : Code) (H : Heap) (locs : List Loc) (cells slots : Nat) (Q : State → Prop) (g : JFrame) (q : Addr) : Prop :=
  ∀ T : State, T.heap = H → Stand p l e R s m args below meth c T locs cells slots → ∃ t, Steps p.tables e below ((T.setTop g).pushFrame (.throwing q)) t ∧ Q t
def vx_Run (p : Program) (l : Launch) (e : Env) (R : Room) (s : State) (m : MethodId) (args : Array Value) (below : List Frame) (meth : Method) (c : Code) (H : Heap) (locs : List Loc) (cells slots mc ms : Nat) (g : JFrame) (rest : List Value) (Qa : State → Outcome → State → Prop) (XC : String → State → State → Prop) (free : Addr → Prop) : Prop :=
  ∀ T : State, T.heap = H → Stand p l e R s m args below meth c T locs cells slots →
    (∃ (v : Option Value) (st₀ t T' : State) (L : List Loc), st₀.heap = H ∧ Stand p l e R s m args below meth c T' (locs ++ L) (cells + mc) (slots + ms) ∧ (∀ q ∈ L, free q.base) ∧ T'.heap = t.heap ∧ T'.vm = t.vm ∧ Qa st₀ (.returned v) t ∧
      Goes p e below T g T' { g with pc := g.pc + 3, stack := v.toList ++ rest }) ∨
    (∃ (q : Addr) (st₀ t T' : State) (L : List Loc) (E : String) (ce : Cell), st₀.heap = H ∧ Stand p l e R s m args below meth c T' (locs ++ L) (cells + mc) (slots + ms) ∧ (∀ z ∈ L, free z.base) ∧ T'.heap = t.heap ∧ T'.vm = t.vm ∧ XC E st₀ t ∧ t.heap[q]? = some ce ∧ ce.vm = .none ∧ s.vm.findClass E = some ce.cls ∧
      Steps p.tables e below (T.setTop g) ((T'.setTop { g with stack := rest }).pushFrame (.throwing q)))
def vx_X {S : Type} (px : S → Prop) (B : String → S → State → Prop) (A : Nat → Prop) : String → State → State → Prop := fun E st t => ∃ u : S, px u ∧ B E u t ∧ va_F A st t
section Runs
variable {p : Program} {l : Launch} {e : Env} {R : Room} {s : State} {m : MethodId} {args : Array Value} {below : List Frame} {meth : Method} {c : Code} {H : Heap} {locs : List Loc} {cells slots : Nat}
variable {y : MethodName} {bytes cc : ByteArray} {maxL nL mc ms n index : Nat} {ret : Option FieldType} {ws : List Cond} {rm : Room} {Pc : Array Value → State → Prop} {Qc : Array Value → State → Outcome → State → Prop} {XC : String → State → State → Prop} {free : Addr → Prop} {Ts : List Cond} {own C : String} {b : Addr} {As rest : List Value} {g : JFrame}
theorem vx_callBack (cb : CallB R s args own index y bytes maxL ret ws rm mc ms n) (hM : vx_Met l y ws rm Pc Qc XC mc ms free) (hbl : FrameBlind Pc) : vx_Back l R p e below s args y 3 8 (PreOf R mc ms Pc) (PostOf Qc mc ms free) (vx_Post XC mc ms free) := by
  obtain ⟨hrc, hrs, hfr, hlo, hws, hcw, -, hini, -⟩ := cb
  exact vx_back (bytes := bytes) (maxL := maxL) (ret := ret) hM hbl hrc hrs hfr hlo hws hcw (fun a' U hW => word_at hW (Or.inl (by first | rfl | simp [Cond.onTables, Cond.keeps, Cond.steady])) hini)
theorem vx_runV (S : CallFix p m c cc nL s args Ts own) (hM : vx_Met l y ws rm Pc Qc XC mc ms free) (cw : CallW R s args own C index y bytes maxL ret ws rm mc ms n) (hp : PreV s H C b Pc As)
    (hg : g.method = m) (hn : As.length = n) (hsize : g.locals.size = nL) (hstack : g.stack = As.reverse ++ .ref b :: rest) (hW : 2 * g.monitorRoom + (rest.map fun v => v.category).sum ≤ 8) (hdg : decode cc g.pc = .ok (.invokevirtual index, 3)) (hf : cells + mc ≤ R.cells ∧ slots + ms ≤ R.slots) :
    vx_Run p l e R s m args below meth c H locs cells slots mc ms g rest (Qc (Value.ref b :: As).toArray) XC free := by
  have hK : vx_Back l R p e below s args y 3 8 (PreOf R mc ms Pc) (PostOf Qc mc ms free) (vx_Post XC mc ms free) := vx_callBack cw.1 hM hp.1
  obtain ⟨⟨-, -, -, -, -, -, hcode, -, hy, hlen, hl⟩, hin, hse⟩ := cw
  obtain ⟨hx, hb, hml, ho, -⟩ := S
  obtain ⟨-, ⟨cellB, hcB, hoB, hclB⟩, hPc⟩ := hp
  intro T hT X
  rcases vx_callV X hx (C := C) (bytes := bytes) (maxL := maxL) (ret := ret) ho hl hin hse hcode hy hK (by rw [hT]; exact hcB) hoB hclB hg (hsize.trans hml.symm) (argsL := As) (rest := rest) (fun sig h => hn.trans (hlen sig h)) hstack hW (by rw [hb]; exact hdg)
    (fun vm₁ hW₁ => ⟨hf.1, hf.2, hPc (T.setVm vm₁) hT hW₁⟩) with ⟨v, vm₁, ⟨U', l2, c2, s2⟩, hW₁, X', ⟨g', mk, t, L, e1, e2, hq, h1, hL, h2, h3⟩, st⟩ | ⟨q, vm₁, ⟨U', l2, c2, s2⟩, hW₁, X', ⟨g', mk, t, L, E, ce, e1, e2, hq, hce, hcv, hcl, h1, hL, h2, h3⟩, st⟩
  · dsimp only [Pt.U, Pt.locs, Pt.cells, Pt.slots] at X' e1 e2 h1 h2 h3 st
    subst h1; subst h2; subst h3
    exact Or.inl ⟨v, (T.setVm vm₁).calling g' mk (Value.ref b :: As).toArray, t, U', L, hT, X', hL, e1, e2, hq, st⟩
  · dsimp only [Pt.U, Pt.locs, Pt.cells, Pt.slots] at X' e1 e2 h1 h2 h3 st hcl
    subst h1; subst h2; subst h3
    exact Or.inr ⟨q, (T.setVm vm₁).calling g' mk (Value.ref b :: As).toArray, t, U', L, E, ce, hT, X', hL, e1, e2, hq, hce, hcv, vx_cls hW₁ hcl, st⟩
theorem vx_runS (S : CallFix p m c cc nL s args Ts own) (hM : vx_Met l y ws rm Pc Qc XC mc ms free) (cw : CallB R s args own index y bytes maxL ret ws rm mc ms n ∧ (Cond.static y).before args s = true) (hp : PreS s H Pc As)
    (hg : g.method = m) (hn : As.length = n) (hsize : g.locals.size = nL) (hstack : g.stack = As.reverse ++ rest) (hW : 2 * g.monitorRoom + (rest.map fun v => v.category).sum ≤ 8) (hdg : decode cc g.pc = .ok (.invokestatic index, 3)) (hf : cells + mc ≤ R.cells ∧ slots + ms ≤ R.slots) :
    vx_Run p l e R s m args below meth c H locs cells slots mc ms g rest (Qc As.toArray) XC free := by
  have hK : vx_Back l R p e below s args y 3 8 (PreOf R mc ms Pc) (PostOf Qc mc ms free) (vx_Post XC mc ms free) := vx_callBack cw.1 hM hp.1
  obtain ⟨⟨-, -, -, -, -, -, hcode, hini, hy, hlen, hl⟩, hstt⟩ := cw
  obtain ⟨hx, hb, hml, ho, -⟩ := S
  intro T hT X
  rcases vx_callS X hx (bytes := bytes) (maxL := maxL) (ret := ret) ho hl hstt hini hcode hy hK hg (hsize.trans hml.symm) (argsL := As) (rest := rest) (fun sig h => hn.trans (hlen sig h)) hstack hW (by rw [hb]; exact hdg)
    (fun vm₁ hW₁ => ⟨hf.1, hf.2, hp.2 (T.setVm vm₁) hT hW₁⟩) with ⟨v, vm₁, ⟨U', l2, c2, s2⟩, hW₁, X', ⟨g', mk, t, L, e1, e2, hq, h1, hL, h2, h3⟩, st⟩ | ⟨q, vm₁, ⟨U', l2, c2, s2⟩, hW₁, X', ⟨g', mk, t, L, E, ce, e1, e2, hq, hce, hcv, hcl, h1, hL, h2, h3⟩, st⟩
  · dsimp only [Pt.U, Pt.locs, Pt.cells, Pt.slots] at X' e1 e2 h1 h2 h3 st
    subst h1; subst h2; subst h3
    exact Or.inl ⟨v, (T.setVm vm₁).calling g' mk As.toArray, t, U', L, hT, X', hL, e1, e2, hq, st⟩
  · dsimp only [Pt.U, Pt.locs, Pt.cells, Pt.slots] at X' e1 e2 h1 h2 h3 st hcl
    subst h1; subst h2; subst h3
    exact Or.inr ⟨q, (T.setVm vm₁).calling g' mk As.toArray, t, U', L, E, ce, hT, X', hL, e1, e2, hq, hce, hcv, vx_cls hW₁ hcl, st⟩
end Runs
section Rows
variable {p : Program} {l : Launch} {e : Env} {R : Room} {s : State} {m : MethodId} {args : Array Value} {below : List Frame} {meth : Method} {c : Code} {H : Heap} {locs : List Loc} {cells slots : Nat} {Q : State → Prop}
variable {mc ms : Nat} {free : Addr → Prop} {A0 A1 : Nat → Prop} {H0 : Heap} {a : Array Value} {pc : Nat} {ls : Array Slot} {st0 rest : List Value}
theorem vx_keep {st₀ t T' : State} {L : List Loc} (h0 : st₀.heap = H) (e1 : T'.heap = t.heap) (hS : va_S A0 H0 H locs) (hA : ∀ q, q < H.size → A1 q → A0 q) (hf : ∀ q, free q → A0 q) (hL : ∀ q ∈ L, free q.base) (hF : va_F A1 st₀ t) :
    H.size ≤ T'.heap.size ∧ (∀ q : Nat, q < H.size → ¬ A1 q → T'.heap[q]? = H[q]?) ∧ va_S A0 H0 T'.heap (locs ++ L) := by
  obtain ⟨hz, hk⟩ := hF
  rw [h0] at hz hk
  exact ⟨by rw [e1]; exact hz, fun q h1 h2 => by rw [e1]; exact hk q h1 h2,
    ⟨Nat.le_trans hS.1 (by rw [e1]; exact hz), fun q h1 h2 => by rw [e1, hk q (Nat.lt_of_lt_of_le h1 hS.1) (fun z => h2 (hA q (Nat.lt_of_lt_of_le h1 hS.1) z))]; exact hS.2.1 q h1 h2, fun q hq => by
      rcases List.mem_append.mp hq with h | h
      · exact hS.2.2 q h
      · exact hf _ (hL q h)⟩⟩
theorem vx_calli {S SX : Type} {post : Int32 → S → Prop} {px : SX → Prop} {B : S → State → Prop} {BX : String → SX → State → Prop} {AX : Nat → Prop} (hr : vx_Run p l e R s m args below meth c H locs cells slots mc ms (F0 m pc ls st0) rest (va_Qi post B A1 a) (vx_X px BX AX) free) (hS : va_S A0 H0 H locs) (hA : ∀ q, q < H.size → A1 q → A0 q) (hf : ∀ q, free q → A0 q) (hAX : ∀ q, q < H.size → AX q → A0 q)
    (kx : ∀ (E : String) (ce : Cell) (q9 : Addr) (u : SX) (t : State) (H1 : Heap) (locs1 : List Loc), t.heap = H1 → s.vm.Alike t.vm → px u → BX E u t → H.size ≤ H1.size → (∀ q : Nat, q < H.size → ¬ AX q → H1[q]? = H[q]?) → va_S A0 H0 H1 locs1 → H1[q9]? = some ce → ce.vm = .none → s.vm.findClass E = some ce.cls → vx_W p l e R s m args below meth c H1 locs1 (cells + mc) (slots + ms) Q (F0 m pc ls rest) q9)
    (kk : ∀ (r : Int32) (u : S) (t : State) (H1 : Heap) (locs1 : List Loc), t.heap = H1 → s.vm.Alike t.vm → post r u → B u t → H.size ≤ H1.size → (∀ q : Nat, q < H.size → ¬ A1 q → H1[q]? = H[q]?) → va_S A0 H0 H1 locs1 → W p l e R s m args below meth c H1 locs1 (cells + mc) (slots + ms) Q (F0 m (pc + 3) ls (.int r :: rest))) : W p l e R s m args below meth c H locs cells slots Q (F0 m pc ls st0) := by
  intro T hT X
  rcases hr T hT X with ⟨v, st₀, t, T', L, h0, X', hL, e1, e2, ⟨⟨r, u, hv, hp, hb⟩, hF⟩, st⟩ | ⟨q, st₀, t, T', L, E, ce, h0, X', hL, e1, e2, ⟨u, hp, hb, hF⟩, hce, hcv, hcl, st⟩
  · cases hv
    obtain ⟨k1, k2, k3⟩ := vx_keep h0 e1 hS hA hf hL hF
    obtain ⟨t2, a1, b1⟩ := kk r u t T'.heap (locs ++ L) e1.symm (by rw [← e2]; exact X'.warmed.alike) hp hb k1 k2 k3 T' rfl X'
    exact ⟨t2, st t2 a1, b1⟩
  · obtain ⟨k1, k2, k3⟩ := vx_keep h0 e1 hS hAX hf hL hF
    obtain ⟨t2, a1, b1⟩ := kx E ce q u t T'.heap (locs ++ L) e1.symm (by rw [← e2]; exact X'.warmed.alike) hp hb k1 k2 k3 (by rw [e1]; exact hce) hcv hcl T' rfl X'
    exact ⟨t2, st.trans a1, b1⟩
theorem vx_calll {S SX : Type} {post : Int64 → S → Prop} {px : SX → Prop} {B : S → State → Prop} {BX : String → SX → State → Prop} {AX : Nat → Prop} (hr : vx_Run p l e R s m args below meth c H locs cells slots mc ms (F0 m pc ls st0) rest (va_Ql post B A1 a) (vx_X px BX AX) free) (hS : va_S A0 H0 H locs) (hA : ∀ q, q < H.size → A1 q → A0 q) (hf : ∀ q, free q → A0 q) (hAX : ∀ q, q < H.size → AX q → A0 q)
    (kx : ∀ (E : String) (ce : Cell) (q9 : Addr) (u : SX) (t : State) (H1 : Heap) (locs1 : List Loc), t.heap = H1 → s.vm.Alike t.vm → px u → BX E u t → H.size ≤ H1.size → (∀ q : Nat, q < H.size → ¬ AX q → H1[q]? = H[q]?) → va_S A0 H0 H1 locs1 → H1[q9]? = some ce → ce.vm = .none → s.vm.findClass E = some ce.cls → vx_W p l e R s m args below meth c H1 locs1 (cells + mc) (slots + ms) Q (F0 m pc ls rest) q9)
    (kk : ∀ (r : Int64) (u : S) (t : State) (H1 : Heap) (locs1 : List Loc), t.heap = H1 → s.vm.Alike t.vm → post r u → B u t → H.size ≤ H1.size → (∀ q : Nat, q < H.size → ¬ A1 q → H1[q]? = H[q]?) → va_S A0 H0 H1 locs1 → W p l e R s m args below meth c H1 locs1 (cells + mc) (slots + ms) Q (F0 m (pc + 3) ls (.long r :: rest))) : W p l e R s m args below meth c H locs cells slots Q (F0 m pc ls st0) := by
  intro T hT X
  rcases hr T hT X with ⟨v, st₀, t, T', L, h0, X', hL, e1, e2, ⟨⟨r, u, hv, hp, hb⟩, hF⟩, st⟩ | ⟨q, st₀, t, T', L, E, ce, h0, X', hL, e1, e2, ⟨u, hp, hb, hF⟩, hce, hcv, hcl, st⟩
  · cases hv
    obtain ⟨k1, k2, k3⟩ := vx_keep h0 e1 hS hA hf hL hF
    obtain ⟨t2, a1, b1⟩ := kk r u t T'.heap (locs ++ L) e1.symm (by rw [← e2]; exact X'.warmed.alike) hp hb k1 k2 k3 T' rfl X'
    exact ⟨t2, st t2 a1, b1⟩
  · obtain ⟨k1, k2, k3⟩ := vx_keep h0 e1 hS hAX hf hL hF
    obtain ⟨t2, a1, b1⟩ := kx E ce q u t T'.heap (locs ++ L) e1.symm (by rw [← e2]; exact X'.warmed.alike) hp hb k1 k2 k3 (by rw [e1]; exact hce) hcv hcl T' rfl X'
    exact ⟨t2, st.trans a1, b1⟩
theorem vx_callf {S SX : Type} {post : UInt32 → S → Prop} {px : SX → Prop} {B : S → State → Prop} {BX : String → SX → State → Prop} {AX : Nat → Prop} (hr : vx_Run p l e R s m args below meth c H locs cells slots mc ms (F0 m pc ls st0) rest (va_Qf post B A1 a) (vx_X px BX AX) free) (hS : va_S A0 H0 H locs) (hA : ∀ q, q < H.size → A1 q → A0 q) (hf : ∀ q, free q → A0 q) (hAX : ∀ q, q < H.size → AX q → A0 q)
    (kx : ∀ (E : String) (ce : Cell) (q9 : Addr) (u : SX) (t : State) (H1 : Heap) (locs1 : List Loc), t.heap = H1 → s.vm.Alike t.vm → px u → BX E u t → H.size ≤ H1.size → (∀ q : Nat, q < H.size → ¬ AX q → H1[q]? = H[q]?) → va_S A0 H0 H1 locs1 → H1[q9]? = some ce → ce.vm = .none → s.vm.findClass E = some ce.cls → vx_W p l e R s m args below meth c H1 locs1 (cells + mc) (slots + ms) Q (F0 m pc ls rest) q9)
    (kk : ∀ (r : UInt32) (u : S) (t : State) (H1 : Heap) (locs1 : List Loc), t.heap = H1 → s.vm.Alike t.vm → post r u → B u t → H.size ≤ H1.size → (∀ q : Nat, q < H.size → ¬ A1 q → H1[q]? = H[q]?) → va_S A0 H0 H1 locs1 → W p l e R s m args below meth c H1 locs1 (cells + mc) (slots + ms) Q (F0 m (pc + 3) ls (.float r :: rest))) : W p l e R s m args below meth c H locs cells slots Q (F0 m pc ls st0) := by
  intro T hT X
  rcases hr T hT X with ⟨v, st₀, t, T', L, h0, X', hL, e1, e2, ⟨⟨r, u, hv, hp, hb⟩, hF⟩, st⟩ | ⟨q, st₀, t, T', L, E, ce, h0, X', hL, e1, e2, ⟨u, hp, hb, hF⟩, hce, hcv, hcl, st⟩
  · cases hv
    obtain ⟨k1, k2, k3⟩ := vx_keep h0 e1 hS hA hf hL hF
    obtain ⟨t2, a1, b1⟩ := kk r u t T'.heap (locs ++ L) e1.symm (by rw [← e2]; exact X'.warmed.alike) hp hb k1 k2 k3 T' rfl X'
    exact ⟨t2, st t2 a1, b1⟩
  · obtain ⟨k1, k2, k3⟩ := vx_keep h0 e1 hS hAX hf hL hF
    obtain ⟨t2, a1, b1⟩ := kx E ce q u t T'.heap (locs ++ L) e1.symm (by rw [← e2]; exact X'.warmed.alike) hp hb k1 k2 k3 (by rw [e1]; exact hce) hcv hcl T' rfl X'
    exact ⟨t2, st.trans a1, b1⟩
theorem vx_calld {S SX : Type} {post : UInt64 → S → Prop} {px : SX → Prop} {B : S → State → Prop} {BX : String → SX → State → Prop} {AX : Nat → Prop} (hr : vx_Run p l e R s m args below meth c H locs cells slots mc ms (F0 m pc ls st0) rest (va_Qd post B A1 a) (vx_X px BX AX) free) (hS : va_S A0 H0 H locs) (hA : ∀ q, q < H.size → A1 q → A0 q) (hf : ∀ q, free q → A0 q) (hAX : ∀ q, q < H.size → AX q → A0 q)
    (kx : ∀ (E : String) (ce : Cell) (q9 : Addr) (u : SX) (t : State) (H1 : Heap) (locs1 : List Loc), t.heap = H1 → s.vm.Alike t.vm → px u → BX E u t → H.size ≤ H1.size → (∀ q : Nat, q < H.size → ¬ AX q → H1[q]? = H[q]?) → va_S A0 H0 H1 locs1 → H1[q9]? = some ce → ce.vm = .none → s.vm.findClass E = some ce.cls → vx_W p l e R s m args below meth c H1 locs1 (cells + mc) (slots + ms) Q (F0 m pc ls rest) q9)
    (kk : ∀ (r : UInt64) (u : S) (t : State) (H1 : Heap) (locs1 : List Loc), t.heap = H1 → s.vm.Alike t.vm → post r u → B u t → H.size ≤ H1.size → (∀ q : Nat, q < H.size → ¬ A1 q → H1[q]? = H[q]?) → va_S A0 H0 H1 locs1 → W p l e R s m args below meth c H1 locs1 (cells + mc) (slots + ms) Q (F0 m (pc + 3) ls (.double r :: rest))) : W p l e R s m args below meth c H locs cells slots Q (F0 m pc ls st0) := by
  intro T hT X
  rcases hr T hT X with ⟨v, st₀, t, T', L, h0, X', hL, e1, e2, ⟨⟨r, u, hv, hp, hb⟩, hF⟩, st⟩ | ⟨q, st₀, t, T', L, E, ce, h0, X', hL, e1, e2, ⟨u, hp, hb, hF⟩, hce, hcv, hcl, st⟩
  · cases hv
    obtain ⟨k1, k2, k3⟩ := vx_keep h0 e1 hS hA hf hL hF
    obtain ⟨t2, a1, b1⟩ := kk r u t T'.heap (locs ++ L) e1.symm (by rw [← e2]; exact X'.warmed.alike) hp hb k1 k2 k3 T' rfl X'
    exact ⟨t2, st t2 a1, b1⟩
  · obtain ⟨k1, k2, k3⟩ := vx_keep h0 e1 hS hAX hf hL hF
    obtain ⟨t2, a1, b1⟩ := kx E ce q u t T'.heap (locs ++ L) e1.symm (by rw [← e2]; exact X'.warmed.alike) hp hb k1 k2 k3 (by rw [e1]; exact hce) hcv hcl T' rfl X'
    exact ⟨t2, st.trans a1, b1⟩
theorem vx_callv {S SX : Type} {post : S → Prop} {px : SX → Prop} {B : S → State → Prop} {BX : String → SX → State → Prop} {AX : Nat → Prop} (hr : vx_Run p l e R s m args below meth c H locs cells slots mc ms (F0 m pc ls st0) rest (va_Qv post B A1 a) (vx_X px BX AX) free) (hS : va_S A0 H0 H locs) (hA : ∀ q, q < H.size → A1 q → A0 q) (hf : ∀ q, free q → A0 q) (hAX : ∀ q, q < H.size → AX q → A0 q)
    (kx : ∀ (E : String) (ce : Cell) (q9 : Addr) (u : SX) (t : State) (H1 : Heap) (locs1 : List Loc), t.heap = H1 → s.vm.Alike t.vm → px u → BX E u t → H.size ≤ H1.size → (∀ q : Nat, q < H.size → ¬ AX q → H1[q]? = H[q]?) → va_S A0 H0 H1 locs1 → H1[q9]? = some ce → ce.vm = .none → s.vm.findClass E = some ce.cls → vx_W p l e R s m args below meth c H1 locs1 (cells + mc) (slots + ms) Q (F0 m pc ls rest) q9)
    (kk : ∀ (u : S) (t : State) (H1 : Heap) (locs1 : List Loc), t.heap = H1 → s.vm.Alike t.vm → post u → B u t → H.size ≤ H1.size → (∀ q : Nat, q < H.size → ¬ A1 q → H1[q]? = H[q]?) → va_S A0 H0 H1 locs1 → W p l e R s m args below meth c H1 locs1 (cells + mc) (slots + ms) Q (F0 m (pc + 3) ls (rest))) : W p l e R s m args below meth c H locs cells slots Q (F0 m pc ls st0) := by
  intro T hT X
  rcases hr T hT X with ⟨v, st₀, t, T', L, h0, X', hL, e1, e2, ⟨⟨u, hv, hp, hb⟩, hF⟩, st⟩ | ⟨q, st₀, t, T', L, E, ce, h0, X', hL, e1, e2, ⟨u, hp, hb, hF⟩, hce, hcv, hcl, st⟩
  · cases hv
    obtain ⟨k1, k2, k3⟩ := vx_keep h0 e1 hS hA hf hL hF
    obtain ⟨t2, a1, b1⟩ := kk u t T'.heap (locs ++ L) e1.symm (by rw [← e2]; exact X'.warmed.alike) hp hb k1 k2 k3 T' rfl X'
    exact ⟨t2, st t2 a1, b1⟩
  · obtain ⟨k1, k2, k3⟩ := vx_keep h0 e1 hS hAX hf hL hF
    obtain ⟨t2, a1, b1⟩ := kx E ce q u t T'.heap (locs ++ L) e1.symm (by rw [← e2]; exact X'.warmed.alike) hp hb k1 k2 k3 (by rw [e1]; exact hce) hcv hcl T' rfl X'
    exact ⟨t2, st.trans a1, b1⟩
/-- caught by the row x of this method's table; the rows ahead don't take it -/
theorem vx_catch {own name : String} {E : String} {ce : Cell} {q : Addr} (hown : s.vm.findClass own = some m.cls) (pre : List ExceptionTableEntry) (x : ExceptionTableEntry) (suf : List ExceptionTableEntry) (hsplit : c.exceptionTable.toList = pre ++ x :: suf)
    (hpass : ∀ z ∈ pre, covers z pc = false ∨ (z.catchType ≠ 0 ∧ ∃ nm : String, (Cond.classLink own z.catchType nm).before args s = true ∧ va_Nc E nm s)) (hx : covers x pc = true) (h0 : x.catchType ≠ 0)
    (hlink : (Cond.classLink own x.catchType name).before args s = true) (hcast : (Cond.castable E name).before args s = true) (hcell : H[q]? = some ce) (hv : ce.vm = .none) (hcl : s.vm.findClass E = some ce.cls)
    (kk : W p l e R s m args below meth c H locs cells slots Q (F0 m x.handlerPc ls [.ref q])) : vx_W p l e R s m args below meth c H locs cells slots Q (F0 m pc ls rest) q := by
  intro T hT X
  have hpl : e.platform.magicAccessors = ({} : Platform).magicAccessors := by rw [X.admits.platform]
  obtain ⟨c3, c4, hc3, hc4, hasg⟩ := Cond.castable_spec hcast
  cases Option.some.inj (hc3.symm.trans hcl)
  obtain ⟨c5, hc5, hcl5⟩ := Cond.classLink_spec hown hlink e.platform hpl
  cases Option.some.inj (hc4.symm.trans hc5)
  obtain ⟨vm', X', st⟩ := X.thenCaughtThrough q (g := F0 m pc ls rest) rfl (Steps.refl _) (by rw [hT]; exact hcell) (by rw [hv]; rfl) (by obtain ⟨k9, h9, -⟩ := Vm.findClass_spec hcl; exact ⟨k9, h9⟩) pre x suf hsplit
    (fun z hz => by
      rcases hpass z hz with h | ⟨hz0, nm, hl1, hn1⟩
      · exact Or.inl h
      · obtain ⟨c6, hc6, hcl6⟩ := Cond.classLink_spec hown hl1 e.platform hpl
        obtain ⟨a8, b8, h1, h2, h3⟩ := hn1
        cases Option.some.inj (h1.symm.trans hcl)
        cases Option.some.inj (h2.symm.trans hc6)
        exact Or.inr ⟨hz0, _, hcl6, h3⟩) hx (Or.inr ⟨h0, c4, hcl5, hasg⟩)
  obtain ⟨t, a1, b1⟩ := kk (T.setVm vm') hT X'
  exact ⟨t, st.trans a1, b1⟩
end Rows
section Ends
variable {p : Program} {l : Launch} {e : Env} {R : Room} {s : State} {m : MethodId} {args : Array Value} {below : List Frame} {meth : Method} {c : Code} {H : Heap} {locs : List Loc} {cells slots : Nat} {Q : State → Prop}
variable {mc ms : Nat} {free : Addr → Prop} {A0 A1 : Nat → Prop} {H0 : Heap} {a : Array Value} {ls : Array Slot} {st0 rest : List Value}
variable {Qc : Array Value → State → Outcome → State → Prop} {XC : String → State → State → Prop}
/-- what a body that may throw owes at its end -/
def vx_MQ (below : List Frame) (Qc : Array Value → State → Outcome → State → Prop) (XC : String → State → State → Prop) (a : Array Value) (s : State) (mc ms : Nat) (free : Addr → Prop) : State → Prop := fun t =>
  ∃ o, t.status = .running ∧ Ended t below o ∧ vx_Q Qc XC mc ms free a s o t
theorem vx_ret {g : JFrame} {mc ms : Nat} (k : W p l e R s m args below meth c H locs cells slots (MQ below Qc args s mc ms free) g) : W p l e R s m args below meth c H locs cells slots (vx_MQ below Qc XC args s mc ms free) g := by
  intro T hT X
  obtain ⟨t, a1, o, b1, b2, b3, b4⟩ := k T hT X
  exact ⟨t, a1, o, b1, b2, Or.inl ⟨b3, b4⟩⟩
/-- not caught here: it goes on to the caller -/
theorem vx_widen {g : JFrame} {q : Addr} {k n : Nat} (h1 : cells ≤ k) (h2 : slots ≤ n) (kk : vx_W p l e R s m args below meth c H locs k n Q g q) : vx_W p l e R s m args below meth c H locs cells slots Q g q := fun T hT X => kk T hT (stand_widen X h1 h2)
theorem vx_out {pc : Nat} {E : String} {ce : Cell} {q : Addr} {mc ms : Nat} (hout : ∀ x ∈ c.exceptionTable.toList, covers x pc = false) (hlocks : meth.locks = false) (hcell : H[q]? = some ce) (hv : ce.vm = .none) (hcl : s.vm.findClass E = some ce.cls)
    (hx : ∀ t : State, t.heap = H → s.vm.Alike t.vm → XC E s t) (hf : ∀ z ∈ locs, free z.base) (hc : cells ≤ mc) (hs : slots ≤ ms) :
    vx_W p l e R s m args below meth c H locs cells slots (vx_MQ below Qc XC args s mc ms free) (F0 m pc ls rest) q := by
  intro T hT X
  obtain ⟨st1, hrun, hend, hW, hsm⟩ := X.leaveThrown q (g := F0 m pc ls rest) rfl rfl rfl hout hlocks
  have hcell9 : (T.setFrames (.throwing q :: below)).heap[q]? = some ce := by
    show T.heap[q]? = some ce
    rw [hT]; exact hcell
  exact ⟨_, st1, .threw q, hrun, hend, Or.inr ⟨q, rfl, E, ce, locs, hx _ hT hW.alike, hcell9, hv, hcl, hW, hsm.mono hc hs, hf⟩⟩
theorem vx_frame {U : State} {k n : Nat} (h : s.sameButNew ({ U with vm := s.vm } : State) locs k n) : s.heap.size ≤ U.heap.size ∧ ∀ q : Nat, q < s.heap.size → (∀ z ∈ locs, z.base ≠ q) → U.heap[q]? = s.heap[q]? := by
  obtain ⟨-, h2, -, -, -, h6⟩ := h
  refine ⟨h2, fun q hq hz => ?_⟩
  obtain ⟨c9, e1, e2, e3, e4⟩ := h6 q _ (Array.getElem?_eq_getElem hq)
  have hs : c9.slots = (s.heap[q]).slots := Array.ext_getElem? fun i => e4 i fun hm => hz _ hm rfl
  have h9 : c9 = s.heap[q] := by
    rw [hs] at e2
    exact e2
  have e5 : U.heap[q]? = some c9 := e1
  rw [e5, h9, Array.getElem?_eq_getElem hq]
/-- the words of a throw but the four that speak of the heap -/
def vx_no (w : Cond) : Bool := decide (w ≠ .isRef (.static Bundle.tN "UNASSIGNED_STACK" Bundle.steD)) && decide (w ≠ .isRef (.static Bundle.tN "SUPPRESSED_SENTINEL" Bundle.listD)) && decide (w ≠ .laysStatic Bundle.tN "UNASSIGNED_STACK" Bundle.steD) && decide (w ≠ .laysStatic Bundle.tN "SUPPRESSED_SENTINEL" Bundle.listD)
def vx_at0 (own : String) (ic : Nat) (X : String) (names : List String) : List Cond := (Bundle.ownAtoms0 own ic X names).filter vx_no
def vx_atS (own : String) (ic : Nat) (X : String) (names : List String) : List Cond := (Bundle.ownAtoms own ic X names).filter vx_no
/-- a word that the tables alone decide, or a good one -/
def vx_ot (w : Cond) : Bool := w.onTables || goodWord w
theorem vx_ot_at {args a' : Array Value} {s U : State} {w : Cond} (hW : s.WarmedH U.vm) (hvm : s.vm = U.vm) (hg : vx_ot w = true) (h : w.before args s = true) : w.before a' U = true := by
  simp only [vx_ot, Bool.or_eq_true] at hg
  rcases hg with hg | hg
  · exact va_tabs hg hvm h
  · exact word_at hW (good_of_word hg) h
/-- a list's words: the good ones out of the method's own list, the others by premises of their own -/
theorem vx_hat {args : Array Value} {s : State} {L B : List Cond} (h1 : ∀ w ∈ L.filter goodWord, w.before args s = true) (h2 : ∀ w ∈ L.filter (fun w => !goodWord w), w ∈ B) (h3 : ∀ w ∈ B, w.before args s = true) : ∀ w ∈ L, w.before args s = true := by
  intro w hw
  by_cases g : goodWord w = true
  · exact h1 w (List.mem_filter.mpr ⟨hw, g⟩)
  · refine h3 w (h2 w (List.mem_filter.mpr ⟨hw, ?_⟩))
    show (!goodWord w) = true
    cases hgw : goodWord w
    · rfl
    · exact absurd hgw g
theorem vx_c {args : Array Value} {s : State} {w : Cond} {B : List Cond} (h : w.before args s = true) (t : ∀ w ∈ B, w.before args s = true) : ∀ w' ∈ w :: B, w'.before args s = true := fun w' h' => (List.mem_cons.mp h').elim (fun e => by rw [e]; exact h) (t w')
theorem vx_n {args : Array Value} {s : State} : ∀ w ∈ ([] : List Cond), w.before args s = true := fun _ h => nomatch h
theorem vx_own {args : Array Value} {s : State} {L : List Cond} (h1 : ∀ w ∈ L.filter vx_no, w.before args s = true)
    (hU : (Cond.isRef (.static Bundle.tN "UNASSIGNED_STACK" Bundle.steD)).before args s = true) (hN : (Cond.isRef (.static Bundle.tN "SUPPRESSED_SENTINEL" Bundle.listD)).before args s = true)
    (lU : (Cond.laysStatic Bundle.tN "UNASSIGNED_STACK" Bundle.steD).before args s = true) (lN : (Cond.laysStatic Bundle.tN "SUPPRESSED_SENTINEL" Bundle.listD).before args s = true) : ∀ w ∈ L, w.before args s = true := by
  intro w hw
  by_cases e1 : w = .isRef (.static Bundle.tN "UNASSIGNED_STACK" Bundle.steD)
  · rw [e1]; exact hU
  · by_cases e2 : w = .isRef (.static Bundle.tN "SUPPRESSED_SENTINEL" Bundle.listD)
    · rw [e2]; exact hN
    · by_cases e3 : w = .laysStatic Bundle.tN "UNASSIGNED_STACK" Bundle.steD
      · rw [e3]; exact lU
      · by_cases e4 : w = .laysStatic Bundle.tN "SUPPRESSED_SENTINEL" Bundle.listD
        · rw [e4]; exact lN
        · exact h1 w (List.mem_filter.mpr ⟨hw, by unfold vx_no; rw [decide_eq_true e1, decide_eq_true e2, decide_eq_true e3, decide_eq_true e4]; rfl⟩)
/-- where a static field lies, its class's statics cell in H -/
def vx_L (C n d : String) (A : Nat → Prop) (U : State) (H : Heap) : Prop := ∃ (c : ClassId) (k : Class) (i : Nat) (f : Field) (a : Nat) (cell : Cell), U.vm.findClass C = some c ∧ U.fieldFound? C n d = some (c, k, i, f) ∧ f.isStatic = true ∧ k.statics = some a ∧ H[a]? = some cell ∧ cell.vm.isStatics = true ∧ cell.cls = c ∧ f.slot < cell.slots.size ∧ k.staticTypes[f.slot]? = some f.type ∧ ¬ A a
theorem vx_L.moved {C n d : String} {A : Nat → Prop} {u U : State} {H : Heap} (hvm : u.vm.Alike U.vm) (h : vx_L C n d A u H) : vx_L C n d A U H := by
  obtain ⟨c, k, i, f, a, cell, h1, h2, h3, h4, h5, h6, h7, h8, h9, h10⟩ := h
  obtain ⟨k', hi', he⟩ := State.fieldFound?_setVm hvm h2
  exact ⟨c, k', i, f, a, cell, by rw [hvm.findClass]; exact h1, hi', h3, by rw [he]; exact h4, h5, h6, h7, h8, by rw [he]; exact h9, h10⟩
theorem vx_L.kept {C n d : String} {A : Nat → Prop} {U : State} {H H1 : Heap} (h : vx_L C n d A U H) (hq : ∀ a : Nat, a < H.size → ¬ A a → H1[a]? = H[a]?) : vx_L C n d A U H1 := by
  obtain ⟨c, k, i, f, a, cell, h1, h2, h3, h4, h5, h6, h7, h8, h9, h10⟩ := h
  exact ⟨c, k, i, f, a, cell, h1, h2, h3, h4, by rw [hq a (Array.getElem?_eq_some_iff.mp h5).1 h10]; exact h5, h6, h7, h8, h9, h10⟩
theorem vx_L.narrow {C n d : String} {A B : Nat → Prop} {U : State} {H : Heap} (h : vx_L C n d A U H) (hAB : ∀ q, B q → A q) : vx_L C n d B U H := by
  obtain ⟨c, k, i, f, a, cell, h1, h2, h3, h4, h5, h6, h7, h8, h9, h10⟩ := h
  exact ⟨c, k, i, f, a, cell, h1, h2, h3, h4, h5, h6, h7, h8, h9, fun z => h10 (hAB _ z)⟩
theorem vx_L.word {C n d : String} {A : Nat → Prop} {s : State} {args : Array Value} (h : vx_L C n d A s s.heap) : (Cond.laysStatic C n d).before args s = true := by
  obtain ⟨c, k, i, f, a, cell, h1, h2, h3, h4, h5, h6, h7, h8, h9, -⟩ := h
  show (Cond.laysStatic C n d).holds args s none s [] = true
  exact Cond.laysStatic_of h1 h2 h3 h4 h5 h6 h7 h8 h9
/-- .. and what it holds: null or some reference -/
def vx_Zq (C n d : String) (A : Nat → Prop) (U : State) (H : Heap) : Prop := va_Zq C n d A U H ∧ vx_L C n d A U H
theorem vx_Zq.moved {C n d : String} {A : Nat → Prop} {u U : State} {H : Heap} (hvm : u.vm.Alike U.vm) (h : vx_Zq C n d A u H) : vx_Zq C n d A U H := ⟨va_Zq.moved hvm h.1, vx_L.moved hvm h.2⟩
theorem vx_Zq.kept {C n d : String} {A : Nat → Prop} {U : State} {H H1 : Heap} (h : vx_Zq C n d A U H) (hq : ∀ a : Nat, a < H.size → ¬ A a → H1[a]? = H[a]?) : vx_Zq C n d A U H1 := ⟨va_Zq.kept h.1 hq, vx_L.kept h.2 hq⟩
theorem vx_Zq.narrow {C n d : String} {A B : Nat → Prop} {U : State} {H : Heap} (h : vx_Zq C n d A U H) (hAB : ∀ q, B q → A q) : vx_Zq C n d B U H := ⟨va_Zq.narrow h.1 hAB, vx_L.narrow h.2 hAB⟩
theorem vx_Zqof {args : Array Value} {s : State} {C n d : String} {A : Nat → Prop} (hl : (Cond.laysStatic C n d).before args s = true) (hini : (Cond.initialized C).before args s = true) (h : (Cond.isRef (.static C n d)).before args s = true) (hA : ∀ a : Nat, a < s.heap.size → ¬ A a) : vx_Zq C n d A s s.heap := by
  refine ⟨va_Zqof hl hini h hA, ?_⟩
  obtain ⟨c, k, i, f, a, cell, h1, h2, h3, h4, h5, h6, h7, h8, h9⟩ := Cond.laysStatic_spec hl
  exact ⟨c, k, i, f, a, cell, h1, h2, h3, h4, h5, h6, h7, h8, h9, hA a (Array.getElem?_eq_some_iff.mp h5).1⟩
theorem vx_isRef {C n d : String} {v : Value} {A : Nat → Prop} {s : State} {args : Array Value} (h : va_Z C n d v A s s.heap) (hv : v.isRef = true) : (Cond.isRef (.static C n d)).before args s = true := by
  obtain ⟨cf, kf, fi, f, a, cell, h1, h2, h3, h4, h5, h6, h7, -⟩ := h
  have he : (Term.static C n d).eval args s none [] s = some v := by
    simp [Term.eval, State.fieldNamed?, h1, h2, h4, h5, h6, h7]
  simp only [Cond.before, Cond.holds, Cond.value, he]
  cases v <;> simp_all [Value.isRef]
theorem vx_isRefq {C n d : String} {A : Nat → Prop} {s : State} {args : Array Value} (h : va_Zq C n d A s s.heap) : (Cond.isRef (.static C n d)).before args s = true := by
  rcases h with h | ⟨t, h⟩
  · exact vx_isRef h rfl
  · exact vx_isRef h rfl
/-- the same frame, seen from here: as if the method were called anew in this heap -/
theorem vx_rebase {T : State} (X : Stand p l e R s m args below meth c T locs cells slots) {R' : Room} (hf : R'.frames ≤ R.frames) (hl : R'.locals ≤ R.locals) (hc : cells + R'.cells ≤ R.cells) (hs : slots + R'.slots ≤ R.slots) :
    Stand p l e R' ((T.setVm s.vm).setFrames (.invoking m args :: below)) m args below meth c T [] 0 0 := by
  have htop : (T.setVm s.vm).topJava?.isSome := X.here.top
  have hF : ((T.setVm s.vm).setFrames (.invoking m args :: below)).frames = .invoking m args :: below := State.frames_setFrames _ (State.cur_lt_of_top htop)
  obtain ⟨g₀, hg0⟩ := Option.isSome_iff_exists.mp htop
  obtain ⟨r, hr⟩ := State.topJava?_eq_some.mp hg0
  have hl9 : e.platform.stackLimits (T.setVm s.vm).me = e.platform.stackLimits s.me := X.limits
  have hb9 : (T.setVm s.vm).me.stackBytes = s.me.stackBytes := X.bytes
  refine ⟨X.admits, X.cas, X.clock, hF, ?_, X.hears, X.method, X.code, X.here, X.tail, X.warmed, ?_, ?_, ?_⟩
  · have h := X.room
    have hU : ((T.setVm s.vm).setFrames (.invoking m args :: below)).localsInUse = s.localsInUse := by
      rw [State.localsInUse_invoking hF (meth := meth) (c := c) X.method X.code, State.localsInUse_invoking X.frames X.method X.code]
    simp only [State.hasRoom, Bool.and_eq_true, decide_eq_true_eq] at h ⊢
    obtain ⟨⟨⟨⟨h1, h2, h3, h4, h5, h6⟩, h7⟩, h8⟩, h9⟩ := h
    rw [X.frames, List.length_cons] at h2 h3
    have q1 := X.heapSize
    have q2 := X.used
    simp only [hF, hU, List.length_cons, State.stackLimits_setFrames, State.stackBytes_setFrames, hl9, hb9]
    refine ⟨⟨⟨⟨by omega, by omega, by omega, by omega, by omega, h6⟩, ?_⟩, ?_⟩, X.book⟩
    · show T.heap.size + R'.cells ≤ e.platform.maxCells
      omega
    · show T.slotsUsed + R'.slots ≤ e.platform.maxSlots
      omega
  · rw [State.stackLimits_setFrames]; rfl
  · rw [State.stackBytes_setFrames]; rfl
  · refine ⟨?_, Nat.le_refl _, Nat.le_refl _, ?_, ?_, fun a c9 h9 => ⟨c9, h9, rfl, rfl, fun _ _ => rfl⟩⟩
    · obtain ⟨t, ht, -⟩ := State.frames_cons hr
      show T.setVm s.vm = { ((T.setVm s.vm).setFrames (.invoking m args :: below)).setFrames (T.setVm s.vm).frames with heap := T.heap, slotsUsed := T.slotsUsed }
      rw [State.setFrames_setFrames, State.setFrames_self ht]
      rfl
    · show T.slotsUsed = T.slotsUsed + ((T.heap.toList.drop T.heap.size).map (·.slots.size)).sum
      rw [List.drop_eq_nil_of_le (Nat.le_of_eq Array.length_toList)]
      rfl
    · show ((T.heap.toList.drop T.heap.size).map (·.slots.size)).sum ≤ 0
      rw [List.drop_eq_nil_of_le (Nat.le_of_eq Array.length_toList)]
      exact Nat.le_refl _
/-- 'throw new E()': new; dup; invokespecial; athrow -/
theorem vx_throw0 {cc : ByteArray} {pc : Nat} (hexec : p.tables.exec = Jvm.exec) (hb : c.code = cc) (hl : l.stackTraces = false) {own cls : String} {names : List String} {ik ic mc ms : Nat} {A : Nat → Prop}
    (hown : s.vm.findClass own = some m.cls) (hcls : Bundle.fit cls = true) (hnames : ∀ n ∈ names, Bundle.fit n = true)
    (hk : (Cond.classLink own ik cls).before args s = true) (hini : (Cond.initialized cls).before args s = true) (hat : ∀ w ∈ vx_at0 own ic cls names, w.before args s = true)
    (hgood : ∀ w ∈ Cond.classLink own ik cls :: Cond.initialized cls :: vx_at0 own ic cls names, vx_ot w = true)
    (hU : vx_Zq Bundle.tN "UNASSIGNED_STACK" Bundle.steD A s s.heap) (hN : vx_Zq Bundle.tN "SUPPRESSED_SENTINEL" Bundle.listD A s s.heap) (hS : va_S A s.heap H locs) (hsize : ls.size = c.maxLocals)
    (d0 : decode cc pc = .ok (.new ik, 3)) (d3 : decode cc (pc + 3) = .ok (.dup, 1)) (d4 : decode cc (pc + 4) = .ok (.invokespecial ic, 3)) (d7 : decode cc (pc + 7) = .ok (.athrow, 1))
    (hout : ∀ x ∈ c.exceptionTable.toList, covers x (pc + 7) = false)
    (hRframes : names.length + 3 < R.frames) (hRlocals : (rest.map fun v => v.category).sum + (13 * (names.length + 1) + 42) ≤ R.locals) (hRcells : cells + 1 ≤ R.cells) (hRslots : slots + 6 ≤ R.slots) (hlocks : meth.locks = false)
    (hx : ∀ t : State, s.vm.Alike t.vm → H.size ≤ t.heap.size → (∀ q : Nat, q < H.size → t.heap[q]? = H[q]?) → XC cls s t)
    (hf : ∀ z ∈ locs, free z.base) (hc : cells + 1 ≤ mc) (hs : slots + 6 ≤ ms) :
    W p l e R s m args below meth c H locs cells slots (vx_MQ below Qc XC args s mc ms free) (F0 m pc ls rest) := by
  intro T hT X
  have htr : e.platform.stackTraces = false := (show e.platform.stackTraces = l.stackTraces by rw [X.admits.platform]).trans hl
  have Y := vx_rebase X (R' := { frames := R.frames, locals := R.locals, cells := 1, slots := 6 }) (Nat.le_refl _) (Nat.le_refl _) hRcells hRslots
  obtain ⟨s', hA⟩ : ∃ z, z = (T.setVm s.vm).setFrames (.invoking m args :: below) := ⟨_, rfl⟩
  rw [← hA] at Y
  have hvm : s'.vm = s.vm := by rw [hA]; rfl
  have hhp : s'.heap = H := by rw [hA]; exact hT
  have hW0 : s.WarmedH s'.vm := by rw [hvm]; exact State.WarmedH.refl s
  have hat' : ∀ w ∈ vx_at0 own ic cls names, w.before args s' = true := fun w hw => vx_ot_at hW0 hvm.symm (hgood w (List.mem_cons_of_mem _ (List.mem_cons_of_mem _ hw))) (hat w hw)
  have hk' : (Cond.classLink own ik cls).before args s' = true := vx_ot_at hW0 hvm.symm (hgood _ List.mem_cons_self) hk
  have hini' : (Cond.initialized cls).before args s' = true := vx_ot_at hW0 hvm.symm (hgood _ (List.mem_cons_of_mem _ List.mem_cons_self)) hini
  have hU' : vx_Zq Bundle.tN "UNASSIGNED_STACK" Bundle.steD A s' s'.heap := by rw [hhp]; exact vx_Zq.moved hW0.alike (hU.kept hS.2.1)
  have hN' : vx_Zq Bundle.tN "SUPPRESSED_SENTINEL" Bundle.listD A s' s'.heap := by rw [hhp]; exact vx_Zq.moved hW0.alike (hN.kept hS.2.1)
  have h : ∀ w ∈ Bundle.ownAtoms0 own ic cls names, w.before args s' = true := vx_own hat' (vx_isRefq hU'.1) (vx_isRefq hN'.1) hU'.2.word hN'.2.word
  have hown' : s'.vm.findClass own = some m.cls := by rw [hvm]; exact hown
  have hins : (Cond.instantiable cls 6).before args s' = true := h _ (by simp [Bundle.ownAtoms0])
  obtain ⟨vm₁, cX, kX, hfX, hkX, -, -, X₁, st1⟩ := Y.newCold hexec (own := own) (C := cls) (index := ik) (n := 6) hown' hk' hins hini'
    (g := F0 m pc ls rest) rfl (by rw [hb]; exact d0) (Nat.le_refl _) (Nat.le_refl _)
  generalize hT1 : (T.setVm vm₁).pushCell { cls := cX, slots := kX.instanceTypes.map defaultValue, vm := .none } = T1 at X₁ st1
  have hcat : (Value.ref T.heap.size).category = 1 := rfl
  have hcellA : T1.heap[T.heap.size]? = some (freshCell cX kX) := by rw [← hT1]; exact State.heap_pushCell_size _ _
  have d3' : decode c.code (pc + 3) = .ok (.dup, 1) := by rw [hb]; exact d3
  obtain ⟨U, hsteps, hrun, hend, hW, hsame, ce, hce, hO⟩ := X₁.ctorThrow0 hexec htr (own := own) (cls := cls) (names := names) (ic := ic) hown' hcls hnames h (fun x hx => nomatch hx) hfX hkX hcellA (by rw [hhp, hT]; exact Nat.le_refl _)
    (g := { method := m, pc := pc + 4, locals := ls, stack := .ref T.heap.size :: .ref T.heap.size :: rest, locked := none }) rfl hsize rfl rfl (rest := rest) rfl
    (by rw [hb]; exact d4) (by rw [hb]; exact d7) hout hRframes (by simp only [List.map_cons, List.sum_cons, hcat]; omega) hlocks
  obtain ⟨f1, f2⟩ := vx_frame hsame
  rw [hhp] at f1 f2
  have hWs : s.WarmedH U.vm := State.WarmedH.trans hW0 hW
  have hcl : s.vm.findClass cls = some ce.cls := by
    have h9 := hO.cls
    rw [hvm] at h9
    exact h9
  have hall : s.sameButNew ({ U with vm := s.vm } : State) locs mc ms := by
    subst hA
    obtain ⟨e1, e2⟩ := hsame
    rw [State.setFrames_setFrames] at e1
    have h2 : (T.setVm s.vm).sameButNew ({ U with vm := s.vm } : State) [] (0 + 1) (0 + 6) := ⟨e1, e2⟩
    have h3 := X.same.trans h2
    rw [List.append_nil] at h3
    exact h3.mono hc hs
  refine ⟨U, ?_, .threw T.heap.size, hrun, hend, Or.inr ⟨T.heap.size, rfl, cls, ce, locs, hx U hWs.alike f1 (fun q hq => f2 q hq (fun z hz => nomatch hz)), hce, hO.vm, hcl, hWs, hall, hf⟩⟩
  refine st1 _ ?_
  show Steps p.tables e below (T1.setTop { method := m, pc := pc + 3, locals := ls, stack := .ref T.heap.size :: rest, locked := none }) _
  jvm_step X₁.here [X₁.here.top, hexec, d3', Value.category]
  exact hsteps
/-- 'throw new E("text")': new; dup; ldc; invokespecial; athrow -/
theorem vx_throwS {cc : ByteArray} {pc : Nat} (hexec : p.tables.exec = Jvm.exec) (hb : c.code = cc) (hl : l.stackTraces = false) {own cls text : String} {names : List String} {ik is ic mc ms sa : Nat} {A : Nat → Prop}
    (hown : s.vm.findClass own = some m.cls) (hcls : Bundle.fit cls = true) (hnames : ∀ n ∈ names, Bundle.fit n = true)
    (hk : (Cond.classLink own ik cls).before args s = true) (hini : (Cond.initialized cls).before args s = true) (hstr : vk_R own is text sa s) (hat : ∀ w ∈ vx_atS own ic cls names, w.before args s = true)
    (hgood : ∀ w ∈ Cond.classLink own ik cls :: Cond.initialized cls :: vx_atS own ic cls names, vx_ot w = true)
    (hU : vx_Zq Bundle.tN "UNASSIGNED_STACK" Bundle.steD A s s.heap) (hN : vx_Zq Bundle.tN "SUPPRESSED_SENTINEL" Bundle.listD A s s.heap) (hS : va_S A s.heap H locs) (hsize : ls.size = c.maxLocals)
    (d0 : decode cc pc = .ok (.new ik, 3)) (d3 : decode cc (pc + 3) = .ok (.dup, 1)) (d4 : decode cc (pc + 4) = .ok (.ldc is, 2)) (d6 : decode cc (pc + 6) = .ok (.invokespecial ic, 3)) (d9 : decode cc (pc + 9) = .ok (.athrow, 1))
    (hout : ∀ x ∈ c.exceptionTable.toList, covers x (pc + 9) = false)
    (hRframes : names.length + 3 < R.frames) (hRlocals : (rest.map fun v => v.category).sum + (13 * (names.length + 1) + 43) ≤ R.locals) (hRcells : cells + 1 ≤ R.cells) (hRslots : slots + 6 ≤ R.slots) (hlocks : meth.locks = false)
    (hx : ∀ t : State, s.vm.Alike t.vm → H.size ≤ t.heap.size → (∀ q : Nat, q < H.size → t.heap[q]? = H[q]?) → XC cls s t)
    (hf : ∀ z ∈ locs, free z.base) (hc : cells + 1 ≤ mc) (hs : slots + 6 ≤ ms) :
    W p l e R s m args below meth c H locs cells slots (vx_MQ below Qc XC args s mc ms free) (F0 m pc ls rest) := by
  intro T hT X
  have htr : e.platform.stackTraces = false := (show e.platform.stackTraces = l.stackTraces by rw [X.admits.platform]).trans hl
  have Y := vx_rebase X (R' := { frames := R.frames, locals := R.locals, cells := 1, slots := 6 }) (Nat.le_refl _) (Nat.le_refl _) hRcells hRslots
  obtain ⟨s', hA⟩ : ∃ z, z = (T.setVm s.vm).setFrames (.invoking m args :: below) := ⟨_, rfl⟩
  rw [← hA] at Y
  have hvm : s'.vm = s.vm := by rw [hA]; rfl
  have hhp : s'.heap = H := by rw [hA]; exact hT
  have hW0 : s.WarmedH s'.vm := by rw [hvm]; exact State.WarmedH.refl s
  have hat' : ∀ w ∈ vx_atS own ic cls names, w.before args s' = true := fun w hw => vx_ot_at hW0 hvm.symm (hgood w (List.mem_cons_of_mem _ (List.mem_cons_of_mem _ hw))) (hat w hw)
  have hk' : (Cond.classLink own ik cls).before args s' = true := vx_ot_at hW0 hvm.symm (hgood _ List.mem_cons_self) hk
  have hini' : (Cond.initialized cls).before args s' = true := vx_ot_at hW0 hvm.symm (hgood _ (List.mem_cons_of_mem _ List.mem_cons_self)) hini
  have hU' : vx_Zq Bundle.tN "UNASSIGNED_STACK" Bundle.steD A s' s'.heap := by rw [hhp]; exact vx_Zq.moved hW0.alike (hU.kept hS.2.1)
  have hN' : vx_Zq Bundle.tN "SUPPRESSED_SENTINEL" Bundle.listD A s' s'.heap := by rw [hhp]; exact vx_Zq.moved hW0.alike (hN.kept hS.2.1)
  have h : ∀ w ∈ Bundle.ownAtoms own ic cls names, w.before args s' = true := vx_own hat' (vx_isRefq hU'.1) (vx_isRefq hN'.1) hU'.2.word hN'.2.word
  have hown' : s'.vm.findClass own = some m.cls := by rw [hvm]; exact hown
  have hins : (Cond.instantiable cls 6).before args s' = true := h _ (by simp [Bundle.ownAtoms])
  obtain ⟨vm₁, cX, kX, hfX, hkX, -, -, X₁, st1⟩ := Y.newCold hexec (own := own) (C := cls) (index := ik) (n := 6) hown' hk' hins hini'
    (g := F0 m pc ls rest) rfl (by rw [hb]; exact d0) (Nat.le_refl _) (Nat.le_refl _)
  generalize hT1 : (T.setVm vm₁).pushCell { cls := cX, slots := kX.instanceTypes.map defaultValue, vm := .none } = T1 at X₁ st1
  have hcat : (Value.ref T.heap.size).category = 1 := rfl
  have hcellA : T1.heap[T.heap.size]? = some (freshCell cX kX) := by rw [← hT1]; exact State.heap_pushCell_size _ _
  have d3' : decode c.code (pc + 3) = .ok (.dup, 1) := by rw [hb]; exact d3
  have d4' : decode c.code (pc + 4) = .ok (.ldc is, 2) := by rw [hb]; exact d4
  have hstr' : vk_R own is text sa s' := vk_R.warm hW0 hstr
  obtain ⟨U, hsteps, hrun, hend, hW, hsame, ce, hce, hO⟩ := X₁.ctorThrowS hexec htr (own := own) (cls := cls) (names := names) (ic := ic) hown' hcls hnames h (fun x hx => nomatch hx) hfX hkX hcellA (by rw [hhp, hT]; exact Nat.le_refl _) (msg := .ref sa) rfl
    (g := { method := m, pc := pc + 6, locals := ls, stack := .ref sa :: .ref T.heap.size :: .ref T.heap.size :: rest, locked := none }) rfl hsize rfl rfl (rest := rest) rfl
    (by rw [hb]; exact d6) (by rw [hb]; exact d9) hout hRframes (by simp only [List.map_cons, List.sum_cons, hcat]; omega) hlocks
  obtain ⟨f1, f2⟩ := vx_frame hsame
  rw [hhp] at f1 f2
  have hWs : s.WarmedH U.vm := State.WarmedH.trans hW0 hW
  have hcl : s.vm.findClass cls = some ce.cls := by
    have h9 := hO.cls
    rw [hvm] at h9
    exact h9
  have hall : s.sameButNew ({ U with vm := s.vm } : State) locs mc ms := by
    subst hA
    obtain ⟨e1, e2⟩ := hsame
    rw [State.setFrames_setFrames] at e1
    have h2 : (T.setVm s.vm).sameButNew ({ U with vm := s.vm } : State) [] (0 + 1) (0 + 6) := ⟨e1, e2⟩
    have h3 := X.same.trans h2
    rw [List.append_nil] at h3
    exact h3.mono hc hs
  refine ⟨U, ?_, .threw T.heap.size, hrun, hend, Or.inr ⟨T.heap.size, rfl, cls, ce, locs, hx U hWs.alike f1 (fun q hq => f2 q hq (fun z hz => nomatch hz)), hce, hO.vm, hcl, hWs, hall, hf⟩⟩
  refine st1 _ ?_
  show Steps p.tables e below (T1.setTop { method := m, pc := pc + 3, locals := ls, stack := .ref T.heap.size :: rest, locked := none }) _
  jvm_step X₁.here [X₁.here.top, hexec, d3', Value.category]
  exact X₁.ldcString hexec (own := own) (text := text) (index := is) (a := sa) hown' hstr'.1 hstr'.2
    (g := { method := m, pc := pc + 4, locals := ls, stack := .ref T.heap.size :: .ref T.heap.size :: rest, locked := none }) rfl d4' _ hsteps
/-- 'throw new E("text")', the text by a wide index -/
theorem vx_throwSW {cc : ByteArray} {pc : Nat} (hexec : p.tables.exec = Jvm.exec) (hb : c.code = cc) (hl : l.stackTraces = false) {own cls text : String} {names : List String} {ik is ic mc ms sa : Nat} {A : Nat → Prop}
    (hown : s.vm.findClass own = some m.cls) (hcls : Bundle.fit cls = true) (hnames : ∀ n ∈ names, Bundle.fit n = true)
    (hk : (Cond.classLink own ik cls).before args s = true) (hini : (Cond.initialized cls).before args s = true) (hstr : vk_R own is text sa s) (hat : ∀ w ∈ vx_atS own ic cls names, w.before args s = true)
    (hgood : ∀ w ∈ Cond.classLink own ik cls :: Cond.initialized cls :: vx_atS own ic cls names, vx_ot w = true)
    (hU : vx_Zq Bundle.tN "UNASSIGNED_STACK" Bundle.steD A s s.heap) (hN : vx_Zq Bundle.tN "SUPPRESSED_SENTINEL" Bundle.listD A s s.heap) (hS : va_S A s.heap H locs) (hsize : ls.size = c.maxLocals)
    (d0 : decode cc pc = .ok (.new ik, 3)) (d3 : decode cc (pc + 3) = .ok (.dup, 1)) (d4 : decode cc (pc + 4) = .ok (.ldc_w is, 3)) (d7 : decode cc (pc + 7) = .ok (.invokespecial ic, 3)) (d10 : decode cc (pc + 10) = .ok (.athrow, 1))
    (hout : ∀ x ∈ c.exceptionTable.toList, covers x (pc + 10) = false)
    (hRframes : names.length + 3 < R.frames) (hRlocals : (rest.map fun v => v.category).sum + (13 * (names.length + 1) + 43) ≤ R.locals) (hRcells : cells + 1 ≤ R.cells) (hRslots : slots + 6 ≤ R.slots) (hlocks : meth.locks = false)
    (hx : ∀ t : State, s.vm.Alike t.vm → H.size ≤ t.heap.size → (∀ q : Nat, q < H.size → t.heap[q]? = H[q]?) → XC cls s t)
    (hf : ∀ z ∈ locs, free z.base) (hc : cells + 1 ≤ mc) (hs : slots + 6 ≤ ms) :
    W p l e R s m args below meth c H locs cells slots (vx_MQ below Qc XC args s mc ms free) (F0 m pc ls rest) := by
  intro T hT X
  have htr : e.platform.stackTraces = false := (show e.platform.stackTraces = l.stackTraces by rw [X.admits.platform]).trans hl
  have Y := vx_rebase X (R' := { frames := R.frames, locals := R.locals, cells := 1, slots := 6 }) (Nat.le_refl _) (Nat.le_refl _) hRcells hRslots
  obtain ⟨s', hA⟩ : ∃ z, z = (T.setVm s.vm).setFrames (.invoking m args :: below) := ⟨_, rfl⟩
  rw [← hA] at Y
  have hvm : s'.vm = s.vm := by rw [hA]; rfl
  have hhp : s'.heap = H := by rw [hA]; exact hT
  have hW0 : s.WarmedH s'.vm := by rw [hvm]; exact State.WarmedH.refl s
  have hat' : ∀ w ∈ vx_atS own ic cls names, w.before args s' = true := fun w hw => vx_ot_at hW0 hvm.symm (hgood w (List.mem_cons_of_mem _ (List.mem_cons_of_mem _ hw))) (hat w hw)
  have hk' : (Cond.classLink own ik cls).before args s' = true := vx_ot_at hW0 hvm.symm (hgood _ List.mem_cons_self) hk
  have hini' : (Cond.initialized cls).before args s' = true := vx_ot_at hW0 hvm.symm (hgood _ (List.mem_cons_of_mem _ List.mem_cons_self)) hini
  have hU' : vx_Zq Bundle.tN "UNASSIGNED_STACK" Bundle.steD A s' s'.heap := by rw [hhp]; exact vx_Zq.moved hW0.alike (hU.kept hS.2.1)
  have hN' : vx_Zq Bundle.tN "SUPPRESSED_SENTINEL" Bundle.listD A s' s'.heap := by rw [hhp]; exact vx_Zq.moved hW0.alike (hN.kept hS.2.1)
  have h : ∀ w ∈ Bundle.ownAtoms own ic cls names, w.before args s' = true := vx_own hat' (vx_isRefq hU'.1) (vx_isRefq hN'.1) hU'.2.word hN'.2.word
  have hown' : s'.vm.findClass own = some m.cls := by rw [hvm]; exact hown
  have hins : (Cond.instantiable cls 6).before args s' = true := h _ (by simp [Bundle.ownAtoms])
  obtain ⟨vm₁, cX, kX, hfX, hkX, -, -, X₁, st1⟩ := Y.newCold hexec (own := own) (C := cls) (index := ik) (n := 6) hown' hk' hins hini'
    (g := F0 m pc ls rest) rfl (by rw [hb]; exact d0) (Nat.le_refl _) (Nat.le_refl _)
  generalize hT1 : (T.setVm vm₁).pushCell { cls := cX, slots := kX.instanceTypes.map defaultValue, vm := .none } = T1 at X₁ st1
  have hcat : (Value.ref T.heap.size).category = 1 := rfl
  have hcellA : T1.heap[T.heap.size]? = some (freshCell cX kX) := by rw [← hT1]; exact State.heap_pushCell_size _ _
  have d3' : decode c.code (pc + 3) = .ok (.dup, 1) := by rw [hb]; exact d3
  have d4' : decode c.code (pc + 4) = .ok (.ldc_w is, 3) := by rw [hb]; exact d4
  have hstr' : vk_R own is text sa s' := vk_R.warm hW0 hstr
  obtain ⟨U, hsteps, hrun, hend, hW, hsame, ce, hce, hO⟩ := X₁.ctorThrowS hexec htr (own := own) (cls := cls) (names := names) (ic := ic) hown' hcls hnames h (fun x hx => nomatch hx) hfX hkX hcellA (by rw [hhp, hT]; exact Nat.le_refl _) (msg := .ref sa) rfl
    (g := { method := m, pc := pc + 7, locals := ls, stack := .ref sa :: .ref T.heap.size :: .ref T.heap.size :: rest, locked := none }) rfl hsize rfl rfl (rest := rest) rfl
    (by rw [hb]; exact d7) (by rw [hb]; exact d10) hout hRframes (by simp only [List.map_cons, List.sum_cons, hcat]; omega) hlocks
  obtain ⟨f1, f2⟩ := vx_frame hsame
  rw [hhp] at f1 f2
  have hWs : s.WarmedH U.vm := State.WarmedH.trans hW0 hW
  have hcl : s.vm.findClass cls = some ce.cls := by
    have h9 := hO.cls
    rw [hvm] at h9
    exact h9
  have hall : s.sameButNew ({ U with vm := s.vm } : State) locs mc ms := by
    subst hA
    obtain ⟨e1, e2⟩ := hsame
    rw [State.setFrames_setFrames] at e1
    have h2 : (T.setVm s.vm).sameButNew ({ U with vm := s.vm } : State) [] (0 + 1) (0 + 6) := ⟨e1, e2⟩
    have h3 := X.same.trans h2
    rw [List.append_nil] at h3
    exact h3.mono hc hs
  refine ⟨U, ?_, .threw T.heap.size, hrun, hend, Or.inr ⟨T.heap.size, rfl, cls, ce, locs, hx U hWs.alike f1 (fun q hq => f2 q hq (fun z hz => nomatch hz)), hce, hO.vm, hcl, hWs, hall, hf⟩⟩
  refine st1 _ ?_
  show Steps p.tables e below (T1.setTop { method := m, pc := pc + 3, locals := ls, stack := .ref T.heap.size :: rest, locked := none }) _
  jvm_step X₁.here [X₁.here.top, hexec, d3', Value.category]
  exact X₁.ldcStringW hexec (own := own) (text := text) (index := is) (a := sa) hown' hstr'.1 hstr'.2
    (g := { method := m, pc := pc + 4, locals := ls, stack := .ref T.heap.size :: .ref T.heap.size :: rest, locked := none }) rfl d4' _ hsteps
end Ends
section Bodies
variable {l : Launch}
theorem vx_ofW {y : MethodName} {ws ws' : List Cond} {rm : Room} {Pc : Array Value → State → Prop} {Qc : Array Value → State → Outcome → State → Prop} {XC : String → State → State → Prop} {mc ms : Nat} {free : Addr → Prop} {cc : ByteArray} {maxL : Nat} {ret : Option FieldType}
    (hy : plainName y.cls = true) (hw : ws = Cond.code y cc maxL ret :: ws')
    (body : ∀ p e s m args below meth c s₁, BodyLoose p l y (headSpec ws rm) cc maxL ret e s m args below meth c s₁ → c.maxLocals = maxL → (∀ x ∈ c.exceptionTable.toList, False) → Pc args s →
      W p l e (headSpec ws rm).room s m args below meth c s.heap [] 0 0 (vx_MQ below Qc XC args s mc ms free) (entryFrame m args maxL)) : vx_Met l y ws rm Pc Qc XC mc ms free := by
  refine MetFree.of_bodyS (code := cc) (maxLocals := maxL) (ret := ret) hy ?_ ?_
  · intro args s m h hn
    obtain ⟨meth, c, h1, h2, h3, h4, h5, h6, -, -⟩ := Cond.code_spec hn (atoms_spec (ws := ws) h _ (by rw [hw]; exact List.mem_cons_self))
    exact ⟨meth, c, h1, h2, h3, h4, h5, h6⟩
  · intro p e s m args below meth c s₁ B hml hP _
    have hh0 : s₁.heap = s.heap := by rw [B.state]; rfl
    have ht : ∀ x ∈ c.exceptionTable.toList, False := by
      obtain ⟨meth9, c9, h1, h2, -, -, -, -, h7, -⟩ := Cond.code_spec B.named (atoms_spec (ws := ws) B.pre _ (by rw [hw]; exact List.mem_cons_self))
      cases Option.some.inj (h1.symm.trans B.method)
      cases Option.some.inj (h2.symm.trans (Stand.of_body B).code)
      intro x hx
      rw [Array.isEmpty_iff.mp h7] at hx
      cases hx
    obtain ⟨t, a1, o, b1, b2, b3⟩ := body p e s m args below meth c s₁ B hml ht hP s₁ hh0 (Stand.of_body B)
    exact ⟨t, o, a1, b1, b2, b3⟩
/-- the table of a body with handlers -/
theorem vx_table {p : Program} {x y : MethodName} {S : Spec} {cc bytes : ByteArray} {maxL maxL' : Nat} {ret ret' : Option FieldType} {e : Env} {s s₁ : State} {m : MethodId} {args : Array Value} {below : List Frame} {meth : Method} {c : Code} {hh : List (Nat × Nat × Nat × Nat)}
    (B : BodyLoose p l y S cc maxL ret e s m args below meth c s₁) (h : (Cond.codeWith y bytes maxL' ret' hh).before args s = true) : c.exceptionTable.toList = tableOf hh := by
  obtain ⟨m9, meth9, c9, hn9, h1, h2, -, -, h6, -⟩ := Cond.codeWith_spec h
  cases Option.some.inj (hn9.symm.trans B.named)
  cases Option.some.inj (h1.symm.trans B.method)
  cases Option.some.inj (h2.symm.trans (Stand.of_body B).code)
  rw [← h6, table_eq]
end Bodies
end VXA
/-! ===== END ===== -/
/-! ===== BEGIN a static call of a method with an exception table ===== -/
section VXS
variable {p : Program} {l : Launch} {e : Env} {R : Room} {s : State} {m : MethodId} {args : Array Value} {below : List Frame} {meth : Method} {c : Code} {T : State} {H : Heap} {locs : List Loc} {cells slots : Nat}
abbrev vx_CSW (R : Room) (s : State) (args : Array Value) (own : String) (index : Nat) (y : MethodName) (bytes : ByteArray) (maxL : Nat) (ret : Option FieldType) (hh : List (Nat × Nat × Nat × Nat)) (ws : List Cond) (rm : Room) (mc ms n : Nat) : Prop :=
  (rm.cells = mc ∧ rm.slots = ms ∧ rm.frames + 1 ≤ R.frames ∧ 8 + (maxL + 11) + rm.locals ≤ R.locals ∧ (∀ w ∈ ws, ∀ (a' : Array Value) (U : State), s.WarmedH U.vm → w.before a' U = true) ∧ Cond.codeWith y bytes maxL ret hh ∈ ws) ∧
  (Cond.codeWith y bytes maxL ret hh).before args s = true ∧ (Cond.initialized y.cls).before args s = true ∧ (y.cls ≠ "java/lang/invoke/MethodHandle" ∧ y.cls ≠ "java/lang/invoke/VarHandle") ∧
  (∀ sig, parseMethodDescriptor y.desc = some sig → n = sig.parameters.length) ∧ (Cond.methodLink own index y).before args s = true ∧ (Cond.static y).before args s = true
theorem vx_cwSW {own : String} {index maxL mc ms : Nat} {y : MethodName} {bytes : ByteArray} {ret : Option FieldType} {hh : List (Nat × Nat × Nat × Nat)} {Ts ws ws' : List Cond} {rm : Room} (n : Nat) (ht : ∀ w ∈ Ts, w.before args s = true) (hT : GoodIn Ts (va_wsS own index y ws)) (hw : ws = Cond.codeWith y bytes maxL ret hh :: ws') (hrc : rm.cells = mc) (hrs : rm.slots = ms)
    (hd : y.cls ≠ "java/lang/invoke/MethodHandle" ∧ y.cls ≠ "java/lang/invoke/VarHandle" ∧ (parseMethodDescriptor y.desc).map (fun d => d.parameters.length) = some n) (hR : rm.frames + 1 ≤ R.frames ∧ 8 + (maxL + 11) + rm.locals ≤ R.locals) :
    vx_CSW R s args own index y bytes maxL ret hh ws rm mc ms n := by
  have ok : ∀ w ∈ va_wsS own index y ws, w.before args s = true := fun w h => ht w (hT w h).1
  have hG : GoodIn Ts ws := fun w h => hT w (by unfold va_wsS; exact List.mem_append_right _ h)
  have hc : Cond.codeWith y bytes maxL ret hh ∈ ws := by rw [hw]; exact List.mem_cons_self
  refine ⟨⟨hrc, hrs, hR.1, hR.2, pay_in ht hG, hc⟩, ht _ (hG _ hc).1, ok _ (by simp [va_wsS]), ⟨hd.1, hd.2.1⟩, fun sig h => ?_, ok _ (by simp [va_wsS]), ok _ (by simp [va_wsS])⟩
  have h2 := hd.2.2
  rw [h] at h2
  exact (Option.some.inj h2).symm
theorem vx_callSW (X : Stand p l e R s m args below meth c T locs cells slots) (hexec : p.tables.exec = Jvm.exec) {own : String} {index : Nat} {y : MethodName} {bytes : ByteArray} {maxL : Nat} {ret : Option FieldType} {hh : List (Nat × Nat × Nat × Nat)}
    (hown : s.vm.findClass own = some m.cls) (hlink : (Cond.methodLink own index y).before args s = true) (hstat : (Cond.static y).before args s = true) (hinit : (Cond.initialized y.cls).before args s = true)
    (hcode : (Cond.codeWith y bytes maxL ret hh).before args s = true) (hy : y.cls ≠ "java/lang/invoke/MethodHandle" ∧ y.cls ≠ "java/lang/invoke/VarHandle")
    {W9 : Nat} {Pre : Pt → Array Value → Prop} {Post : Pt → Array Value → Option Value → Pt → Prop} (hK : Back l R p e below s args y 3 W9 Pre Post)
    {g : JFrame} (hg : g.method = m) (hsize : g.locals.size = c.maxLocals) {argsL rest : List Value} (hlen : ∀ sig, parseMethodDescriptor y.desc = some sig → argsL.length = sig.parameters.length)
    (hstack : g.stack = argsL.reverse ++ rest) (hW : 2 * g.monitorRoom + (rest.map fun v => v.category).sum ≤ W9) (hdg : decode c.code g.pc = .ok (.invokestatic index, 3))
    (hpre : ∀ vm₁, s.WarmedH vm₁ → Pre ⟨T.setVm vm₁, locs, cells, slots⟩ argsL.toArray) :
    ∃ (v : Option Value) (vm₁ : Vm) (B : Pt), s.WarmedH vm₁ ∧ Stand p l e R s m args below meth c B.U B.locs B.cells B.slots ∧ Post ⟨T.setVm vm₁, locs, cells, slots⟩ argsL.toArray v B ∧
      ∀ target, Steps p.tables e below (B.U.setTop { g with pc := g.pc + 3, stack := v.toList ++ rest }) target → Steps p.tables e below (T.setTop g) target := by
  obtain ⟨mk, methM, cM, hnamed, hmethM, -, -, -, -, -, -, hsigM⟩ := Cond.codeWith_spec hcode
  have hstatic : methM.isStatic = true := Cond.static_spec hnamed hmethM hstat
  obtain ⟨kP, hkP, -⟩ := className_of_methodNamed hnamed
  have hinitP : kP.init = .initialized := Cond.initialized_spec (findClass_of_methodNamed hnamed) hkP hinit
  obtain ⟨vm₁, X₁, hstep₁⟩ := X.invokestatic hexec hown hlink hnamed hmethM hstatic hkP hinitP hy (g := g) hg (argsL := argsL) (rest := rest) (hlen _ hsigM) hstack hdg
  obtain ⟨v, B, X', hpost, hsteps⟩ := hK m meth c ⟨T.setVm vm₁, locs, cells, slots⟩ { g with stack := rest } (.invokestatic index) mk argsL.toArray X₁ hg hsize hdg hW (X₁.named hnamed) (hpre vm₁ X₁.warmed)
  exact ⟨v, vm₁, B, X₁.warmed, X', hpost, fun target h => hstep₁ _ fun acts => by rw [doInvoke_state]; exact hsteps.trans h⟩
theorem vx_runSW {y : MethodName} {bytes cc : ByteArray} {maxL nL mc ms n index : Nat} {ret : Option FieldType} {hh : List (Nat × Nat × Nat × Nat)} {ws : List Cond} {rm : Room} {Pc : Array Value → State → Prop} {Qc : Array Value → State → Outcome → State → Prop} {free : Addr → Prop} {Ts : List Cond} {own : String} {As rest : List Value} {g : JFrame}
    (S : CallFix p m c cc nL s args Ts own) (hM : Met l y ws rm Pc Qc mc ms free) (cw : vx_CSW R s args own index y bytes maxL ret hh ws rm mc ms n) (hp : PreS s H Pc As)
    (hg : g.method = m) (hn : As.length = n) (hsize : g.locals.size = nL) (hstack : g.stack = As.reverse ++ rest) (hW : 2 * g.monitorRoom + (rest.map fun v => v.category).sum ≤ 8) (hdg : decode cc g.pc = .ok (.invokestatic index, 3)) (hf : cells + mc ≤ R.cells ∧ slots + ms ≤ R.slots) :
    va_Run p l e R s m args below meth c H locs cells slots mc ms g rest (Qc As.toArray) (free) := by
  obtain ⟨⟨hrc, hrs, hfr, hlo, hws, hcw⟩, hcode, hini, hy, hlen, hl, hstt⟩ := cw
  have hK : Back l R p e below s args y 3 8 (PreOf R mc ms Pc) (PostOf Qc mc ms free) := va_backW (hh := hh) (bytes := bytes) (maxL := maxL) (ret := ret) hM hp.1 hrc hrs hfr hlo hws hcw (fun a' U hW => word_at hW (Or.inl (by first | rfl | simp [Cond.onTables, Cond.keeps, Cond.steady])) hini)
  obtain ⟨hx, hb, hml, ho, -⟩ := S
  intro T hT X
  obtain ⟨v, vm₁, ⟨U', l2, c2, s2⟩, hW₁, X', ⟨g', mk, t, L, e1, e2, hq, h1, hL, h2, h3⟩, st⟩ := vx_callSW X hx (hh := hh) (bytes := bytes) (maxL := maxL) (ret := ret) ho hl hstt hini hcode hy hK hg (hsize.trans hml.symm) (argsL := As) (rest := rest) (fun sig h => hn.trans (hlen sig h)) hstack hW (by rw [hb]; exact hdg)
    (fun vm₁ hW₁ => ⟨hf.1, hf.2, hp.2 (T.setVm vm₁) hT hW₁⟩)
  dsimp only [Pt.U, Pt.locs, Pt.cells, Pt.slots] at X' e1 e2 h1 h2 h3 st
  subst h1; subst h2; subst h3
  exact ⟨v, (T.setVm vm₁).calling g' mk As.toArray, t, U', L, hT, X', hL, e1, e2, hq, st⟩
/-- not caught here, past rows that name other classes: it goes on to the caller -/
theorem vx_outP {p : Program} {l : Launch} {e : Env} {R : Room} {s : State} {m : MethodId} {args : Array Value} {below : List Frame} {meth : Method} {c : Code} {H : Heap} {locs : List Loc} {cells slots : Nat} {free : Addr → Prop} {ls : Array Slot} {rest : List Value} {Qc : Array Value → State → Outcome → State → Prop} {XC : String → State → State → Prop}
    {pc : Nat} {own E : String} {ce : Cell} {q : Addr} {mc ms : Nat} (hown : s.vm.findClass own = some m.cls) (hlocks : meth.locks = false)
    (hpass : ∀ z ∈ c.exceptionTable.toList, covers z pc = false ∨ (z.catchType ≠ 0 ∧ ∃ nm : String, (Cond.classLink own z.catchType nm).before args s = true ∧ va_Nc E nm s)) (hcell : H[q]? = some ce) (hv : ce.vm = .none) (hcl : s.vm.findClass E = some ce.cls)
    (hx : ∀ t : State, t.heap = H → s.vm.Alike t.vm → XC E s t) (hf : ∀ z ∈ locs, free z.base) (hc : cells ≤ mc) (hs : slots ≤ ms) :
    vx_W p l e R s m args below meth c H locs cells slots (vx_MQ below Qc XC args s mc ms free) (F0 m pc ls rest) q := by
  intro T hT X
  have hpl : e.platform.magicAccessors = ({} : Platform).magicAccessors := by rw [X.admits.platform]
  obtain ⟨vm', hW', X', st⟩ := X.outThrough hlocks q (g := F0 m pc ls rest) rfl rfl rfl (cell := ce) (by rw [hT]; exact hcell) (by rw [hv]; rfl)
    (by obtain ⟨k9, h9, -⟩ := Vm.findClass_spec hcl; exact ⟨k9, h9⟩) (fun z hz => by
      rcases hpass z hz with h | ⟨hz0, nm, hl1, hn1⟩
      · exact Or.inl h
      · obtain ⟨c6, hc6, hcl6⟩ := Cond.classLink_spec hown hl1 e.platform hpl
        obtain ⟨a8, b8, h1, h2, h3⟩ := hn1
        cases Option.some.inj (h1.symm.trans hcl)
        cases Option.some.inj (h2.symm.trans hc6)
        exact Or.inr ⟨hz0, _, hcl6, h3⟩)
  obtain ⟨g₀, hfr⟩ := X'.frames_eq
  have hcell9 : ((T.setVm vm').setFrames (.throwing q :: below)).heap[q]? = some ce := by
    show T.heap[q]? = some ce
    rw [hT]; exact hcell
  have hend : Ended ((T.setVm vm').setFrames (.throwing q :: below)) below (.threw q) := State.frames_setFrames _ (State.cur_lt_of_frames hfr)
  refine ⟨(T.setVm vm').setFrames (.throwing q :: below), ?_, .threw q, X'.here.running, hend, Or.inr ⟨q, rfl, E, ce, locs, hx _ hT (X'.ends _).1.alike, hcell9, hv, hcl, (X'.ends _).1, (X'.ends _).2.mono hc hs, hf⟩⟩
  rw [X.pushThrowing_eq]
  exact st
/-- a thing of a world lies in the heap -/
theorem vx_lt {D : va_G} {cl : List vw_C} {ws : va_W} {H1 : Heap} (h : va_P D cl ws H1) {k : Nat} {q : Nat × va_E} (hk : ws[k]? = some q) : q.1 < H1.size := (h k q hk).lt
end VXS
/-! ===== END ===== -/
/-! ===== BEGIN methods with a table of their own: called by a name, returning or throwing ===== -/
section VXH
/-! vx_backW, vx_callVX, vx_callSX, vx_callVW, vx_runVW, vx_runVX, vx_runSX, vx_ofWH follow the same proofs as their sisters above (Free/Laws.lean, Shelf42/LK1.lean); vx_outP calls Shelf42/NT130.lean (outThrough). -/
section
variable {l : Launch} {R : Room} {p : Program} {e : Env} {below : List Frame} {s : State} {sargs : Array Value} {y : MethodName} {len W9 : Nat}
theorem vx_backW {ws : List Cond} {rm : Room} {Pc : Array Value → State → Prop} {Qc : Array Value → State → Outcome → State → Prop} {XC : String → State → State → Prop} {mc ms : Nat} {free : Addr → Prop} {bytes : ByteArray} {maxL : Nat} {ret : Option FieldType} {hh : List (Nat × Nat × Nat × Nat)}
    (hM : vx_Met l y ws rm Pc Qc XC mc ms free) (hblind : FrameBlind Pc) (hrc : rm.cells = mc) (hrs : rm.slots = ms)
    (hframes : rm.frames + 1 ≤ R.frames) (hlocals : W9 + (maxL + 11) + rm.locals ≤ R.locals)
    (hws : ∀ w ∈ ws, ∀ a' U, s.WarmedH U.vm → w.before a' U = true) (hcode : Cond.codeWith y bytes maxL ret hh ∈ ws) (hinit : ∀ a' U, s.WarmedH U.vm → (Cond.initialized y.cls).before a' U = true) :
    vx_Back l R p e below s sargs y len W9 (PreOf R mc ms Pc) (PostOf Qc mc ms free) (vx_Post XC mc ms free) := by
  intro m meth c A g ig mk a X hg hsize hdg hW hn hp
  have h1 : (headSpec ws rm).pre.before a A.U = true := atoms_intro fun w hw => hws w hw _ _ X.warmed
  have h2 : (Cond.codeWith y bytes maxL ret hh).before a A.U = true := hws _ hcode _ _ X.warmed
  have h3 : (Cond.initialized y.cls).before a A.U = true := hinit _ _ X.warmed
  have h4 : A.cells + (headSpec ws rm).room.cells ≤ R.cells := by rw [show (headSpec ws rm).room.cells = mc from hrc]; exact hp.1
  have h5 : A.slots + (headSpec ws rm).room.slots ≤ R.slots := by rw [show (headSpec ws rm).room.slots = ms from hrs]; exact hp.2.1
  have hPc : Pc a (A.U.calling g mk a) := hblind _ _ _ _ hp.2.2
  obtain ⟨U, Ls, c0, s0⟩ := A
  dsimp only [Pt.U, Pt.locs, Pt.cells, Pt.slots] at h1 h2 h3 h4 h5 X hn hPc ⊢
  obtain ⟨m9, methY, cY, hn9, hmY, hcY, -, hlY, -⟩ := Cond.codeWith_spec h2
  cases Option.some.inj (hn9.symm.trans hn)
  obtain ⟨kY, hkY, -⟩ := className_of_methodNamed hn
  have hinitY : kY.init = .initialized := Cond.initialized_spec (findClass_of_methodNamed hn) hkY h3
  have h : At U g.method c below := by rw [hg]; exact X.here
  have hlocals9 : W9 + (maxL + 11) + (headSpec ws rm).room.locals ≤ R.locals := hlocals
  have happ : (headSpec ws rm).appliesLoose y e.platform (U.calling g mk a) = true :=
    Spec.appliesLoose_calling (g := g) h hdg hn hkY hinitY
      (X.room_calling (g := g) (R' := (headSpec ws rm).room) hsize hmY hcY hframes (by rw [hlY]; omega) h4 h5) h1
  obtain ⟨mid, hmid⟩ := h.above
  have hfr : (U.setTop g).frames = (.java g :: mid) ++ below := by rw [State.frames_setTop' g h.top, hmid]; rfl
  obtain ⟨o, s₂, hsteps, -, hend, hq⟩ := Steps.callFree hM p X.admits X.cas X.clock (acts := []) hfr happ hPc trivial
  have hq' : vx_Q Qc XC mc ms free a (U.calling g mk a) o s₂ := hq
  rw [State.frames_setTop' g h.top] at hend
  obtain ⟨g₀, hg0⟩ := Option.isSome_iff_exists.mp h.top
  obtain ⟨r, hr⟩ := State.topJava?_eq_some.mp hg0
  have hr' : (({ U with heap := s₂.heap, slotsUsed := s₂.slotsUsed } : State).setVm s₂.vm).frames = .java g₀ :: r := hr
  rcases hq' with ⟨hqc, L, hfe, hL⟩ | ⟨q, rfl, E, ce, L, hx, hce, hcv, hcl, hW₂, hsm, hL⟩
  · obtain ⟨⟨v, rfl⟩, hW₂, e2, q2, q3, q4, q5, q6⟩ := id hfe
    have e3 : s₂ = ({ (U.calling g mk a).setFrames s₂.frames with heap := s₂.heap, slotsUsed := s₂.slotsUsed } : State).setVm s₂.vm := by
      have : s₂ = ({ s₂ with vm := (U.calling g mk a).vm } : State).setVm s₂.vm := rfl
      rw [e2] at this
      exact this
    obtain ⟨c₂, i₂, len₂, hc₂, hd₂, hf₂⟩ := hend
    have hW' : U.WarmedH s₂.vm := hW₂
    have hcc : c₂ = c := by
      have h1 : s₂.code? g.method = U.code? g.method := by
        rw [State.code?_eq, State.code?_eq, hW'.alike.method?]
      exact Option.some.inj (hc₂.symm.trans (h1.trans h.code))
    subst hcc
    have hlen : len₂ = len := by rw [hdg] at hd₂; cases hd₂; rfl
    subst hlen
    have hs₂ : s₂ = (({ U with heap := s₂.heap, slotsUsed := s₂.slotsUsed } : State).setVm s₂.vm).setTop { g with pc := g.pc + len₂, stack := v.toList ++ g.stack } := by
      refine e3.trans ?_
      rw [hf₂, State.calling_eq h.top, State.setFrames_setFrames, State.setTop_of_frames _ hr', hr]
      rfl
    have hsame : U.sameButNew ({ U with heap := s₂.heap, slotsUsed := s₂.slotsUsed } : State) L mc ms := by
      refine ⟨?_, q2, q3, q4, q5, q6⟩
      obtain ⟨t, ht, -⟩ := State.frames_cons hr
      show ({ U with heap := s₂.heap, slotsUsed := s₂.slotsUsed } : State) = { U.setFrames U.frames with heap := s₂.heap, slotsUsed := s₂.slotsUsed }
      rw [State.setFrames_self ht]
    subst hg
    refine Or.inl ⟨v, ⟨(({ U with heap := s₂.heap, slotsUsed := s₂.slotsUsed } : State).setVm s₂.vm), Ls ++ L, c0 + mc, s0 + ms⟩,
      ⟨X.admits, X.cas, X.clock, X.frames, X.room, X.hears, X.method, X.code, (X.here.setHeapUsed s₂.heap s₂.slotsUsed).setVm hW'.alike, X.tail, State.WarmedH.trans X.warmed hW', X.limits, X.bytes, X.same.trans (hsame.setVm s.vm)⟩,
      ⟨g, mk, s₂, L, rfl, rfl, hqc, rfl, hL, rfl, rfl⟩, ?_⟩
    show Steps p.tables e below _ ((({ U with heap := s₂.heap, slotsUsed := s₂.slotsUsed } : State).setVm s₂.vm).setTop { g with pc := g.pc + len₂, stack := v.toList ++ g.stack })
    rw [← hs₂]
    exact hsteps
  · obtain ⟨e2, q2, q3, q4, q5, q6⟩ := id hsm
    have e3 : s₂ = ({ (U.calling g mk a).setFrames s₂.frames with heap := s₂.heap, slotsUsed := s₂.slotsUsed } : State).setVm s₂.vm := by
      have : s₂ = ({ s₂ with vm := (U.calling g mk a).vm } : State).setVm s₂.vm := rfl
      rw [e2] at this
      exact this
    have hf₂ : s₂.frames = .throwing q :: .java g :: U.frames.tail := hend
    have hW' : U.WarmedH s₂.vm := hW₂
    have hs₂ : s₂ = ((({ U with heap := s₂.heap, slotsUsed := s₂.slotsUsed } : State).setVm s₂.vm).setTop g).pushFrame (.throwing q) := by
      refine e3.trans ?_
      rw [hf₂, State.calling_eq h.top, State.setFrames_setFrames, State.pushFrame, State.frames_setTop _ hr', State.setTop_of_frames _ hr', State.setFrames_setFrames, hr]
      rfl
    have hsame : U.sameButNew ({ U with heap := s₂.heap, slotsUsed := s₂.slotsUsed } : State) L mc ms := by
      refine ⟨?_, q2, q3, q4, q5, q6⟩
      obtain ⟨t, ht, -⟩ := State.frames_cons hr
      show ({ U with heap := s₂.heap, slotsUsed := s₂.slotsUsed } : State) = { U.setFrames U.frames with heap := s₂.heap, slotsUsed := s₂.slotsUsed }
      rw [State.setFrames_self ht]
    subst hg
    refine Or.inr ⟨q, ⟨(({ U with heap := s₂.heap, slotsUsed := s₂.slotsUsed } : State).setVm s₂.vm), Ls ++ L, c0 + mc, s0 + ms⟩,
      ⟨X.admits, X.cas, X.clock, X.frames, X.room, X.hears, X.method, X.code, (X.here.setHeapUsed s₂.heap s₂.slotsUsed).setVm hW'.alike, X.tail, State.WarmedH.trans X.warmed hW', X.limits, X.bytes, X.same.trans (hsame.setVm s.vm)⟩,
      ⟨g, mk, s₂, L, E, ce, rfl, rfl, hx, hce, hcv, hcl, rfl, hL, rfl, rfl⟩, ?_⟩
    show Steps p.tables e below _ (((({ U with heap := s₂.heap, slotsUsed := s₂.slotsUsed } : State).setVm s₂.vm).setTop g).pushFrame (.throwing q))
    rw [← hs₂]
    exact hsteps
end
variable {p : Program} {l : Launch} {e : Env} {R : Room} {s : State} {m : MethodId} {args : Array Value} {below : List Frame} {meth : Method} {c : Code} {T : State} {H : Heap} {locs : List Loc} {cells slots : Nat}
theorem vx_callVX (X : Stand p l e R s m args below meth c T locs cells slots) (hexec : p.tables.exec = Jvm.exec) {own C : String} {index : Nat} {y : MethodName} {bytes : ByteArray} {maxL : Nat} {ret : Option FieldType} {hh : List (Nat × Nat × Nat × Nat)}
    (hown : s.vm.findClass own = some m.cls) (hlink : (Cond.methodLink own index y).before args s = true) (hinst : (Cond.instanceMethod y).before args s = true) (hsel : (Cond.selects C y y).before args s = true)
    (hcode : (Cond.codeWith y bytes maxL ret hh).before args s = true) (hy : y.cls ≠ "java/lang/invoke/MethodHandle" ∧ y.cls ≠ "java/lang/invoke/VarHandle")
    {W9 : Nat} {Pre : Pt → Array Value → Prop} {Post : Pt → Array Value → Option Value → Pt → Prop} {PostX : Pt → Array Value → Addr → Pt → Prop} (hK : vx_Back l R p e below s args y 3 W9 Pre Post PostX)
    {b : Addr} {cellB : Cell} (hcell : T.heap[b]? = some cellB) (hobj : cellB.vm.isStatics = false) (hcls : s.vm.findClass C = some cellB.cls)
    {g : JFrame} (hg : g.method = m) (hsize : g.locals.size = c.maxLocals) {argsL rest : List Value} (hlen : ∀ sig, parseMethodDescriptor y.desc = some sig → argsL.length = sig.parameters.length)
    (hstack : g.stack = argsL.reverse ++ .ref b :: rest) (hW : 2 * g.monitorRoom + (rest.map fun v => v.category).sum ≤ W9) (hdg : decode c.code g.pc = .ok (.invokevirtual index, 3))
    (hpre : ∀ vm₁, s.WarmedH vm₁ → Pre ⟨T.setVm vm₁, locs, cells, slots⟩ (Value.ref b :: argsL).toArray) :
    (∃ (v : Option Value) (vm₁ : Vm) (B : Pt), s.WarmedH vm₁ ∧ Stand p l e R s m args below meth c B.U B.locs B.cells B.slots ∧ Post ⟨T.setVm vm₁, locs, cells, slots⟩ (Value.ref b :: argsL).toArray v B ∧
      ∀ target, Steps p.tables e below (B.U.setTop { g with pc := g.pc + 3, stack := v.toList ++ rest }) target → Steps p.tables e below (T.setTop g) target) ∨
    (∃ (q : Addr) (vm₁ : Vm) (B : Pt), s.WarmedH vm₁ ∧ Stand p l e R s m args below meth c B.U B.locs B.cells B.slots ∧ PostX ⟨T.setVm vm₁, locs, cells, slots⟩ (Value.ref b :: argsL).toArray q B ∧
      Steps p.tables e below (T.setTop g) ((B.U.setTop { g with stack := rest }).pushFrame (.throwing q))) := by
  obtain ⟨mk, methM, hnamed, hmethM, hstM, habM⟩ := Cond.instanceMethod_spec hinst
  obtain ⟨m8, methM', cM, hn8, hmethM', -, -, -, -, -, -, hsigM⟩ := Cond.codeWith_spec hcode
  cases Option.some.inj (hn8.symm.trans hnamed)
  cases hmethM.symm.trans hmethM'
  obtain ⟨c2, r2, m2, q1, q2, q3, q4, kP, hkP, hkPi⟩ := Cond.selects_spec hsel
  cases hcls.symm.trans q1
  cases (State.methodFound?_of_named hnamed hy).symm.trans q2
  cases hnamed.symm.trans q3
  have hselP : selectMethod e.platform s.vm cellB.cls mk = .method mk := by rw [Launch.admits_selectMethod X.admits]; exact q4
  obtain ⟨vm₁, X₁, hstep₁⟩ := X.invokevirtual hexec hown hlink hnamed hmethM hstM hkP hkPi hy (a := b) (cell := cellB) hcell
    (fun z h => by rw [h] at hobj; cases hobj) hselP hmethM habM hkP hkPi (g := g) hg (argsL := argsL) (rest := rest) (hlen _ hsigM) hstack hdg
  rcases hK m meth c ⟨T.setVm vm₁, locs, cells, slots⟩ { g with stack := rest } (.invokevirtual index) mk (Value.ref b :: argsL).toArray X₁ hg hsize hdg hW (X₁.named hnamed) (hpre vm₁ X₁.warmed) with ⟨v, B, X', hpost, hsteps⟩ | ⟨q, B, X', hpost, hsteps⟩
  · exact Or.inl ⟨v, vm₁, B, X₁.warmed, X', hpost, fun target h => hstep₁ _ fun acts => by rw [doInvoke_state]; exact hsteps.trans h⟩
  · exact Or.inr ⟨q, vm₁, B, X₁.warmed, X', hpost, hstep₁ _ fun acts => by rw [doInvoke_state]; exact hsteps⟩
theorem vx_callSX (X : Stand p l e R s m args below meth c T locs cells slots) (hexec : p.tables.exec = Jvm.exec) {own : String} {index : Nat} {y : MethodName} {bytes : ByteArray} {maxL : Nat} {ret : Option FieldType} {hh : List (Nat × Nat × Nat × Nat)}
    (hown : s.vm.findClass own = some m.cls) (hlink : (Cond.methodLink own index y).before args s = true) (hstat : (Cond.static y).before args s = true) (hinit : (Cond.initialized y.cls).before args s = true)
    (hcode : (Cond.codeWith y bytes maxL ret hh).before args s = true) (hy : y.cls ≠ "java/lang/invoke/MethodHandle" ∧ y.cls ≠ "java/lang/invoke/VarHandle")
    {W9 : Nat} {Pre : Pt → Array Value → Prop} {Post : Pt → Array Value → Option Value → Pt → Prop} {PostX : Pt → Array Value → Addr → Pt → Prop} (hK : vx_Back l R p e below s args y 3 W9 Pre Post PostX)
    {g : JFrame} (hg : g.method = m) (hsize : g.locals.size = c.maxLocals) {argsL rest : List Value} (hlen : ∀ sig, parseMethodDescriptor y.desc = some sig → argsL.length = sig.parameters.length)
    (hstack : g.stack = argsL.reverse ++ rest) (hW : 2 * g.monitorRoom + (rest.map fun v => v.category).sum ≤ W9) (hdg : decode c.code g.pc = .ok (.invokestatic index, 3))
    (hpre : ∀ vm₁, s.WarmedH vm₁ → Pre ⟨T.setVm vm₁, locs, cells, slots⟩ argsL.toArray) :
    (∃ (v : Option Value) (vm₁ : Vm) (B : Pt), s.WarmedH vm₁ ∧ Stand p l e R s m args below meth c B.U B.locs B.cells B.slots ∧ Post ⟨T.setVm vm₁, locs, cells, slots⟩ argsL.toArray v B ∧
      ∀ target, Steps p.tables e below (B.U.setTop { g with pc := g.pc + 3, stack := v.toList ++ rest }) target → Steps p.tables e below (T.setTop g) target) ∨
    (∃ (q : Addr) (vm₁ : Vm) (B : Pt), s.WarmedH vm₁ ∧ Stand p l e R s m args below meth c B.U B.locs B.cells B.slots ∧ PostX ⟨T.setVm vm₁, locs, cells, slots⟩ argsL.toArray q B ∧
      Steps p.tables e below (T.setTop g) ((B.U.setTop { g with stack := rest }).pushFrame (.throwing q))) := by
  obtain ⟨mk, methM, cM, hnamed, hmethM, -, -, -, -, -, -, hsigM⟩ := Cond.codeWith_spec hcode
  have hstatic : methM.isStatic = true := Cond.static_spec hnamed hmethM hstat
  obtain ⟨kP, hkP, -⟩ := className_of_methodNamed hnamed
  have hinitP : kP.init = .initialized := Cond.initialized_spec (findClass_of_methodNamed hnamed) hkP hinit
  obtain ⟨vm₁, X₁, hstep₁⟩ := X.invokestatic hexec hown hlink hnamed hmethM hstatic hkP hinitP hy (g := g) hg (argsL := argsL) (rest := rest) (hlen _ hsigM) hstack hdg
  rcases hK m meth c ⟨T.setVm vm₁, locs, cells, slots⟩ { g with stack := rest } (.invokestatic index) mk argsL.toArray X₁ hg hsize hdg hW (X₁.named hnamed) (hpre vm₁ X₁.warmed) with ⟨v, B, X', hpost, hsteps⟩ | ⟨q, B, X', hpost, hsteps⟩
  · exact Or.inl ⟨v, vm₁, B, X₁.warmed, X', hpost, fun target h => hstep₁ _ fun acts => by rw [doInvoke_state]; exact hsteps.trans h⟩
  · exact Or.inr ⟨q, vm₁, B, X₁.warmed, X', hpost, hstep₁ _ fun acts => by rw [doInvoke_state]; exact hsteps⟩
theorem vx_callVW (X : Stand p l e R s m args below meth c T locs cells slots) (hexec : p.tables.exec = Jvm.exec) {own C : String} {index : Nat} {y : MethodName} {bytes : ByteArray} {maxL : Nat} {ret : Option FieldType} {hh : List (Nat × Nat × Nat × Nat)}
    (hown : s.vm.findClass own = some m.cls) (hlink : (Cond.methodLink own index y).before args s = true) (hinst : (Cond.instanceMethod y).before args s = true) (hsel : (Cond.selects C y y).before args s = true)
    (hcode : (Cond.codeWith y bytes maxL ret hh).before args s = true) (hy : y.cls ≠ "java/lang/invoke/MethodHandle" ∧ y.cls ≠ "java/lang/invoke/VarHandle")
    {W9 : Nat} {Pre : Pt → Array Value → Prop} {Post : Pt → Array Value → Option Value → Pt → Prop} (hK : Back l R p e below s args y 3 W9 Pre Post)
    {b : Addr} {cellB : Cell} (hcell : T.heap[b]? = some cellB) (hobj : cellB.vm.isStatics = false) (hcls : s.vm.findClass C = some cellB.cls)
    {g : JFrame} (hg : g.method = m) (hsize : g.locals.size = c.maxLocals) {argsL rest : List Value} (hlen : ∀ sig, parseMethodDescriptor y.desc = some sig → argsL.length = sig.parameters.length)
    (hstack : g.stack = argsL.reverse ++ .ref b :: rest) (hW : 2 * g.monitorRoom + (rest.map fun v => v.category).sum ≤ W9) (hdg : decode c.code g.pc = .ok (.invokevirtual index, 3))
    (hpre : ∀ vm₁, s.WarmedH vm₁ → Pre ⟨T.setVm vm₁, locs, cells, slots⟩ (Value.ref b :: argsL).toArray) :
    ∃ (v : Option Value) (vm₁ : Vm) (B : Pt), s.WarmedH vm₁ ∧ Stand p l e R s m args below meth c B.U B.locs B.cells B.slots ∧ Post ⟨T.setVm vm₁, locs, cells, slots⟩ (Value.ref b :: argsL).toArray v B ∧
      ∀ target, Steps p.tables e below (B.U.setTop { g with pc := g.pc + 3, stack := v.toList ++ rest }) target → Steps p.tables e below (T.setTop g) target := by
  obtain ⟨mk, methM, hnamed, hmethM, hstM, habM⟩ := Cond.instanceMethod_spec hinst
  obtain ⟨m8, methM', cM, hn8, hmethM', -, -, -, -, -, -, hsigM⟩ := Cond.codeWith_spec hcode
  cases Option.some.inj (hn8.symm.trans hnamed)
  cases hmethM.symm.trans hmethM'
  obtain ⟨c2, r2, m2, q1, q2, q3, q4, kP, hkP, hkPi⟩ := Cond.selects_spec hsel
  cases hcls.symm.trans q1
  cases (State.methodFound?_of_named hnamed hy).symm.trans q2
  cases hnamed.symm.trans q3
  have hselP : selectMethod e.platform s.vm cellB.cls mk = .method mk := by rw [Launch.admits_selectMethod X.admits]; exact q4
  obtain ⟨vm₁, X₁, hstep₁⟩ := X.invokevirtual hexec hown hlink hnamed hmethM hstM hkP hkPi hy (a := b) (cell := cellB) hcell
    (fun z h => by rw [h] at hobj; cases hobj) hselP hmethM habM hkP hkPi (g := g) hg (argsL := argsL) (rest := rest) (hlen _ hsigM) hstack hdg
  obtain ⟨v, B, X', hpost, hsteps⟩ := hK m meth c ⟨T.setVm vm₁, locs, cells, slots⟩ { g with stack := rest } (.invokevirtual index) mk (Value.ref b :: argsL).toArray X₁ hg hsize hdg hW (X₁.named hnamed) (hpre vm₁ X₁.warmed)
  exact ⟨v, vm₁, B, X₁.warmed, X', hpost, fun target h => hstep₁ _ fun acts => by rw [doInvoke_state]; exact hsteps.trans h⟩
abbrev vx_CVW (R : Room) (s : State) (args : Array Value) (own C : String) (index : Nat) (y : MethodName) (bytes : ByteArray) (maxL : Nat) (ret : Option FieldType) (hh : List (Nat × Nat × Nat × Nat)) (ws : List Cond) (rm : Room) (mc ms n : Nat) : Prop :=
  (rm.cells = mc ∧ rm.slots = ms ∧ rm.frames + 1 ≤ R.frames ∧ 8 + (maxL + 11) + rm.locals ≤ R.locals ∧ (∀ w ∈ ws, ∀ (a' : Array Value) (U : State), s.WarmedH U.vm → w.before a' U = true) ∧ Cond.codeWith y bytes maxL ret hh ∈ ws) ∧
  (Cond.codeWith y bytes maxL ret hh).before args s = true ∧ (Cond.initialized y.cls).before args s = true ∧ (y.cls ≠ "java/lang/invoke/MethodHandle" ∧ y.cls ≠ "java/lang/invoke/VarHandle") ∧
  (∀ sig, parseMethodDescriptor y.desc = some sig → n = sig.parameters.length) ∧ (Cond.methodLink own index y).before args s = true ∧ (Cond.instanceMethod y).before args s = true ∧ (Cond.selects C y y).before args s = true
theorem vx_cwVW {own C : String} {index maxL mc ms : Nat} {y : MethodName} {bytes : ByteArray} {ret : Option FieldType} {hh : List (Nat × Nat × Nat × Nat)} {Ts ws ws' : List Cond} {rm : Room} (n : Nat) (ht : ∀ w ∈ Ts, w.before args s = true) (hT : GoodIn Ts (wsV own index C y ws)) (hw : ws = Cond.codeWith y bytes maxL ret hh :: ws') (hrc : rm.cells = mc) (hrs : rm.slots = ms)
    (hd : y.cls = C ∧ y.cls ≠ "java/lang/invoke/MethodHandle" ∧ y.cls ≠ "java/lang/invoke/VarHandle" ∧ (parseMethodDescriptor y.desc).map (fun d => d.parameters.length) = some n) (hR : rm.frames + 1 ≤ R.frames ∧ 8 + (maxL + 11) + rm.locals ≤ R.locals) :
    vx_CVW R s args own C index y bytes maxL ret hh ws rm mc ms n := by
  obtain ⟨hC, hd⟩ := hd
  subst hC
  have ok : ∀ w ∈ wsV own index y.cls y ws, w.before args s = true := fun w h => ht w (hT w h).1
  have hG : GoodIn Ts ws := fun w h => hT w (by unfold wsV; exact List.mem_append_right _ h)
  have hc : Cond.codeWith y bytes maxL ret hh ∈ ws := by rw [hw]; exact List.mem_cons_self
  refine ⟨⟨hrc, hrs, hR.1, hR.2, pay_in ht hG, hc⟩, ht _ (hG _ hc).1, ok _ (by simp [wsV]), ⟨hd.1, hd.2.1⟩, fun sig h => ?_, ok _ (by simp [wsV]), ok _ (by simp [wsV]), ok _ (by simp [wsV])⟩
  have h2 := hd.2.2
  rw [h] at h2
  exact (Option.some.inj h2).symm
theorem vx_runVW {y : MethodName} {bytes cc : ByteArray} {maxL nL mc ms n index : Nat} {ret : Option FieldType} {hh : List (Nat × Nat × Nat × Nat)} {ws : List Cond} {rm : Room} {Pc : Array Value → State → Prop} {Qc : Array Value → State → Outcome → State → Prop} {free : Addr → Prop} {Ts : List Cond} {own C : String} {b : Addr} {As rest : List Value} {g : JFrame}
    (S : CallFix p m c cc nL s args Ts own) (hM : Met l y ws rm Pc Qc mc ms free) (cw : vx_CVW R s args own C index y bytes maxL ret hh ws rm mc ms n) (hp : PreV s H C b Pc As)
    (hg : g.method = m) (hn : As.length = n) (hsize : g.locals.size = nL) (hstack : g.stack = As.reverse ++ .ref b :: rest) (hW : 2 * g.monitorRoom + (rest.map fun v => v.category).sum ≤ 8) (hdg : decode cc g.pc = .ok (.invokevirtual index, 3)) (hf : cells + mc ≤ R.cells ∧ slots + ms ≤ R.slots) :
    va_Run p l e R s m args below meth c H locs cells slots mc ms g rest (Qc (Value.ref b :: As).toArray) free := by
  obtain ⟨⟨hrc, hrs, hfr, hlo, hws, hcw⟩, hcode, hini, hy, hlen, hl, hin, hse⟩ := cw
  have hK : Back l R p e below s args y 3 8 (PreOf R mc ms Pc) (PostOf Qc mc ms free) := va_backW (hh := hh) (bytes := bytes) (maxL := maxL) (ret := ret) hM hp.1 hrc hrs hfr hlo hws hcw (fun a' U hW => word_at hW (Or.inl (by first | rfl | simp [Cond.onTables, Cond.keeps, Cond.steady])) hini)
  obtain ⟨hx, hb, hml, ho, -⟩ := S
  obtain ⟨-, ⟨cellB, hcB, hoB, hclB⟩, hPc⟩ := hp
  intro T hT X
  obtain ⟨v, vm₁, ⟨U', l2, c2, s2⟩, hW₁, X', ⟨g', mk, t, L, e1, e2, hq, h1, hL, h2, h3⟩, st⟩ := vx_callVW X hx (C := C) (hh := hh) (bytes := bytes) (maxL := maxL) (ret := ret) ho hl hin hse hcode hy hK (by rw [hT]; exact hcB) hoB hclB hg (hsize.trans hml.symm) (argsL := As) (rest := rest) (fun sig h => hn.trans (hlen sig h)) hstack hW (by rw [hb]; exact hdg)
    (fun vm₁ hW₁ => ⟨hf.1, hf.2, hPc (T.setVm vm₁) hT hW₁⟩)
  dsimp only [Pt.U, Pt.locs, Pt.cells, Pt.slots] at X' e1 e2 h1 h2 h3 st
  subst h1; subst h2; subst h3
  exact ⟨v, (T.setVm vm₁).calling g' mk (Value.ref b :: As).toArray, t, U', L, hT, X', hL, e1, e2, hq, st⟩
section
variable {y : MethodName} {bytes cc : ByteArray} {maxL nL mc ms n index : Nat} {ret : Option FieldType} {ws : List Cond} {rm : Room} {Pc : Array Value → State → Prop} {Qc : Array Value → State → Outcome → State → Prop} {XC : String → State → State → Prop} {free : Addr → Prop} {Ts : List Cond} {own C : String} {b : Addr} {As rest : List Value} {g : JFrame}
theorem vx_runVX {hh : List (Nat × Nat × Nat × Nat)} (S : CallFix p m c cc nL s args Ts own) (hM : vx_Met l y ws rm Pc Qc XC mc ms free) (cw : vx_CVW R s args own C index y bytes maxL ret hh ws rm mc ms n) (hp : PreV s H C b Pc As)
    (hg : g.method = m) (hn : As.length = n) (hsize : g.locals.size = nL) (hstack : g.stack = As.reverse ++ .ref b :: rest) (hW : 2 * g.monitorRoom + (rest.map fun v => v.category).sum ≤ 8) (hdg : decode cc g.pc = .ok (.invokevirtual index, 3)) (hf : cells + mc ≤ R.cells ∧ slots + ms ≤ R.slots) :
    vx_Run p l e R s m args below meth c H locs cells slots mc ms g rest (Qc (Value.ref b :: As).toArray) XC free := by
  obtain ⟨⟨hrc, hrs, hfr, hlo, hws, hcw⟩, hcode, hini, hy, hlen, hl, hin, hse⟩ := cw
  have hK : vx_Back l R p e below s args y 3 8 (PreOf R mc ms Pc) (PostOf Qc mc ms free) (vx_Post XC mc ms free) := vx_backW (hh := hh) (bytes := bytes) (maxL := maxL) (ret := ret) hM hp.1 hrc hrs hfr hlo hws hcw (fun a' U hW => word_at hW (Or.inl (by first | rfl | simp [Cond.onTables, Cond.keeps, Cond.steady])) hini)
  obtain ⟨hx, hb, hml, ho, -⟩ := S
  obtain ⟨-, ⟨cellB, hcB, hoB, hclB⟩, hPc⟩ := hp
  intro T hT X
  rcases vx_callVX X hx (C := C) (hh := hh) (bytes := bytes) (maxL := maxL) (ret := ret) ho hl hin hse hcode hy hK (by rw [hT]; exact hcB) hoB hclB hg (hsize.trans hml.symm) (argsL := As) (rest := rest) (fun sig h => hn.trans (hlen sig h)) hstack hW (by rw [hb]; exact hdg)
    (fun vm₁ hW₁ => ⟨hf.1, hf.2, hPc (T.setVm vm₁) hT hW₁⟩) with ⟨v, vm₁, ⟨U', l2, c2, s2⟩, hW₁, X', ⟨g', mk, t, L, e1, e2, hq, h1, hL, h2, h3⟩, st⟩ | ⟨q, vm₁, ⟨U', l2, c2, s2⟩, hW₁, X', ⟨g', mk, t, L, E, ce, e1, e2, hq, hce, hcv, hcl, h1, hL, h2, h3⟩, st⟩
  · dsimp only [Pt.U, Pt.locs, Pt.cells, Pt.slots] at X' e1 e2 h1 h2 h3 st
    subst h1; subst h2; subst h3
    exact Or.inl ⟨v, (T.setVm vm₁).calling g' mk (Value.ref b :: As).toArray, t, U', L, hT, X', hL, e1, e2, hq, st⟩
  · dsimp only [Pt.U, Pt.locs, Pt.cells, Pt.slots] at X' e1 e2 h1 h2 h3 st hcl
    subst h1; subst h2; subst h3
    exact Or.inr ⟨q, (T.setVm vm₁).calling g' mk (Value.ref b :: As).toArray, t, U', L, E, ce, hT, X', hL, e1, e2, hq, hce, hcv, vx_cls hW₁ hcl, st⟩
theorem vx_runSX {hh : List (Nat × Nat × Nat × Nat)} (S : CallFix p m c cc nL s args Ts own) (hM : vx_Met l y ws rm Pc Qc XC mc ms free) (cw : vx_CSW R s args own index y bytes maxL ret hh ws rm mc ms n) (hp : PreS s H Pc As)
    (hg : g.method = m) (hn : As.length = n) (hsize : g.locals.size = nL) (hstack : g.stack = As.reverse ++ rest) (hW : 2 * g.monitorRoom + (rest.map fun v => v.category).sum ≤ 8) (hdg : decode cc g.pc = .ok (.invokestatic index, 3)) (hf : cells + mc ≤ R.cells ∧ slots + ms ≤ R.slots) :
    vx_Run p l e R s m args below meth c H locs cells slots mc ms g rest (Qc As.toArray) XC free := by
  obtain ⟨⟨hrc, hrs, hfr, hlo, hws, hcw⟩, hcode, hini, hy, hlen, hl, hstt⟩ := cw
  have hK : vx_Back l R p e below s args y 3 8 (PreOf R mc ms Pc) (PostOf Qc mc ms free) (vx_Post XC mc ms free) := vx_backW (hh := hh) (bytes := bytes) (maxL := maxL) (ret := ret) hM hp.1 hrc hrs hfr hlo hws hcw (fun a' U hW => word_at hW (Or.inl (by first | rfl | simp [Cond.onTables, Cond.keeps, Cond.steady])) hini)
  obtain ⟨hx, hb, hml, ho, -⟩ := S
  intro T hT X
  rcases vx_callSX X hx (hh := hh) (bytes := bytes) (maxL := maxL) (ret := ret) ho hl hstt hini hcode hy hK hg (hsize.trans hml.symm) (argsL := As) (rest := rest) (fun sig h => hn.trans (hlen sig h)) hstack hW (by rw [hb]; exact hdg)
    (fun vm₁ hW₁ => ⟨hf.1, hf.2, hp.2 (T.setVm vm₁) hT hW₁⟩) with ⟨v, vm₁, ⟨U', l2, c2, s2⟩, hW₁, X', ⟨g', mk, t, L, e1, e2, hq, h1, hL, h2, h3⟩, st⟩ | ⟨q, vm₁, ⟨U', l2, c2, s2⟩, hW₁, X', ⟨g', mk, t, L, E, ce, e1, e2, hq, hce, hcv, hcl, h1, hL, h2, h3⟩, st⟩
  · dsimp only [Pt.U, Pt.locs, Pt.cells, Pt.slots] at X' e1 e2 h1 h2 h3 st
    subst h1; subst h2; subst h3
    exact Or.inl ⟨v, (T.setVm vm₁).calling g' mk As.toArray, t, U', L, hT, X', hL, e1, e2, hq, st⟩
  · dsimp only [Pt.U, Pt.locs, Pt.cells, Pt.slots] at X' e1 e2 h1 h2 h3 st hcl
    subst h1; subst h2; subst h3
    exact Or.inr ⟨q, (T.setVm vm₁).calling g' mk As.toArray, t, U', L, E, ce, hT, X', hL, e1, e2, hq, hce, hcv, vx_cls hW₁ hcl, st⟩
end
end VXH
theorem vx_ofWH {l : Launch} {y : MethodName} {ws ws' : List Cond} {rm : Room} {Pc : Array Value → State → Prop} {Qc : Array Value → State → Outcome → State → Prop} {XC : String → State → State → Prop} {mc ms : Nat} {free : Addr → Prop} {cc : ByteArray} {maxL : Nat} {ret : Option FieldType} {hh : List (Nat × Nat × Nat × Nat)}
    (hy : plainName y.cls = true) (hw : ws = Cond.codeWith y cc maxL ret hh :: ws')
    (body : ∀ p e s m args below meth c s₁, BodyLoose p l y (headSpec ws rm) cc maxL ret e s m args below meth c s₁ → c.maxLocals = maxL → Pc args s →
      W p l e (headSpec ws rm).room s m args below meth c s.heap [] 0 0 (vx_MQ below Qc XC args s mc ms free) (entryFrame m args maxL)) : vx_Met l y ws rm Pc Qc XC mc ms free := by
  refine MetFree.of_bodyS (code := cc) (maxLocals := maxL) (ret := ret) hy ?_ ?_
  · intro args s m h hn
    obtain ⟨m9, meth, c, hn9, h1, h2, h3, h4, -, h5, h6, -⟩ := Cond.codeWith_spec (atoms_spec (ws := ws) h _ (by rw [hw]; exact List.mem_cons_self))
    cases hn.symm.trans hn9
    exact ⟨meth, c, h1, h2, h3, h4, h5, h6⟩
  · intro p e s m args below meth c s₁ B hml hP _
    have hh0 : s₁.heap = s.heap := by rw [B.state]; rfl
    obtain ⟨t, a1, o, b1, b2, b3⟩ := body p e s m args below meth c s₁ B hml hP s₁ hh0 (Stand.of_body B)
    exact ⟨t, o, a1, b1, b2, b3⟩
/-! ===== END ===== -/
end
section
def RX0 : String := "Dataroom$Answer"
def TX0 : u_T := fun k => match k with
  | 0 => ("Dataroom$Answer", "party", "I", true)
  | 1 => ("Dataroom$Answer", "files", "I", true)
  | 2 => ("Dataroom$Answer", "bit", "I", true)
  | 3 => ("Dataroom$Answer", "given", "I", true)
  | 4 => ("Dataroom$Answer", "hour", "I", true)
  | _ => ("Dataroom$Answer", "recalled", "Z", false)
def tyX0 : Nat → FieldType := fun k => match k with
  | 0 => .int
  | 1 => .int
  | 2 => .int
  | 3 => .int
  | 4 => .int
  | _ => .boolean
abbrev wsX00 : List Cond := u_ws RX0 TX0 6
theorem nmX0 : ∀ a, a < 6 → ∀ b, b < 6 → a ≠ b → (TX0 a).2.1 ≠ (TX0 b).2.1 := by decide +kernel
theorem tyX0_ok : ∀ k, k < 6 → parseFieldDescriptor (TX0 k).2.2.1 = some (tyX0 k) := by decide +kernel
abbrev cX0_init : ByteArray := prog_2_method_1_code
def yX0_init : MethodName := ⟨RX0, "<init>", "(IIIII)V"⟩
abbrev cX0_standsFor : ByteArray := prog_2_method_2_code
def yX0_standsFor : MethodName := ⟨RX0, "standsFor", "(LDataroom$Party;)Z"⟩
abbrev cX0_tell : ByteArray := prog_2_method_3_code
def yX0_tell : MethodName := ⟨RX0, "tell", "(I)I"⟩
def RX1 : String := "Dataroom$Card"
def TX1 : u_T := fun k => match k with
  | 0 => ("Dataroom$Card", "number", "I", false)
  | _ => ("Dataroom$Card", "sealedTill", "I", false)
def tyX1 : Nat → FieldType := fun k => match k with
  | 0 => .int
  | _ => .int
abbrev wsX10 : List Cond := u_ws RX1 TX1 2
theorem nmX1 : ∀ a, a < 2 → ∀ b, b < 2 → a ≠ b → (TX1 a).2.1 ≠ (TX1 b).2.1 := by decide +kernel
theorem tyX1_ok : ∀ k, k < 2 → parseFieldDescriptor (TX1 k).2.2.1 = some (tyX1 k) := by decide +kernel
abbrev cX1_init : ByteArray := prog_3_method_1_code
def yX1_init : MethodName := ⟨RX1, "<init>", "(I)V"⟩
abbrev cX1_isClosedIn : ByteArray := prog_3_method_2_code
def yX1_isClosedIn : MethodName := ⟨RX1, "isClosedIn", "(I)Z"⟩
def RX2 : String := "Dataroom$Knowledge"
def TX2 : u_T := fun k => match k with
  | 0 => ("Dataroom$Knowledge", "rows", "[I", true)
  | _ => ("Dataroom$Knowledge", "learned", "I", false)
def tyX2 : Nat → FieldType := fun k => match k with
  | 0 => .array .int
  | _ => .int
abbrev wsX20 : List Cond := u_ws RX2 TX2 2
theorem nmX2 : ∀ a, a < 2 → ∀ b, b < 2 → a ≠ b → (TX2 a).2.1 ≠ (TX2 b).2.1 := by decide +kernel
theorem tyX2_ok : ∀ k, k < 2 → parseFieldDescriptor (TX2 k).2.2.1 = some (tyX2 k) := by decide +kernel
abbrev cX2_init : ByteArray := prog_4_method_1_code
def yX2_init : MethodName := ⟨RX2, "<init>", "()V"⟩
abbrev cX2_forget : ByteArray := prog_4_method_2_code
def yX2_forget : MethodName := ⟨RX2, "forget", "()V"⟩
abbrev cX2_learn : ByteArray := prog_4_method_3_code
def yX2_learn : MethodName := ⟨RX2, "learn", "(I)V"⟩
abbrev cX2_learnFrom : ByteArray := prog_4_method_4_code
def yX2_learnFrom : MethodName := ⟨RX2, "learnFrom", "(LDataroom$Knowledge;)V"⟩
abbrev cX2_knows : ByteArray := prog_4_method_5_code
def yX2_knows : MethodName := ⟨RX2, "knows", "(I)Z"⟩
abbrev cX2_wouldReach : ByteArray := prog_4_method_6_code
def yX2_wouldReach : MethodName := ⟨RX2, "wouldReach", "(II)Z"⟩
def RX3 : String := "Dataroom$Marks"
def TX3 : u_T := fun k => match k with
  | 0 => ("Dataroom$Marks", "words", "[J", true)
  | _ => ("Dataroom$Marks", "used", "I", false)
def tyX3 : Nat → FieldType := fun k => match k with
  | 0 => .array .long
  | _ => .int
abbrev wsX30 : List Cond := u_ws RX3 TX3 2
theorem nmX3 : ∀ a, a < 2 → ∀ b, b < 2 → a ≠ b → (TX3 a).2.1 ≠ (TX3 b).2.1 := by decide +kernel
theorem tyX3_ok : ∀ k, k < 2 → parseFieldDescriptor (TX3 k).2.2.1 = some (tyX3 k) := by decide +kernel
abbrev cX3_init : ByteArray := prog_5_method_1_code
def yX3_init : MethodName := ⟨RX3, "<init>", "()V"⟩
abbrev cX3_begin : ByteArray := prog_5_method_2_code
def yX3_begin : MethodName := ⟨RX3, "begin", "(I)V"⟩
abbrev cX3_add : ByteArray := prog_5_method_3_code
def yX3_add : MethodName := ⟨RX3, "add", "(I)V"⟩
abbrev cX3_sets : ByteArray := prog_5_method_4_code
def yX3_sets : MethodName := ⟨RX3, "sets", "()I"⟩
abbrev cX3_isMarked : ByteArray := prog_5_method_5_code
def yX3_isMarked : MethodName := ⟨RX3, "isMarked", "(I)Z"⟩
abbrev cX3_crossed : ByteArray := prog_5_method_6_code
def yX3_crossed : MethodName := ⟨RX3, "crossed", "(JI)J"⟩
def RX4 : String := "Dataroom$Party"
def TX4 : u_T := fun k => match k with
  | 0 => ("Dataroom$Party", "place", "I", true)
  | 1 => ("Dataroom$Party", "budget", "I", false)
  | 2 => ("Dataroom$Party", "rights", "[LDataroom$Right;", true)
  | 3 => ("Dataroom$Party", "known", "[LDataroom$Knowledge;", true)
  | _ => ("Dataroom$Party", "fared", "[I", true)
def tyX4 : Nat → FieldType := fun k => match k with
  | 0 => .int
  | 1 => .int
  | 2 => .array (.object "Dataroom$Right")
  | 3 => .array (.object "Dataroom$Knowledge")
  | _ => .array .int
abbrev wsX40 : List Cond := u_ws RX4 TX4 5
theorem nmX4 : ∀ a, a < 5 → ∀ b, b < 5 → a ≠ b → (TX4 a).2.1 ≠ (TX4 b).2.1 := by decide +kernel
theorem tyX4_ok : ∀ k, k < 5 → parseFieldDescriptor (TX4 k).2.2.1 = some (tyX4 k) := by decide +kernel
abbrev cX4_init : ByteArray := prog_6_method_1_code
def yX4_init : MethodName := ⟨RX4, "<init>", "(II)V"⟩
abbrev cX4_rightFor : ByteArray := prog_6_method_2_code
def yX4_rightFor : MethodName := ⟨RX4, "rightFor", "(I)LDataroom$Right;"⟩
abbrev cX4_setRight : ByteArray := prog_6_method_3_code
def yX4_setRight : MethodName := ⟨RX4, "setRight", "(ILDataroom$Right;)V"⟩
abbrev cX4_rightIn : ByteArray := prog_6_method_4_code
def yX4_rightIn : MethodName := ⟨RX4, "rightIn", "(II)I"⟩
abbrev cX4_countQuestion : ByteArray := prog_6_method_5_code
def yX4_countQuestion : MethodName := ⟨RX4, "countQuestion", "(I)V"⟩
abbrev cX4_questions : ByteArray := prog_6_method_6_code
def yX4_questions : MethodName := ⟨RX4, "questions", "(I)I"⟩
abbrev cX4_learn : ByteArray := prog_6_method_7_code
def yX4_learn : MethodName := ⟨RX4, "learn", "(II)V"⟩
abbrev cX4_forget : ByteArray := prog_6_method_8_code
def yX4_forget : MethodName := ⟨RX4, "forget", "()V"⟩
abbrev cX4_learnedInAll : ByteArray := prog_6_method_9_code
def yX4_learnedInAll : MethodName := ⟨RX4, "learnedInAll", "()I"⟩
abbrev cX4_costOf : ByteArray := prog_6_method_10_code
def yX4_costOf : MethodName := ⟨RX4, "costOf", "(II)I"⟩
abbrev cX4_wouldFindUnread : ByteArray := prog_6_method_11_code
def yX4_wouldFindUnread : MethodName := ⟨RX4, "wouldFindUnread", "(III)Z"⟩
abbrev cX4_wouldFind : ByteArray := prog_6_method_12_code
def yX4_wouldFind : MethodName := ⟨RX4, "wouldFind", "(III)Z"⟩
def RX5 : String := "Dataroom$Right"
def TX5 : u_T := fun k => match k with
  | 0 => ("Dataroom$Right", "kind", "I", true)
  | 1 => ("Dataroom$Right", "from", "I", true)
  | _ => ("Dataroom$Right", "to", "I", true)
def tyX5 : Nat → FieldType := fun k => match k with
  | 0 => .int
  | 1 => .int
  | _ => .int
abbrev wsX50 : List Cond := u_ws RX5 TX5 3
theorem nmX5 : ∀ a, a < 3 → ∀ b, b < 3 → a ≠ b → (TX5 a).2.1 ≠ (TX5 b).2.1 := by decide +kernel
theorem tyX5_ok : ∀ k, k < 3 → parseFieldDescriptor (TX5 k).2.2.1 = some (tyX5 k) := by decide +kernel
abbrev cX5_init : ByteArray := prog_7_method_1_code
def yX5_init : MethodName := ⟨RX5, "<init>", "(III)V"⟩
abbrev cX5_in : ByteArray := prog_7_method_2_code
def yX5_in : MethodName := ⟨RX5, "in", "(I)I"⟩
def RX6 : String := "Dataroom"
def TX6 : u_T := fun k => match k with
  | 0 => ("Dataroom", "allFiles", "Ljava/util/ArrayList;", true)
  | 1 => ("Dataroom", "allParties", "Ljava/util/ArrayList;", true)
  | 2 => ("Dataroom", "allAnswers", "Ljava/util/ArrayList;", true)
  | 3 => ("Dataroom", "now", "I", false)
  | 4 => ("Dataroom", "shared", "LDataroom$Knowledge;", true)
  | _ => ("Dataroom", "marks", "LDataroom$Marks;", true)
def tyX6 : Nat → FieldType := fun k => match k with
  | 0 => .object "java/util/ArrayList"
  | 1 => .object "java/util/ArrayList"
  | 2 => .object "java/util/ArrayList"
  | 3 => .int
  | 4 => .object "Dataroom$Knowledge"
  | _ => .object "Dataroom$Marks"
abbrev wsX60 : List Cond := u_ws RX6 TX6 6
theorem nmX6 : ∀ a, a < 6 → ∀ b, b < 6 → a ≠ b → (TX6 a).2.1 ≠ (TX6 b).2.1 := by decide +kernel
theorem tyX6_ok : ∀ k, k < 6 → parseFieldDescriptor (TX6 k).2.2.1 = some (tyX6 k) := by decide +kernel
abbrev cX6_init : ByteArray := prog_1_method_1_code
def yX6_init : MethodName := ⟨RX6, "<init>", "()V"⟩
abbrev cX6_file : ByteArray := prog_1_method_2_code
def yX6_file : MethodName := ⟨RX6, "file", "(I)I"⟩
abbrev cX6_change : ByteArray := prog_1_method_3_code
def yX6_change : MethodName := ⟨RX6, "change", "(II)I"⟩
abbrev cX6_party : ByteArray := prog_1_method_4_code
def yX6_party : MethodName := ⟨RX6, "party", "(I)I"⟩
abbrev cX6_budget : ByteArray := prog_1_method_5_code
def yX6_budget : MethodName := ⟨RX6, "budget", "(II)I"⟩
abbrev cX6_right : ByteArray := prog_1_method_6_code
def yX6_right : MethodName := ⟨RX6, "right", "(IIIII)V"⟩
abbrev cX6_takeBack : ByteArray := prog_1_method_7_code
def yX6_takeBack : MethodName := ⟨RX6, "takeBack", "(II)I"⟩
abbrev cX6_seal : ByteArray := prog_1_method_8_code
def yX6_seal : MethodName := ⟨RX6, "seal", "(II)V"⟩
abbrev cX6_pass : ByteArray := prog_1_method_9_code
def yX6_pass : MethodName := ⟨RX6, "pass", "(I)I"⟩
abbrev cX6_ask : ByteArray := prog_1_method_10_code
def yX6_ask : MethodName := ⟨RX6, "ask", "(III)I"⟩
abbrev cX6_cost : ByteArray := prog_1_method_11_code
def yX6_cost : MethodName := ⟨RX6, "cost", "(III)I"⟩
abbrev cX6_answer : ByteArray := prog_1_method_12_code
def yX6_answer : MethodName := ⟨RX6, "answer", "(II)I"⟩
abbrev cX6_spent : ByteArray := prog_1_method_13_code
def yX6_spent : MethodName := ⟨RX6, "spent", "(I)I"⟩
abbrev cX6_spentAnew : ByteArray := prog_1_method_14_code
def yX6_spentAnew : MethodName := ⟨RX6, "spentAnew", "(I)I"⟩
abbrev cX6_finds : ByteArray := prog_1_method_15_code
def yX6_finds : MethodName := ⟨RX6, "finds", "(II)I"⟩
abbrev cX6_together : ByteArray := prog_1_method_16_code
def yX6_together : MethodName := ⟨RX6, "together", "(II)I"⟩
abbrev cX6_rightTo : ByteArray := prog_1_method_17_code
def yX6_rightTo : MethodName := ⟨RX6, "rightTo", "(II)I"⟩
abbrev cX6_isSealed : ByteArray := prog_1_method_18_code
def yX6_isSealed : MethodName := ⟨RX6, "isSealed", "(I)Z"⟩
abbrev cX6_count : ByteArray := prog_1_method_19_code
def yX6_count : MethodName := ⟨RX6, "count", "(II)I"⟩
abbrev cX6_partyAt : ByteArray := prog_1_method_20_code
def yX6_partyAt : MethodName := ⟨RX6, "partyAt", "(I)LDataroom$Party;"⟩
abbrev cX6_fileAt : ByteArray := prog_1_method_21_code
def yX6_fileAt : MethodName := ⟨RX6, "fileAt", "(I)LDataroom$Card;"⟩
abbrev cX6_requireFile : ByteArray := prog_1_method_22_code
def yX6_requireFile : MethodName := ⟨RX6, "requireFile", "(I)V"⟩
abbrev cX6_requireRange : ByteArray := prog_1_method_23_code
def yX6_requireRange : MethodName := ⟨RX6, "requireRange", "(III)V"⟩
abbrev cX6_requireQuestion : ByteArray := prog_1_method_24_code
def yX6_requireQuestion : MethodName := ⟨RX6, "requireQuestion", "(II)V"⟩
abbrev cX6_holds : ByteArray := prog_1_method_25_code
def yX6_holds : MethodName := ⟨RX6, "holds", "(II)Z"⟩
abbrev cX6_covers : ByteArray := prog_1_method_26_code
def yX6_covers : MethodName := ⟨RX6, "covers", "(II)Z"⟩
abbrev cX6_refusalOf : ByteArray := prog_1_method_27_code
def yX6_refusalOf : MethodName := ⟨RX6, "refusalOf", "(LDataroom$Party;II)I"⟩
abbrev cX6_lacksRight : ByteArray := prog_1_method_28_code
def yX6_lacksRight : MethodName := ⟨RX6, "lacksRight", "(LDataroom$Party;I)Z"⟩
abbrev cX6_hasSealed : ByteArray := prog_1_method_29_code
def yX6_hasSealed : MethodName := ⟨RX6, "hasSealed", "(I)Z"⟩
abbrev cX6_sumOf : ByteArray := prog_1_method_30_code
def yX6_sumOf : MethodName := ⟨RX6, "sumOf", "(II)I"⟩
abbrev cX6_recall : ByteArray := prog_1_method_31_code
def yX6_recall : MethodName := ⟨RX6, "recall", "(LDataroom$Party;I)I"⟩
abbrev cX6_learnAnew : ByteArray := prog_1_method_32_code
def yX6_learnAnew : MethodName := ⟨RX6, "learnAnew", "(LDataroom$Party;)V"⟩
abbrev cX6_countStanding : ByteArray := prog_1_method_33_code
def yX6_countStanding : MethodName := ⟨RX6, "countStanding", "(LDataroom$Party;)I"⟩
abbrev cX6_countKnownSets : ByteArray := prog_1_method_34_code
def yX6_countKnownSets : MethodName := ⟨RX6, "countKnownSets", "(LDataroom$Party;I)I"⟩
abbrev cX6_generatorsOf : ByteArray := prog_1_method_35_code
def yX6_generatorsOf : MethodName := ⟨RX6, "generatorsOf", "(I)I"⟩
abbrev cX6_shareKnowledge : ByteArray := prog_1_method_36_code
def yX6_shareKnowledge : MethodName := ⟨RX6, "shareKnowledge", "(II)V"⟩
def RX7 : String := "DataroomModel"
def TX7 : u_T := fun k => match k with
  | 0 => ("DataroomModel", "thrown", "I", false)
  | 1 => ("DataroomModel", "now", "I", false)
  | 2 => ("DataroomModel", "files", "I", false)
  | 3 => ("DataroomModel", "number", "[I", true)
  | 4 => ("DataroomModel", "sealedTill", "[I", true)
  | 5 => ("DataroomModel", "parties", "I", false)
  | 6 => ("DataroomModel", "budget", "[I", true)
  | 7 => ("DataroomModel", "right", "[I", true)
  | 8 => ("DataroomModel", "from", "[I", true)
  | 9 => ("DataroomModel", "to", "[I", true)
  | 10 => ("DataroomModel", "answers", "I", false)
  | 11 => ("DataroomModel", "who", "[I", true)
  | 12 => ("DataroomModel", "set", "[I", true)
  | 13 => ("DataroomModel", "bitOf", "[I", true)
  | 14 => ("DataroomModel", "told", "[I", true)
  | 15 => ("DataroomModel", "hour", "[I", true)
  | 16 => ("DataroomModel", "isRecalled", "[Z", true)
  | 17 => ("DataroomModel", "counts", "[I", true)
  | _ => ("DataroomModel", "rows", "[I", true)
def tyX7 : Nat → FieldType := fun k => match k with
  | 0 => .int
  | 1 => .int
  | 2 => .int
  | 3 => .array .int
  | 4 => .array .int
  | 5 => .int
  | 6 => .array .int
  | 7 => .array .int
  | 8 => .array .int
  | 9 => .array .int
  | 10 => .int
  | 11 => .array .int
  | 12 => .array .int
  | 13 => .array .int
  | 14 => .array .int
  | 15 => .array .int
  | 16 => .array .boolean
  | 17 => .array .int
  | _ => .array .int
abbrev wsX70 : List Cond := u_ws RX7 TX7 19
theorem nmX7 : ∀ a, a < 19 → ∀ b, b < 19 → a ≠ b → (TX7 a).2.1 ≠ (TX7 b).2.1 := by decide +kernel
theorem tyX7_ok : ∀ k, k < 19 → parseFieldDescriptor (TX7 k).2.2.1 = some (tyX7 k) := by decide +kernel
abbrev cX7_init : ByteArray := prog_9_method_1_code
def yX7_init : MethodName := ⟨RX7, "<init>", "()V"⟩
abbrev cX7_thrown : ByteArray := prog_9_method_2_code
def yX7_thrown : MethodName := ⟨RX7, "thrown", "()I"⟩
abbrev cX7_goesWell : ByteArray := prog_9_method_3_code
def yX7_goesWell : MethodName := ⟨RX7, "goesWell", "(I)Z"⟩
abbrev cX7_in : ByteArray := prog_9_method_4_code
def yX7_in : MethodName := ⟨RX7, "in", "(III)Z"⟩
abbrev cX7_isFile : ByteArray := prog_9_method_5_code
def yX7_isFile : MethodName := ⟨RX7, "isFile", "(I)Z"⟩
abbrev cX7_isParty : ByteArray := prog_9_method_6_code
def yX7_isParty : MethodName := ⟨RX7, "isParty", "(I)Z"⟩
abbrev cX7_file : ByteArray := prog_9_method_7_code
def yX7_file : MethodName := ⟨RX7, "file", "(I)I"⟩
abbrev cX7_recall : ByteArray := prog_9_method_8_code
def yX7_recall : MethodName := ⟨RX7, "recall", "(II)I"⟩
abbrev cX7_change : ByteArray := prog_9_method_9_code
def yX7_change : MethodName := ⟨RX7, "change", "(II)I"⟩
abbrev cX7_party : ByteArray := prog_9_method_10_code
def yX7_party : MethodName := ⟨RX7, "party", "(I)I"⟩
abbrev cX7_budget : ByteArray := prog_9_method_11_code
def yX7_budget : MethodName := ⟨RX7, "budget", "(II)I"⟩
abbrev cX7_right : ByteArray := prog_9_method_12_code
def yX7_right : MethodName := ⟨RX7, "right", "(IIIII)V"⟩
abbrev cX7_takeBack : ByteArray := prog_9_method_13_code
def yX7_takeBack : MethodName := ⟨RX7, "takeBack", "(II)I"⟩
abbrev cX7_seal : ByteArray := prog_9_method_14_code
def yX7_seal : MethodName := ⟨RX7, "seal", "(II)V"⟩
abbrev cX7_pass : ByteArray := prog_9_method_15_code
def yX7_pass : MethodName := ⟨RX7, "pass", "(I)I"⟩
abbrev cX7_rightOf : ByteArray := prog_9_method_16_code
def yX7_rightOf : MethodName := ⟨RX7, "rightOf", "(II)I"⟩
abbrev cX7_reduce : ByteArray := prog_9_method_17_code
def yX7_reduce : MethodName := ⟨RX7, "reduce", "(I)I"⟩
abbrev cX7_highest : ByteArray := prog_9_method_18_code
def yX7_highest : MethodName := ⟨RX7, "highest", "(I)I"⟩
abbrev cX7_learn : ByteArray := prog_9_method_19_code
def yX7_learn : MethodName := ⟨RX7, "learn", "(I)Z"⟩
abbrev cX7_know : ByteArray := prog_9_method_20_code
def yX7_know : MethodName := ⟨RX7, "know", "(II)I"⟩
abbrev cX7_spentBy : ByteArray := prog_9_method_21_code
def yX7_spentBy : MethodName := ⟨RX7, "spentBy", "(I)I"⟩
abbrev cX7_found : ByteArray := prog_9_method_22_code
def yX7_found : MethodName := ⟨RX7, "found", "()I"⟩
abbrev cX7_isAsked : ByteArray := prog_9_method_23_code
def yX7_isAsked : MethodName := ⟨RX7, "isAsked", "(II)Z"⟩
abbrev cX7_costOf : ByteArray := prog_9_method_24_code
def yX7_costOf : MethodName := ⟨RX7, "costOf", "(III)I"⟩
abbrev cX7_wouldTell : ByteArray := prog_9_method_25_code
def yX7_wouldTell : MethodName := ⟨RX7, "wouldTell", "(III)Z"⟩
abbrev cX7_refusal : ByteArray := prog_9_method_26_code
def yX7_refusal : MethodName := ⟨RX7, "refusal", "(III)I"⟩
abbrev cX7_isQuestion : ByteArray := prog_9_method_27_code
def yX7_isQuestion : MethodName := ⟨RX7, "isQuestion", "(II)Z"⟩
abbrev cX7_ask : ByteArray := prog_9_method_28_code
def yX7_ask : MethodName := ⟨RX7, "ask", "(III)I"⟩
abbrev cX7_cost : ByteArray := prog_9_method_29_code
def yX7_cost : MethodName := ⟨RX7, "cost", "(III)I"⟩
abbrev cX7_answer : ByteArray := prog_9_method_30_code
def yX7_answer : MethodName := ⟨RX7, "answer", "(II)I"⟩
abbrev cX7_spent : ByteArray := prog_9_method_31_code
def yX7_spent : MethodName := ⟨RX7, "spent", "(I)I"⟩
abbrev cX7_spentAnew : ByteArray := prog_9_method_32_code
def yX7_spentAnew : MethodName := ⟨RX7, "spentAnew", "(I)I"⟩
abbrev cX7_findsBy : ByteArray := prog_9_method_33_code
def yX7_findsBy : MethodName := ⟨RX7, "findsBy", "(II)I"⟩
abbrev cX7_finds : ByteArray := prog_9_method_34_code
def yX7_finds : MethodName := ⟨RX7, "finds", "(II)I"⟩
abbrev cX7_together : ByteArray := prog_9_method_35_code
def yX7_together : MethodName := ⟨RX7, "together", "(II)I"⟩
abbrev cX7_rightTo : ByteArray := prog_9_method_36_code
def yX7_rightTo : MethodName := ⟨RX7, "rightTo", "(II)I"⟩
abbrev cX7_isSealed : ByteArray := prog_9_method_37_code
def yX7_isSealed : MethodName := ⟨RX7, "isSealed", "(I)Z"⟩
abbrev cX7_count : ByteArray := prog_9_method_38_code
def yX7_count : MethodName := ⟨RX7, "count", "(II)I"⟩
def RJx145de : String := "java/io/Serializable"
def TJx145de : u_T := fun k => match k with
  | _ => ("", "", "", false)
def tyJx145de : Nat → FieldType := fun k => match k with
  | _ => .int
abbrev wsJx145de0 : List Cond := u_ws RJx145de TJx145de 0
theorem nmJx145de : ∀ a, a < 0 → ∀ b, b < 0 → a ≠ b → (TJx145de a).2.1 ≠ (TJx145de b).2.1 := by decide +kernel
theorem tyJx145de_ok : ∀ k, k < 0 → parseFieldDescriptor (TJx145de k).2.2.1 = some (tyJx145de k) := by decide +kernel
def RJx8e188 : String := "java/lang/Cloneable"
def TJx8e188 : u_T := fun k => match k with
  | _ => ("", "", "", false)
def tyJx8e188 : Nat → FieldType := fun k => match k with
  | _ => .int
abbrev wsJx8e1880 : List Cond := u_ws RJx8e188 TJx8e188 0
theorem nmJx8e188 : ∀ a, a < 0 → ∀ b, b < 0 → a ≠ b → (TJx8e188 a).2.1 ≠ (TJx8e188 b).2.1 := by decide +kernel
theorem tyJx8e188_ok : ∀ k, k < 0 → parseFieldDescriptor (TJx8e188 k).2.2.1 = some (tyJx8e188 k) := by decide +kernel
def RJxab1ab : String := "java/lang/Iterable"
def TJxab1ab : u_T := fun k => match k with
  | _ => ("", "", "", false)
def tyJxab1ab : Nat → FieldType := fun k => match k with
  | _ => .int
abbrev wsJxab1ab0 : List Cond := u_ws RJxab1ab TJxab1ab 0
theorem nmJxab1ab : ∀ a, a < 0 → ∀ b, b < 0 → a ≠ b → (TJxab1ab a).2.1 ≠ (TJxab1ab b).2.1 := by decide +kernel
theorem tyJxab1ab_ok : ∀ k, k < 0 → parseFieldDescriptor (TJxab1ab k).2.2.1 = some (tyJxab1ab k) := by decide +kernel
def RJ13 : String := "java/lang/Long"
def TJ13 : u_T := fun k => match k with
  | _ => ("", "", "", false)
def tyJ13 : Nat → FieldType := fun k => match k with
  | _ => .int
abbrev wsJ130 : List Cond := u_ws RJ13 TJ13 0
theorem nmJ13 : ∀ a, a < 0 → ∀ b, b < 0 → a ≠ b → (TJ13 a).2.1 ≠ (TJ13 b).2.1 := by decide +kernel
theorem tyJ13_ok : ∀ k, k < 0 → parseFieldDescriptor (TJ13 k).2.2.1 = some (tyJ13 k) := by decide +kernel
abbrev cJ13_bitCount_95d88 : ByteArray := prog_17_method_50_code
def yJ13_bitCount_95d88 : MethodName := ⟨RJ13, "bitCount", "(J)I"⟩
def RJ9 : String := "java/lang/Math"
def TJ9 : u_T := fun k => match k with
  | _ => ("", "", "", false)
def tyJ9 : Nat → FieldType := fun k => match k with
  | _ => .int
abbrev wsJ90 : List Cond := u_ws RJ9 TJ9 0
theorem nmJ9 : ∀ a, a < 0 → ∀ b, b < 0 → a ≠ b → (TJ9 a).2.1 ≠ (TJ9 b).2.1 := by decide +kernel
theorem tyJ9_ok : ∀ k, k < 0 → parseFieldDescriptor (TJ9 k).2.2.1 = some (tyJ9 k) := by decide +kernel
abbrev cJ9_max_7cf53 : ByteArray := prog_18_method_65_code
def yJ9_max_7cf53 : MethodName := ⟨RJ9, "max", "(II)I"⟩
abbrev cJ9_min_7cf53 : ByteArray := prog_18_method_69_code
def yJ9_min_7cf53 : MethodName := ⟨RJ9, "min", "(II)I"⟩
def RJ0 : String := "java/lang/String"
def TJ0 : u_T := fun k => match k with
  | _ => ("", "", "", false)
def tyJ0 : Nat → FieldType := fun k => match k with
  | _ => .int
abbrev wsJ00 : List Cond := u_ws RJ0 TJ0 0
theorem nmJ0 : ∀ a, a < 0 → ∀ b, b < 0 → a ≠ b → (TJ0 a).2.1 ≠ (TJ0 b).2.1 := by decide +kernel
theorem tyJ0_ok : ∀ k, k < 0 → parseFieldDescriptor (TJ0 k).2.2.1 = some (tyJ0 k) := by decide +kernel
def RJ10 : String := "java/lang/System"
def TJ10 : u_T := fun k => match k with
  | _ => ("", "", "", false)
def tyJ10 : Nat → FieldType := fun k => match k with
  | _ => .int
abbrev wsJ100 : List Cond := u_ws RJ10 TJ10 0
theorem nmJ10 : ∀ a, a < 0 → ∀ b, b < 0 → a ≠ b → (TJ10 a).2.1 ≠ (TJ10 b).2.1 := by decide +kernel
theorem tyJ10_ok : ∀ k, k < 0 → parseFieldDescriptor (TJ10 k).2.2.1 = some (tyJ10 k) := by decide +kernel
def RJxa1e45 : String := "java/util/AbstractCollection"
def TJxa1e45 : u_T := fun k => match k with
  | _ => ("", "", "", false)
def tyJxa1e45 : Nat → FieldType := fun k => match k with
  | _ => .int
abbrev wsJxa1e450 : List Cond := u_ws RJxa1e45 TJxa1e45 0
theorem nmJxa1e45 : ∀ a, a < 0 → ∀ b, b < 0 → a ≠ b → (TJxa1e45 a).2.1 ≠ (TJxa1e45 b).2.1 := by decide +kernel
theorem tyJxa1e45_ok : ∀ k, k < 0 → parseFieldDescriptor (TJxa1e45 k).2.2.1 = some (tyJxa1e45 k) := by decide +kernel
abbrev cJxa1e45_init_da8c8 : ByteArray := prog_23_method_1_code
def yJxa1e45_init_da8c8 : MethodName := ⟨RJxa1e45, "<init>", "()V"⟩
def RJxc12de : String := "java/util/AbstractList"
def TJxc12de : u_T := fun k => match k with
  | _ => ("", "", "", false)
def tyJxc12de : Nat → FieldType := fun k => match k with
  | _ => .int
abbrev wsJxc12de0 : List Cond := u_ws RJxc12de TJxc12de 0
theorem nmJxc12de : ∀ a, a < 0 → ∀ b, b < 0 → a ≠ b → (TJxc12de a).2.1 ≠ (TJxc12de b).2.1 := by decide +kernel
theorem tyJxc12de_ok : ∀ k, k < 0 → parseFieldDescriptor (TJxc12de k).2.2.1 = some (tyJxc12de k) := by decide +kernel
abbrev cJxc12de_init_da8c8 : ByteArray := prog_24_method_1_code
def yJxc12de_init_da8c8 : MethodName := ⟨RJxc12de, "<init>", "()V"⟩
def RJx4a65c : String := "java/util/ArrayList"
def TJx4a65c : u_T := fun k => match k with
  | 0 => ("java/util/AbstractList", "modCount", "I", false)
  | 1 => ("java/util/ArrayList", "elementData", "[Ljava/lang/Object;", false)
  | _ => ("java/util/ArrayList", "size", "I", false)
def tyJx4a65c : Nat → FieldType := fun k => match k with
  | 0 => .int
  | 1 => .array (.object "java/lang/Object")
  | _ => .int
abbrev wsJx4a65c0 : List Cond := u_ws RJx4a65c TJx4a65c 3
theorem nmJx4a65c : ∀ a, a < 3 → ∀ b, b < 3 → a ≠ b → (TJx4a65c a).2.1 ≠ (TJx4a65c b).2.1 := by decide +kernel
theorem tyJx4a65c_ok : ∀ k, k < 3 → parseFieldDescriptor (TJx4a65c k).2.2.1 = some (tyJx4a65c k) := by decide +kernel
abbrev cJx4a65c_init_da8c8 : ByteArray := prog_25_method_2_code
def yJx4a65c_init_da8c8 : MethodName := ⟨RJx4a65c, "<init>", "()V"⟩
abbrev cJx4a65c_grow_92f84 : ByteArray := prog_25_method_6_code
def yJx4a65c_grow_92f84 : MethodName := ⟨RJx4a65c, "grow", "(I)[Ljava/lang/Object;"⟩
abbrev cJx4a65c_grow_d5877 : ByteArray := prog_25_method_7_code
def yJx4a65c_grow_d5877 : MethodName := ⟨RJx4a65c, "grow", "()[Ljava/lang/Object;"⟩
abbrev cJx4a65c_size_8abf5 : ByteArray := prog_25_method_8_code
def yJx4a65c_size_8abf5 : MethodName := ⟨RJx4a65c, "size", "()I"⟩
abbrev cJx4a65c_elementData_915e3 : ByteArray := prog_25_method_18_code
def yJx4a65c_elementData_915e3 : MethodName := ⟨RJx4a65c, "elementData", "(I)Ljava/lang/Object;"⟩
abbrev cJx4a65c_get_915e3 : ByteArray := prog_25_method_20_code
def yJx4a65c_get_915e3 : MethodName := ⟨RJx4a65c, "get", "(I)Ljava/lang/Object;"⟩
abbrev cJx4a65c_add_72be8 : ByteArray := prog_25_method_24_code
def yJx4a65c_add_72be8 : MethodName := ⟨RJx4a65c, "add", "(Ljava/lang/Object;[Ljava/lang/Object;I)V"⟩
abbrev cJx4a65c_add_9ea2d : ByteArray := prog_25_method_25_code
def yJx4a65c_add_9ea2d : MethodName := ⟨RJx4a65c, "add", "(Ljava/lang/Object;)Z"⟩
def RJ7 : String := "java/util/Arrays"
def TJ7 : u_T := fun k => match k with
  | _ => ("", "", "", false)
def tyJ7 : Nat → FieldType := fun k => match k with
  | _ => .int
abbrev wsJ70 : List Cond := u_ws RJ7 TJ7 0
theorem nmJ7 : ∀ a, a < 0 → ∀ b, b < 0 → a ≠ b → (TJ7 a).2.1 ≠ (TJ7 b).2.1 := by decide +kernel
theorem tyJ7_ok : ∀ k, k < 0 → parseFieldDescriptor (TJ7 k).2.2.1 = some (tyJ7 k) := by decide +kernel
abbrev cJ7_copyOf_1904c : ByteArray := prog_26_method_119_code
def yJ7_copyOf_1904c : MethodName := ⟨RJ7, "copyOf", "([Ljava/lang/Object;I)[Ljava/lang/Object;"⟩
abbrev cJ7_copyOf_6403c : ByteArray := prog_26_method_120_code
def yJ7_copyOf_6403c : MethodName := ⟨RJ7, "copyOf", "([Ljava/lang/Object;ILjava/lang/Class;)[Ljava/lang/Object;"⟩
def RJx5ef63 : String := "java/util/Collection"
def TJx5ef63 : u_T := fun k => match k with
  | _ => ("", "", "", false)
def tyJx5ef63 : Nat → FieldType := fun k => match k with
  | _ => .int
abbrev wsJx5ef630 : List Cond := u_ws RJx5ef63 TJx5ef63 0
theorem nmJx5ef63 : ∀ a, a < 0 → ∀ b, b < 0 → a ≠ b → (TJx5ef63 a).2.1 ≠ (TJx5ef63 b).2.1 := by decide +kernel
theorem tyJx5ef63_ok : ∀ k, k < 0 → parseFieldDescriptor (TJx5ef63 k).2.2.1 = some (tyJx5ef63 k) := by decide +kernel
def RJxbd725 : String := "java/util/List"
def TJxbd725 : u_T := fun k => match k with
  | _ => ("", "", "", false)
def tyJxbd725 : Nat → FieldType := fun k => match k with
  | _ => .int
abbrev wsJxbd7250 : List Cond := u_ws RJxbd725 TJxbd725 0
theorem nmJxbd725 : ∀ a, a < 0 → ∀ b, b < 0 → a ≠ b → (TJxbd725 a).2.1 ≠ (TJxbd725 b).2.1 := by decide +kernel
theorem tyJxbd725_ok : ∀ k, k < 0 → parseFieldDescriptor (TJxbd725 k).2.2.1 = some (tyJxbd725 k) := by decide +kernel
def RJ15 : String := "java/util/Objects"
def TJ15 : u_T := fun k => match k with
  | _ => ("", "", "", false)
def tyJ15 : Nat → FieldType := fun k => match k with
  | _ => .int
abbrev wsJ150 : List Cond := u_ws RJ15 TJ15 0
theorem nmJ15 : ∀ a, a < 0 → ∀ b, b < 0 → a ≠ b → (TJ15 a).2.1 ≠ (TJ15 b).2.1 := by decide +kernel
theorem tyJ15_ok : ∀ k, k < 0 → parseFieldDescriptor (TJ15 k).2.2.1 = some (tyJ15 k) := by decide +kernel
abbrev cJ15_checkIndex_7cf53 : ByteArray := prog_29_method_17_code
def yJ15_checkIndex_7cf53 : MethodName := ⟨RJ15, "checkIndex", "(II)I"⟩
def RJxf0a74 : String := "java/util/RandomAccess"
def TJxf0a74 : u_T := fun k => match k with
  | _ => ("", "", "", false)
def tyJxf0a74 : Nat → FieldType := fun k => match k with
  | _ => .int
abbrev wsJxf0a740 : List Cond := u_ws RJxf0a74 TJxf0a74 0
theorem nmJxf0a74 : ∀ a, a < 0 → ∀ b, b < 0 → a ≠ b → (TJxf0a74 a).2.1 ≠ (TJxf0a74 b).2.1 := by decide +kernel
theorem tyJxf0a74_ok : ∀ k, k < 0 → parseFieldDescriptor (TJxf0a74 k).2.2.1 = some (tyJxf0a74 k) := by decide +kernel
def RJxa66e6 : String := "java/util/SequencedCollection"
def TJxa66e6 : u_T := fun k => match k with
  | _ => ("", "", "", false)
def tyJxa66e6 : Nat → FieldType := fun k => match k with
  | _ => .int
abbrev wsJxa66e60 : List Cond := u_ws RJxa66e6 TJxa66e6 0
theorem nmJxa66e6 : ∀ a, a < 0 → ∀ b, b < 0 → a ≠ b → (TJxa66e6 a).2.1 ≠ (TJxa66e6 b).2.1 := by decide +kernel
theorem tyJxa66e6_ok : ∀ k, k < 0 → parseFieldDescriptor (TJxa66e6 k).2.2.1 = some (tyJxa66e6 k) := by decide +kernel
def RJ8 : String := "jdk/internal/util/ArraysSupport"
def TJ8 : u_T := fun k => match k with
  | _ => ("", "", "", false)
def tyJ8 : Nat → FieldType := fun k => match k with
  | _ => .int
abbrev wsJ80 : List Cond := u_ws RJ8 TJ8 0
theorem nmJ8 : ∀ a, a < 0 → ∀ b, b < 0 → a ≠ b → (TJ8 a).2.1 ≠ (TJ8 b).2.1 := by decide +kernel
theorem tyJ8_ok : ∀ k, k < 0 → parseFieldDescriptor (TJ8 k).2.2.1 = some (tyJ8 k) := by decide +kernel
abbrev cJ8_newLength_cabcc : ByteArray := prog_32_method_27_code
def yJ8_newLength_cabcc : MethodName := ⟨RJ8, "newLength", "(III)I"⟩
abbrev cJ8_hugeLength_7cf53 : ByteArray := prog_32_method_28_code
def yJ8_hugeLength_7cf53 : MethodName := ⟨RJ8, "hugeLength", "(II)I"⟩
def RJ3 : String := "jdk/internal/util/Preconditions"
def TJ3 : u_T := fun k => match k with
  | _ => ("", "", "", false)
def tyJ3 : Nat → FieldType := fun k => match k with
  | _ => .int
abbrev wsJ30 : List Cond := u_ws RJ3 TJ3 0
theorem nmJ3 : ∀ a, a < 0 → ∀ b, b < 0 → a ≠ b → (TJ3 a).2.1 ≠ (TJ3 b).2.1 := by decide +kernel
theorem tyJ3_ok : ∀ k, k < 0 → parseFieldDescriptor (TJ3 k).2.2.1 = some (tyJ3 k) := by decide +kernel
abbrev cJ3_checkIndex_8e157 : ByteArray := prog_33_method_11_code
def yJ3_checkIndex_8e157 : MethodName := ⟨RJ3, "checkIndex", "(IILjava/util/function/BiFunction;)I"⟩
def RL : String := "DataroomLaw"
abbrev cL_file : ByteArray := method_3_code
def yL_file : MethodName := ⟨RL, "file", "(LDataroom;I[J)I"⟩
abbrev cL_change : ByteArray := method_4_code
def yL_change : MethodName := ⟨RL, "change", "(LDataroom;II[J)I"⟩
abbrev cL_party : ByteArray := method_5_code
def yL_party : MethodName := ⟨RL, "party", "(LDataroom;I[J)I"⟩
abbrev cL_budget : ByteArray := method_6_code
def yL_budget : MethodName := ⟨RL, "budget", "(LDataroom;II[J)I"⟩
abbrev cL_right : ByteArray := method_7_code
def yL_right : MethodName := ⟨RL, "right", "(LDataroom;IIIII)I"⟩
abbrev cL_takeBack : ByteArray := method_8_code
def yL_takeBack : MethodName := ⟨RL, "takeBack", "(LDataroom;II[J)I"⟩
abbrev cL_seal : ByteArray := method_9_code
def yL_seal : MethodName := ⟨RL, "seal", "(LDataroom;II)I"⟩
abbrev cL_pass : ByteArray := method_10_code
def yL_pass : MethodName := ⟨RL, "pass", "(LDataroom;I[J)I"⟩
abbrev cL_ask : ByteArray := method_11_code
def yL_ask : MethodName := ⟨RL, "ask", "(LDataroom;III[J)I"⟩
abbrev cL_cost : ByteArray := method_12_code
def yL_cost : MethodName := ⟨RL, "cost", "(LDataroom;III[J)I"⟩
abbrev cL_answer : ByteArray := method_13_code
def yL_answer : MethodName := ⟨RL, "answer", "(LDataroom;II[J)I"⟩
abbrev cL_spent : ByteArray := method_14_code
def yL_spent : MethodName := ⟨RL, "spent", "(LDataroom;I[J)I"⟩
abbrev cL_spentAnew : ByteArray := method_15_code
def yL_spentAnew : MethodName := ⟨RL, "spentAnew", "(LDataroom;I[J)I"⟩
abbrev cL_finds : ByteArray := method_16_code
def yL_finds : MethodName := ⟨RL, "finds", "(LDataroom;II[J)I"⟩
abbrev cL_together : ByteArray := method_17_code
def yL_together : MethodName := ⟨RL, "together", "(LDataroom;II[J)I"⟩
abbrev cL_rightTo : ByteArray := method_18_code
def yL_rightTo : MethodName := ⟨RL, "rightTo", "(LDataroom;II[J)I"⟩
abbrev cL_isSealed : ByteArray := method_19_code
def yL_isSealed : MethodName := ⟨RL, "isSealed", "(LDataroom;I[J)I"⟩
abbrev cL_count : ByteArray := method_20_code
def yL_count : MethodName := ⟨RL, "count", "(LDataroom;II[J)I"⟩
abbrev cL_law : ByteArray := code
def yL_law : MethodName := ⟨RL, "law", "([I)Z"⟩
abbrev vwCl : List vw_C := [(RJx4a65c, TJx4a65c, 3), (RX0, TX0, 6), (RX1, TX1, 2), (RX2, TX2, 2), (RX3, TX3, 2), (RX4, TX4, 5), (RX5, TX5, 3), (RX6, TX6, 6), (RX7, TX7, 19)]
end
section
/-- the words that any method may want: those of the tables that every call keeps -/
def WS : List Cond := lw_tbl.filter goodWord
theorem ws_of {w : Cond} (h : w ∈ tables_1) (g : goodWord w = true) : w ∈ WS := List.mem_filter.mpr ⟨List.mem_append_right _ h, g⟩
theorem ws_p {w : Cond} (h : w ∈ k2_sels lw_privs) (g : goodWord w = true) : w ∈ WS := List.mem_filter.mpr ⟨List.mem_append_left _ h, g⟩
theorem tb1 {w : Cond} {i : Nat} (h : tables_1_1[i]? = some w) (g : goodWord w = true) : w ∈ WS := ws_of (List.mem_append_left _ (List.mem_of_getElem? h)) g
theorem tb2 {w : Cond} {i : Nat} (h : tables_1_2[i]? = some w) (g : goodWord w = true) : w ∈ WS := ws_of (List.mem_append_right _ (List.mem_append_left _ (List.mem_of_getElem? h))) g
theorem tb3 {w : Cond} {i : Nat} (h : tables_1_3[i]? = some w) (g : goodWord w = true) : w ∈ WS := ws_of (List.mem_append_right _ (List.mem_append_right _ (List.mem_append_left _ (List.mem_of_getElem? h)))) g
theorem tb4 {w : Cond} {i : Nat} (h : tables_1_4[i]? = some w) (g : goodWord w = true) : w ∈ WS := ws_of (List.mem_append_right _ (List.mem_append_right _ (List.mem_append_right _ (List.mem_of_getElem? h)))) g
theorem qw_0 : Cond.initialized "DataroomLaw" ∈ WS := tb1 (i := 0) rfl rfl
theorem qw_1 : Cond.initialized "Dataroom" ∈ WS := tb1 (i := 1) rfl rfl
theorem qw_2 : Cond.initialized "java/util/AbstractCollection" ∈ WS := tb1 (i := 2) rfl rfl
theorem qw_3 : Cond.initialized "java/util/AbstractList" ∈ WS := tb1 (i := 3) rfl rfl
theorem qw_4 : Cond.initialized "java/util/ArrayList" ∈ WS := tb1 (i := 4) rfl rfl
theorem qw_5 : Cond.initialized "Dataroom$Knowledge" ∈ WS := tb1 (i := 5) rfl rfl
theorem qw_6 : Cond.initialized "Dataroom$Marks" ∈ WS := tb1 (i := 6) rfl rfl
theorem qw_7 : Cond.initialized "DataroomModel" ∈ WS := tb1 (i := 7) rfl rfl
theorem qw_8 : Cond.initialized "java/lang/Throwable" ∈ WS := tb1 (i := 8) rfl rfl
theorem qw_9 : Cond.initialized "java/lang/Exception" ∈ WS := tb1 (i := 9) rfl rfl
theorem qw_10 : Cond.initialized "java/lang/RuntimeException" ∈ WS := tb1 (i := 10) rfl rfl
theorem qw_11 : Cond.initialized "java/lang/IllegalArgumentException" ∈ WS := tb1 (i := 11) rfl rfl
theorem qw_12 : Cond.initialized "java/lang/IllegalStateException" ∈ WS := tb1 (i := 12) rfl rfl
theorem qw_13 : Cond.initialized "Dataroom$Card" ∈ WS := tb1 (i := 13) rfl rfl
theorem qw_14 : Cond.initialized "jdk/internal/util/ArraysSupport" ∈ WS := tb1 (i := 14) rfl rfl
theorem qw_15 : Cond.initialized "java/lang/Math" ∈ WS := tb1 (i := 15) rfl rfl
theorem qw_16 : Cond.initialized "java/util/Arrays" ∈ WS := tb1 (i := 16) rfl rfl
theorem qw_17 : Cond.initialized "java/lang/System" ∈ WS := tb1 (i := 17) rfl rfl
theorem qw_18 : Cond.initialized "java/lang/IndexOutOfBoundsException" ∈ WS := tb1 (i := 18) rfl rfl
theorem qw_19 : Cond.initialized "java/util/Objects" ∈ WS := tb1 (i := 19) rfl rfl
theorem qw_20 : Cond.initialized "jdk/internal/util/Preconditions" ∈ WS := tb1 (i := 20) rfl rfl
theorem qw_21 : Cond.initialized "Dataroom$Party" ∈ WS := tb1 (i := 21) rfl rfl
theorem qw_22 : Cond.initialized "Dataroom$Right" ∈ WS := tb1 (i := 22) rfl rfl
theorem qw_23 : Cond.initialized "Dataroom$Answer" ∈ WS := tb1 (i := 23) rfl rfl
theorem qw_24 : Cond.initialized "java/lang/Long" ∈ WS := tb1 (i := 24) rfl rfl
theorem qw_25 : Cond.classLink "DataroomLaw" 8 "Dataroom" ∈ WS := tb1 (i := 25) rfl rfl
theorem qw_26 : Cond.instantiable "Dataroom" 6 ∈ WS := tb1 (i := 26) rfl rfl
theorem qw_27 : Cond.methodLink "DataroomLaw" 75 ⟨"Dataroom", "<init>", "()V"⟩ ∈ WS := tb1 (i := 27) rfl rfl
theorem qw_28 : Cond.instanceMethod ⟨"Dataroom", "<init>", "()V"⟩ ∈ WS := tb1 (i := 28) rfl rfl
theorem qw_29 : Cond.code ⟨"Dataroom", "<init>", "()V"⟩ prog_1_method_1_code 1 (Option.none : Option Jvm.ClassFile.FieldType) ∈ WS := tb1 (i := 29) rfl rfl
theorem qw_30 : Cond.methodLink "Dataroom" 1 ⟨"java/lang/Object", "<init>", "()V"⟩ ∈ WS := tb1 (i := 30) rfl rfl
theorem qw_31 : Cond.instanceMethod ⟨"java/lang/Object", "<init>", "()V"⟩ ∈ WS := tb1 (i := 31) rfl rfl
theorem qw_32 : Cond.code ⟨"java/lang/Object", "<init>", "()V"⟩ object_method_1_code 1 (Option.none : Option Jvm.ClassFile.FieldType) ∈ WS := tb1 (i := 32) rfl rfl
theorem qw_33 : Cond.classLink "Dataroom" 7 "java/util/ArrayList" ∈ WS := tb1 (i := 33) rfl rfl
theorem qw_34 : Cond.instantiable "java/util/ArrayList" 3 ∈ WS := tb1 (i := 34) rfl rfl
theorem qw_35 : Cond.methodLink "Dataroom" 9 ⟨"java/util/ArrayList", "<init>", "()V"⟩ ∈ WS := tb1 (i := 35) rfl rfl
theorem qw_36 : Cond.instanceMethod ⟨"java/util/ArrayList", "<init>", "()V"⟩ ∈ WS := tb1 (i := 36) rfl rfl
theorem qw_37 : Cond.code ⟨"java/util/ArrayList", "<init>", "()V"⟩ prog_25_method_2_code 1 (Option.none : Option Jvm.ClassFile.FieldType) ∈ WS := tb1 (i := 37) rfl rfl
theorem qw_38 : Cond.methodLink "java/util/ArrayList" 1 ⟨"java/util/AbstractList", "<init>", "()V"⟩ ∈ WS := tb1 (i := 38) rfl rfl
theorem qw_39 : Cond.instanceMethod ⟨"java/util/AbstractList", "<init>", "()V"⟩ ∈ WS := tb1 (i := 39) rfl rfl
theorem qw_40 : Cond.code ⟨"java/util/AbstractList", "<init>", "()V"⟩ prog_24_method_1_code 1 (Option.none : Option Jvm.ClassFile.FieldType) ∈ WS := tb1 (i := 40) rfl rfl
theorem qw_41 : Cond.methodLink "java/util/AbstractList" 1 ⟨"java/util/AbstractCollection", "<init>", "()V"⟩ ∈ WS := tb1 (i := 41) rfl rfl
theorem qw_42 : Cond.instanceMethod ⟨"java/util/AbstractCollection", "<init>", "()V"⟩ ∈ WS := tb1 (i := 42) rfl rfl
theorem qw_43 : Cond.code ⟨"java/util/AbstractCollection", "<init>", "()V"⟩ prog_23_method_1_code 1 (Option.none : Option Jvm.ClassFile.FieldType) ∈ WS := tb1 (i := 43) rfl rfl
theorem qw_44 : Cond.methodLink "java/util/AbstractCollection" 1 ⟨"java/lang/Object", "<init>", "()V"⟩ ∈ WS := tb1 (i := 44) rfl rfl
theorem qw_45 : Cond.fieldLink "java/util/ArrayList" 39 "java/util/ArrayList" "DEFAULTCAPACITY_EMPTY_ELEMENTDATA" "[Ljava/lang/Object;" ∈ WS := tb1 (i := 45) rfl rfl
theorem qw_47 : Cond.fieldLink "java/util/ArrayList" 9 "java/util/ArrayList" "elementData" "[Ljava/lang/Object;" ∈ WS := tb1 (i := 47) rfl rfl
theorem qw_48 : Cond.fieldLink "java/util/ArrayList" 48 "java/util/ArrayList" "size" "I" ∈ WS := tb1 (i := 48) rfl rfl
theorem qw_49 : Cond.fieldLink "java/util/AbstractList" 7 "java/util/AbstractList" "modCount" "I" ∈ WS := tb1 (i := 49) rfl rfl
theorem qw_50 : Cond.fieldLink "java/util/ArrayList" 63 "java/util/ArrayList" "modCount" "I" ∈ WS := tb1 (i := 50) rfl rfl
theorem qw_51 : Cond.sameField "java/util/ArrayList" "java/util/AbstractList" "modCount" "I" ∈ WS := tb1 (i := 51) rfl rfl
theorem qw_52 : Cond.lays "java/util/ArrayList" "java/util/ArrayList" "elementData" "[Ljava/lang/Object;" ∈ WS := tb1 (i := 52) rfl rfl
theorem qw_54 : Cond.lays "java/util/ArrayList" "java/util/ArrayList" "size" "I" ∈ WS := tb1 (i := 54) rfl rfl
theorem qw_56 : Cond.lays "java/util/ArrayList" "java/util/AbstractList" "modCount" "I" ∈ WS := tb1 (i := 56) rfl rfl
theorem qw_58 : Cond.superclass "java/util/ArrayList" "java/util/AbstractList" ∈ WS := tb1 (i := 58) rfl rfl
theorem qw_59 : Cond.classLink "Dataroom" 22 "Dataroom$Knowledge" ∈ WS := tb1 (i := 59) rfl rfl
theorem qw_60 : Cond.instantiable "Dataroom$Knowledge" 2 ∈ WS := tb1 (i := 60) rfl rfl
theorem qw_62 : Cond.instanceMethod ⟨"Dataroom$Knowledge", "<init>", "()V"⟩ ∈ WS := tb1 (i := 62) rfl rfl
theorem qw_63 : Cond.code ⟨"Dataroom$Knowledge", "<init>", "()V"⟩ prog_4_method_1_code 1 (Option.none : Option Jvm.ClassFile.FieldType) ∈ WS := tb1 (i := 63) rfl rfl
theorem qw_64 : Cond.methodLink "Dataroom$Knowledge" 3 ⟨"java/lang/Object", "<init>", "()V"⟩ ∈ WS := tb1 (i := 64) rfl rfl
theorem qw_65 : Cond.fieldLink "Dataroom$Knowledge" 9 "Dataroom$Knowledge" "rows" "[I" ∈ WS := tb1 (i := 65) rfl rfl
theorem qw_66 : Cond.fieldLink "Dataroom$Knowledge" 15 "Dataroom$Knowledge" "learned" "I" ∈ WS := tb1 (i := 66) rfl rfl
theorem qw_68 : Cond.laysFinal "Dataroom$Knowledge" "Dataroom$Knowledge" "rows" "[I" ∈ WS := tb1 (i := 68) rfl rfl
theorem qw_70 : Cond.lays "Dataroom$Knowledge" "Dataroom$Knowledge" "learned" "I" ∈ WS := tb1 (i := 70) rfl rfl
theorem qw_72 : Cond.superclass "Dataroom$Knowledge" "java/lang/Object" ∈ WS := tb1 (i := 72) rfl rfl
theorem qw_73 : Cond.arrayClass Jvm.ClassFile.FieldType.int ∈ WS := tb1 (i := 73) rfl rfl
theorem qw_74 : Cond.classLink "Dataroom" 29 "Dataroom$Marks" ∈ WS := tb1 (i := 74) rfl rfl
theorem qw_75 : Cond.instantiable "Dataroom$Marks" 2 ∈ WS := tb1 (i := 75) rfl rfl
theorem qw_77 : Cond.instanceMethod ⟨"Dataroom$Marks", "<init>", "()V"⟩ ∈ WS := tb1 (i := 77) rfl rfl
theorem qw_78 : Cond.code ⟨"Dataroom$Marks", "<init>", "()V"⟩ prog_5_method_1_code 1 (Option.none : Option Jvm.ClassFile.FieldType) ∈ WS := tb1 (i := 78) rfl rfl
theorem qw_79 : Cond.methodLink "Dataroom$Marks" 3 ⟨"java/lang/Object", "<init>", "()V"⟩ ∈ WS := tb1 (i := 79) rfl rfl
theorem qw_80 : Cond.fieldLink "Dataroom$Marks" 11 "Dataroom$Marks" "words" "[J" ∈ WS := tb1 (i := 80) rfl rfl
theorem qw_81 : Cond.fieldLink "Dataroom$Marks" 24 "Dataroom$Marks" "used" "I" ∈ WS := tb1 (i := 81) rfl rfl
theorem qw_82 : Cond.laysFinal "Dataroom$Marks" "Dataroom$Marks" "words" "[J" ∈ WS := tb1 (i := 82) rfl rfl
theorem qw_84 : Cond.lays "Dataroom$Marks" "Dataroom$Marks" "used" "I" ∈ WS := tb1 (i := 84) rfl rfl
theorem qw_86 : Cond.superclass "Dataroom$Marks" "java/lang/Object" ∈ WS := tb1 (i := 86) rfl rfl
theorem qw_87 : Cond.arrayClass Jvm.ClassFile.FieldType.long ∈ WS := tb1 (i := 87) rfl rfl
theorem qw_88 : Cond.fieldLink "Dataroom" 10 "Dataroom" "allFiles" "Ljava/util/ArrayList;" ∈ WS := tb1 (i := 88) rfl rfl
theorem qw_89 : Cond.fieldLink "Dataroom" 16 "Dataroom" "allParties" "Ljava/util/ArrayList;" ∈ WS := tb1 (i := 89) rfl rfl
theorem qw_90 : Cond.fieldLink "Dataroom" 19 "Dataroom" "allAnswers" "Ljava/util/ArrayList;" ∈ WS := tb1 (i := 90) rfl rfl
theorem qw_91 : Cond.fieldLink "Dataroom" 108 "Dataroom" "now" "I" ∈ WS := tb1 (i := 91) rfl rfl
theorem qw_92 : Cond.fieldLink "Dataroom" 25 "Dataroom" "shared" "LDataroom$Knowledge;" ∈ WS := tb1 (i := 92) rfl rfl
theorem qw_93 : Cond.fieldLink "Dataroom" 32 "Dataroom" "marks" "LDataroom$Marks;" ∈ WS := tb1 (i := 93) rfl rfl
theorem qw_94 : Cond.laysFinal "Dataroom" "Dataroom" "allFiles" "Ljava/util/ArrayList;" ∈ WS := tb1 (i := 94) rfl rfl
theorem qw_96 : Cond.laysFinal "Dataroom" "Dataroom" "allParties" "Ljava/util/ArrayList;" ∈ WS := tb1 (i := 96) rfl rfl
theorem qw_98 : Cond.laysFinal "Dataroom" "Dataroom" "allAnswers" "Ljava/util/ArrayList;" ∈ WS := tb1 (i := 98) rfl rfl
theorem qw_100 : Cond.lays "Dataroom" "Dataroom" "now" "I" ∈ WS := tb1 (i := 100) rfl rfl
theorem qw_102 : Cond.laysFinal "Dataroom" "Dataroom" "shared" "LDataroom$Knowledge;" ∈ WS := tb1 (i := 102) rfl rfl
theorem qw_104 : Cond.laysFinal "Dataroom" "Dataroom" "marks" "LDataroom$Marks;" ∈ WS := tb1 (i := 104) rfl rfl
theorem qw_106 : Cond.superclass "Dataroom" "java/lang/Object" ∈ WS := tb1 (i := 106) rfl rfl
theorem qw_107 : Cond.methodLink "DataroomLaw" 79 ⟨"DataroomLaw", "file", "(LDataroom;I[J)I"⟩ ∈ WS := tb1 (i := 107) rfl rfl
theorem qw_108 : Cond.static ⟨"DataroomLaw", "file", "(LDataroom;I[J)I"⟩ ∈ WS := tb1 (i := 108) rfl rfl
theorem qw_109 : Cond.codeWith ⟨"DataroomLaw", "file", "(LDataroom;I[J)I"⟩ method_3_code 4 (Option.some Jvm.ClassFile.FieldType.int) [(0, 9, 12, 13), (0, 9, 15, 15)] ∈ WS := tb1 (i := 109) rfl rfl
theorem qw_110 : Cond.classLink "DataroomLaw" 13 "java/lang/IllegalArgumentException" ∈ WS := tb1 (i := 110) rfl rfl
theorem qw_111 : Cond.classLink "DataroomLaw" 15 "java/lang/IllegalStateException" ∈ WS := tb1 (i := 111) rfl rfl
theorem qw_112 : Cond.methodLink "DataroomLaw" 7 ⟨"Dataroom", "file", "(I)I"⟩ ∈ WS := tb1 (i := 112) rfl rfl
theorem qw_113 : Cond.instanceMethod ⟨"Dataroom", "file", "(I)I"⟩ ∈ WS := tb1 (i := 113) rfl rfl
theorem qw_114 : Cond.selects "Dataroom" ⟨"Dataroom", "file", "(I)I"⟩ ⟨"Dataroom", "file", "(I)I"⟩ ∈ WS := tb1 (i := 114) rfl rfl
theorem qw_115 : Cond.code ⟨"Dataroom", "file", "(I)I"⟩ prog_1_method_2_code 2 (Option.some Jvm.ClassFile.FieldType.int) ∈ WS := tb1 (i := 115) rfl rfl
theorem qw_116 : Cond.methodLink "Dataroom" 36 ⟨"Dataroom", "requireRange", "(III)V"⟩ ∈ WS := tb1 (i := 116) rfl rfl
theorem qw_117 : Cond.static ⟨"Dataroom", "requireRange", "(III)V"⟩ ∈ WS := tb1 (i := 117) rfl rfl
theorem qw_118 : Cond.code ⟨"Dataroom", "requireRange", "(III)V"⟩ prog_1_method_23_code 3 (Option.none : Option Jvm.ClassFile.FieldType) ∈ WS := tb1 (i := 118) rfl rfl
theorem qw_119 : Cond.classLink "Dataroom" 189 "java/lang/IllegalArgumentException" ∈ WS := tb1 (i := 119) rfl rfl
theorem qw_120 : Cond.instantiable "java/lang/IllegalArgumentException" 6 ∈ WS := tb1 (i := 120) rfl rfl
theorem qw_128 : Cond.selects "java/lang/IllegalArgumentException" ⟨"java/lang/Throwable", "fillInStackTrace", "(I)Ljava/lang/Throwable;"⟩ ⟨"java/lang/Throwable", "fillInStackTrace", "(I)Ljava/lang/Throwable;"⟩ ∈ WS := tb1 (i := 128) rfl rfl
theorem qw_129 : Cond.selects "java/lang/IllegalArgumentException" ⟨"java/lang/Throwable", "fillInStackTrace", "()Ljava/lang/Throwable;"⟩ ⟨"java/lang/Throwable", "fillInStackTrace", "()Ljava/lang/Throwable;"⟩ ∈ WS := tb1 (i := 129) rfl rfl
theorem qw_130 : Cond.lays "java/lang/IllegalArgumentException" "java/lang/Throwable" "cause" "Ljava/lang/Throwable;" ∈ WS := tb1 (i := 130) rfl rfl
theorem qw_131 : Cond.lays "java/lang/Throwable" "java/lang/Throwable" "cause" "Ljava/lang/Throwable;" ∈ WS := tb1 (i := 131) rfl rfl
theorem qw_132 : Cond.lays "java/lang/IllegalArgumentException" "java/lang/Throwable" "stackTrace" "[Ljava/lang/StackTraceElement;" ∈ WS := tb1 (i := 132) rfl rfl
theorem qw_133 : Cond.lays "java/lang/Throwable" "java/lang/Throwable" "stackTrace" "[Ljava/lang/StackTraceElement;" ∈ WS := tb1 (i := 133) rfl rfl
theorem qw_134 : Cond.lays "java/lang/IllegalArgumentException" "java/lang/Throwable" "suppressedExceptions" "Ljava/util/List;" ∈ WS := tb1 (i := 134) rfl rfl
theorem qw_135 : Cond.lays "java/lang/Throwable" "java/lang/Throwable" "suppressedExceptions" "Ljava/util/List;" ∈ WS := tb1 (i := 135) rfl rfl
theorem qw_136 : Cond.lays "java/lang/IllegalArgumentException" "java/lang/Throwable" "detailMessage" "Ljava/lang/String;" ∈ WS := tb1 (i := 136) rfl rfl
theorem qw_137 : Cond.lays "java/lang/Throwable" "java/lang/Throwable" "detailMessage" "Ljava/lang/String;" ∈ WS := tb1 (i := 137) rfl rfl
theorem qw_138 : Cond.lays "java/lang/IllegalArgumentException" "java/lang/Throwable" "backtrace" "Ljava/lang/Object;" ∈ WS := tb1 (i := 138) rfl rfl
theorem qw_139 : Cond.lays "java/lang/Throwable" "java/lang/Throwable" "backtrace" "Ljava/lang/Object;" ∈ WS := tb1 (i := 139) rfl rfl
theorem qw_140 : Cond.fieldLink "java/lang/Throwable" 198 "java/lang/Throwable" "backtrace" "Ljava/lang/Object;" ∈ WS := tb1 (i := 140) rfl rfl
theorem qw_141 : Cond.superclass "java/lang/Throwable" "java/lang/Object" ∈ WS := tb1 (i := 141) rfl rfl
theorem qw_142 : Cond.instanceMethod ⟨"java/lang/Throwable", "<init>", "()V"⟩ ∈ WS := tb1 (i := 142) rfl rfl
theorem qw_143 : Cond.code ⟨"java/lang/Throwable", "<init>", "()V"⟩ prog_22_method_1_code 1 (Option.none : Option Jvm.ClassFile.FieldType) ∈ WS := tb1 (i := 143) rfl rfl
theorem qw_144 : Cond.methodLink "java/lang/Throwable" 1 ⟨"java/lang/Object", "<init>", "()V"⟩ ∈ WS := tb1 (i := 144) rfl rfl
theorem qw_145 : Cond.fieldLink "java/lang/Throwable" 13 "java/lang/Throwable" "UNASSIGNED_STACK" "[Ljava/lang/StackTraceElement;" ∈ WS := tb1 (i := 145) rfl rfl
theorem qw_147 : Cond.fieldLink "java/lang/Throwable" 20 "java/lang/Throwable" "SUPPRESSED_SENTINEL" "Ljava/util/List;" ∈ WS := tb1 (i := 147) rfl rfl
theorem qw_149 : Cond.methodLink "java/lang/Throwable" 27 ⟨"java/lang/Throwable", "fillInStackTrace", "()Ljava/lang/Throwable;"⟩ ∈ WS := tb1 (i := 149) rfl rfl
theorem qw_150 : Cond.instanceMethod ⟨"java/lang/Throwable", "fillInStackTrace", "()Ljava/lang/Throwable;"⟩ ∈ WS := tb1 (i := 150) rfl rfl
theorem qw_151 : Cond.sameMethod "java/lang/Throwable" "java/lang/Throwable" "fillInStackTrace" "()Ljava/lang/Throwable;" ∈ WS := tb1 (i := 151) rfl rfl
theorem qw_152 : Cond.selects "java/lang/IllegalStateException" ⟨"java/lang/Throwable", "fillInStackTrace", "()Ljava/lang/Throwable;"⟩ ⟨"java/lang/Throwable", "fillInStackTrace", "()Ljava/lang/Throwable;"⟩ ∈ WS := tb1 (i := 152) rfl rfl
theorem qw_153 : Cond.selects "java/lang/IndexOutOfBoundsException" ⟨"java/lang/Throwable", "fillInStackTrace", "()Ljava/lang/Throwable;"⟩ ⟨"java/lang/Throwable", "fillInStackTrace", "()Ljava/lang/Throwable;"⟩ ∈ WS := tb1 (i := 153) rfl rfl
theorem qw_154 : Cond.codeSync ⟨"java/lang/Throwable", "fillInStackTrace", "()Ljava/lang/Throwable;"⟩ prog_22_method_18_code 1 (Option.some (Jvm.ClassFile.FieldType.object "java/lang/Throwable")) ∈ WS := tb1 (i := 154) rfl rfl
theorem qw_155 : Cond.methodLink "java/lang/Throwable" 202 ⟨"java/lang/Throwable", "fillInStackTrace", "(I)Ljava/lang/Throwable;"⟩ ∈ WS := tb1 (i := 155) rfl rfl
theorem qw_157 : Cond.instanceMethod ⟨"java/lang/Throwable", "fillInStackTrace", "(I)Ljava/lang/Throwable;"⟩ ∈ WS := tb1 (i := 157) rfl rfl
theorem qw_158 : Cond.instantiable "java/lang/Throwable" 6 ∈ WS := tb1 (i := 158) rfl rfl
theorem qw_161 : Cond.methodLink "Dataroom" 193 ⟨"java/lang/IllegalArgumentException", "<init>", "(Ljava/lang/String;)V"⟩ ∈ WS := tb1 (i := 161) rfl rfl
theorem qw_162 : Cond.instanceMethod ⟨"java/lang/IllegalArgumentException", "<init>", "(Ljava/lang/String;)V"⟩ ∈ WS := tb1 (i := 162) rfl rfl
theorem qw_163 : Cond.code ⟨"java/lang/IllegalArgumentException", "<init>", "(Ljava/lang/String;)V"⟩ prog_13_method_2_code 2 (Option.none : Option Jvm.ClassFile.FieldType) ∈ WS := tb1 (i := 163) rfl rfl
theorem qw_164 : Cond.methodLink "java/lang/IllegalArgumentException" 7 ⟨"java/lang/RuntimeException", "<init>", "(Ljava/lang/String;)V"⟩ ∈ WS := tb1 (i := 164) rfl rfl
theorem qw_165 : Cond.instanceMethod ⟨"java/lang/RuntimeException", "<init>", "(Ljava/lang/String;)V"⟩ ∈ WS := tb1 (i := 165) rfl rfl
theorem qw_166 : Cond.code ⟨"java/lang/RuntimeException", "<init>", "(Ljava/lang/String;)V"⟩ prog_19_method_2_code 2 (Option.none : Option Jvm.ClassFile.FieldType) ∈ WS := tb1 (i := 166) rfl rfl
theorem qw_167 : Cond.methodLink "java/lang/RuntimeException" 7 ⟨"java/lang/Exception", "<init>", "(Ljava/lang/String;)V"⟩ ∈ WS := tb1 (i := 167) rfl rfl
theorem qw_168 : Cond.instanceMethod ⟨"java/lang/Exception", "<init>", "(Ljava/lang/String;)V"⟩ ∈ WS := tb1 (i := 168) rfl rfl
theorem qw_169 : Cond.code ⟨"java/lang/Exception", "<init>", "(Ljava/lang/String;)V"⟩ prog_12_method_2_code 2 (Option.none : Option Jvm.ClassFile.FieldType) ∈ WS := tb1 (i := 169) rfl rfl
theorem qw_170 : Cond.methodLink "java/lang/Exception" 7 ⟨"java/lang/Throwable", "<init>", "(Ljava/lang/String;)V"⟩ ∈ WS := tb1 (i := 170) rfl rfl
theorem qw_171 : Cond.instanceMethod ⟨"java/lang/Throwable", "<init>", "(Ljava/lang/String;)V"⟩ ∈ WS := tb1 (i := 171) rfl rfl
theorem qw_172 : Cond.code ⟨"java/lang/Throwable", "<init>", "(Ljava/lang/String;)V"⟩ prog_22_method_2_code 2 (Option.none : Option Jvm.ClassFile.FieldType) ∈ WS := tb1 (i := 172) rfl rfl
theorem qw_173 : Cond.fieldLink "java/lang/Throwable" 198 "java/lang/Throwable" "backtrace" "Ljava/lang/Object;" ∈ WS := tb1 (i := 173) rfl rfl
theorem qw_174 : Cond.fieldLink "java/lang/Throwable" 31 "java/lang/Throwable" "detailMessage" "Ljava/lang/String;" ∈ WS := tb1 (i := 174) rfl rfl
theorem qw_175 : Cond.fieldLink "java/lang/Throwable" 7 "java/lang/Throwable" "cause" "Ljava/lang/Throwable;" ∈ WS := tb1 (i := 175) rfl rfl
theorem qw_176 : Cond.fieldLink "java/lang/Throwable" 17 "java/lang/Throwable" "stackTrace" "[Ljava/lang/StackTraceElement;" ∈ WS := tb1 (i := 176) rfl rfl
theorem qw_177 : Cond.fieldLink "java/lang/Throwable" 24 "java/lang/Throwable" "suppressedExceptions" "Ljava/util/List;" ∈ WS := tb1 (i := 177) rfl rfl
theorem qw_182 : Cond.lays "java/lang/IllegalArgumentException" "java/lang/Throwable" "depth" "I" ∈ WS := tb1 (i := 182) rfl rfl
theorem qw_185 : Cond.superclass "java/lang/IllegalArgumentException" "java/lang/RuntimeException" ∈ WS := tb1 (i := 185) rfl rfl
theorem qw_186 : Cond.arrayClass Jvm.ClassFile.FieldType.byte ∈ WS := tb1 (i := 186) rfl rfl
theorem qw_187 : Cond.methodLink "Dataroom" 40 ⟨"java/util/ArrayList", "size", "()I"⟩ ∈ WS := tb1 (i := 187) rfl rfl
theorem qw_188 : Cond.instanceMethod ⟨"java/util/ArrayList", "size", "()I"⟩ ∈ WS := tb1 (i := 188) rfl rfl
theorem qw_189 : Cond.selects "java/util/ArrayList" ⟨"java/util/ArrayList", "size", "()I"⟩ ⟨"java/util/ArrayList", "size", "()I"⟩ ∈ WS := tb1 (i := 189) rfl rfl
theorem qw_190 : Cond.code ⟨"java/util/ArrayList", "size", "()I"⟩ prog_25_method_8_code 1 (Option.some Jvm.ClassFile.FieldType.int) ∈ WS := tb1 (i := 190) rfl rfl
theorem qw_191 : Cond.classLink "Dataroom" 44 "java/lang/IllegalStateException" ∈ WS := tb1 (i := 191) rfl rfl
theorem qw_192 : Cond.instantiable "java/lang/IllegalStateException" 6 ∈ WS := tb1 (i := 192) rfl rfl
theorem qw_194 : Cond.selects "java/lang/IllegalStateException" ⟨"java/lang/Throwable", "fillInStackTrace", "(I)Ljava/lang/Throwable;"⟩ ⟨"java/lang/Throwable", "fillInStackTrace", "(I)Ljava/lang/Throwable;"⟩ ∈ WS := tb1 (i := 194) rfl rfl
theorem qw_195 : Cond.lays "java/lang/IllegalStateException" "java/lang/Throwable" "cause" "Ljava/lang/Throwable;" ∈ WS := tb1 (i := 195) rfl rfl
theorem qw_196 : Cond.lays "java/lang/IllegalStateException" "java/lang/Throwable" "stackTrace" "[Ljava/lang/StackTraceElement;" ∈ WS := tb1 (i := 196) rfl rfl
theorem qw_197 : Cond.lays "java/lang/IllegalStateException" "java/lang/Throwable" "suppressedExceptions" "Ljava/util/List;" ∈ WS := tb1 (i := 197) rfl rfl
theorem qw_198 : Cond.lays "java/lang/IllegalStateException" "java/lang/Throwable" "detailMessage" "Ljava/lang/String;" ∈ WS := tb1 (i := 198) rfl rfl
theorem qw_199 : Cond.lays "java/lang/IllegalStateException" "java/lang/Throwable" "backtrace" "Ljava/lang/Object;" ∈ WS := tb1 (i := 199) rfl rfl
theorem qw_201 : Cond.methodLink "Dataroom" 48 ⟨"java/lang/IllegalStateException", "<init>", "(Ljava/lang/String;)V"⟩ ∈ WS := tb1 (i := 201) rfl rfl
theorem qw_202 : Cond.instanceMethod ⟨"java/lang/IllegalStateException", "<init>", "(Ljava/lang/String;)V"⟩ ∈ WS := tb1 (i := 202) rfl rfl
theorem qw_203 : Cond.code ⟨"java/lang/IllegalStateException", "<init>", "(Ljava/lang/String;)V"⟩ prog_14_method_2_code 2 (Option.none : Option Jvm.ClassFile.FieldType) ∈ WS := tb1 (i := 203) rfl rfl
theorem qw_204 : Cond.methodLink "java/lang/IllegalStateException" 7 ⟨"java/lang/RuntimeException", "<init>", "(Ljava/lang/String;)V"⟩ ∈ WS := tb1 (i := 204) rfl rfl
theorem qw_205 : Cond.lays "java/lang/IllegalStateException" "java/lang/Throwable" "depth" "I" ∈ WS := tb1 (i := 205) rfl rfl
theorem qw_206 : Cond.superclass "java/lang/IllegalStateException" "java/lang/RuntimeException" ∈ WS := tb1 (i := 206) rfl rfl
theorem qw_207 : Cond.classLink "Dataroom" 51 "Dataroom$Card" ∈ WS := tb1 (i := 207) rfl rfl
theorem qw_208 : Cond.instantiable "Dataroom$Card" 2 ∈ WS := tb1 (i := 208) rfl rfl
theorem qw_209 : Cond.methodLink "Dataroom" 53 ⟨"Dataroom$Card", "<init>", "(I)V"⟩ ∈ WS := tb1 (i := 209) rfl rfl
theorem qw_210 : Cond.instanceMethod ⟨"Dataroom$Card", "<init>", "(I)V"⟩ ∈ WS := tb1 (i := 210) rfl rfl
theorem qw_211 : Cond.code ⟨"Dataroom$Card", "<init>", "(I)V"⟩ prog_3_method_1_code 2 (Option.none : Option Jvm.ClassFile.FieldType) ∈ WS := tb1 (i := 211) rfl rfl
theorem qw_212 : Cond.methodLink "Dataroom$Card" 3 ⟨"java/lang/Object", "<init>", "()V"⟩ ∈ WS := tb1 (i := 212) rfl rfl
theorem qw_213 : Cond.fieldLink "Dataroom$Card" 15 "Dataroom$Card" "number" "I" ∈ WS := tb1 (i := 213) rfl rfl
theorem qw_215 : Cond.fieldLink "Dataroom$Card" 9 "Dataroom$Card" "sealedTill" "I" ∈ WS := tb1 (i := 215) rfl rfl
theorem qw_217 : Cond.lays "Dataroom$Card" "Dataroom$Card" "number" "I" ∈ WS := tb1 (i := 217) rfl rfl
theorem qw_219 : Cond.lays "Dataroom$Card" "Dataroom$Card" "sealedTill" "I" ∈ WS := tb1 (i := 219) rfl rfl
theorem qw_221 : Cond.superclass "Dataroom$Card" "java/lang/Object" ∈ WS := tb1 (i := 221) rfl rfl
theorem qw_222 : Cond.methodLink "Dataroom" 56 ⟨"java/util/ArrayList", "add", "(Ljava/lang/Object;)Z"⟩ ∈ WS := tb1 (i := 222) rfl rfl
theorem qw_223 : Cond.instanceMethod ⟨"java/util/ArrayList", "add", "(Ljava/lang/Object;)Z"⟩ ∈ WS := tb1 (i := 223) rfl rfl
theorem qw_224 : Cond.selects "java/util/ArrayList" ⟨"java/util/ArrayList", "add", "(Ljava/lang/Object;)Z"⟩ ⟨"java/util/ArrayList", "add", "(Ljava/lang/Object;)Z"⟩ ∈ WS := tb1 (i := 224) rfl rfl
theorem qw_225 : Cond.code ⟨"java/util/ArrayList", "add", "(Ljava/lang/Object;)Z"⟩ prog_25_method_25_code 2 (Option.some Jvm.ClassFile.FieldType.boolean) ∈ WS := tb1 (i := 225) rfl rfl
theorem qw_226 : Cond.methodLink "java/util/ArrayList" 131 ⟨"java/util/ArrayList", "add", "(Ljava/lang/Object;[Ljava/lang/Object;I)V"⟩ ∈ WS := tb1 (i := 226) rfl rfl
theorem qw_228 : Cond.instanceMethod ⟨"java/util/ArrayList", "add", "(Ljava/lang/Object;[Ljava/lang/Object;I)V"⟩ ∈ WS := tb1 (i := 228) rfl rfl
theorem qw_229 : Cond.code ⟨"java/util/ArrayList", "add", "(Ljava/lang/Object;[Ljava/lang/Object;I)V"⟩ prog_25_method_24_code 4 (Option.none : Option Jvm.ClassFile.FieldType) ∈ WS := tb1 (i := 229) rfl rfl
theorem qw_230 : Cond.methodLink "java/util/ArrayList" 129 ⟨"java/util/ArrayList", "grow", "()[Ljava/lang/Object;"⟩ ∈ WS := tb1 (i := 230) rfl rfl
theorem qw_232 : Cond.instanceMethod ⟨"java/util/ArrayList", "grow", "()[Ljava/lang/Object;"⟩ ∈ WS := tb1 (i := 232) rfl rfl
theorem qw_233 : Cond.code ⟨"java/util/ArrayList", "grow", "()[Ljava/lang/Object;"⟩ prog_25_method_7_code 1 (Option.some (Jvm.ClassFile.FieldType.array (Jvm.ClassFile.FieldType.object "java/lang/Object"))) ∈ WS := tb1 (i := 233) rfl rfl
theorem qw_234 : Cond.methodLink "java/util/ArrayList" 69 ⟨"java/util/ArrayList", "grow", "(I)[Ljava/lang/Object;"⟩ ∈ WS := tb1 (i := 234) rfl rfl
theorem qw_236 : Cond.instanceMethod ⟨"java/util/ArrayList", "grow", "(I)[Ljava/lang/Object;"⟩ ∈ WS := tb1 (i := 236) rfl rfl
theorem qw_237 : Cond.code ⟨"java/util/ArrayList", "grow", "(I)[Ljava/lang/Object;"⟩ prog_25_method_6_code 4 (Option.some (Jvm.ClassFile.FieldType.array (Jvm.ClassFile.FieldType.object "java/lang/Object"))) ∈ WS := tb1 (i := 237) rfl rfl
theorem qw_238 : Cond.methodLink "java/util/ArrayList" 73 ⟨"jdk/internal/util/ArraysSupport", "newLength", "(III)I"⟩ ∈ WS := tb1 (i := 238) rfl rfl
theorem qw_239 : Cond.static ⟨"jdk/internal/util/ArraysSupport", "newLength", "(III)I"⟩ ∈ WS := tb1 (i := 239) rfl rfl
theorem qw_240 : Cond.code ⟨"jdk/internal/util/ArraysSupport", "newLength", "(III)I"⟩ prog_32_method_27_code 4 (Option.some Jvm.ClassFile.FieldType.int) ∈ WS := tb2 (i := 0) rfl rfl
theorem qw_241 : Cond.methodLink "jdk/internal/util/ArraysSupport" 194 ⟨"java/lang/Math", "max", "(II)I"⟩ ∈ WS := tb2 (i := 1) rfl rfl
theorem qw_242 : Cond.static ⟨"java/lang/Math", "max", "(II)I"⟩ ∈ WS := tb2 (i := 2) rfl rfl
theorem qw_243 : Cond.code ⟨"java/lang/Math", "max", "(II)I"⟩ prog_18_method_65_code 2 (Option.some Jvm.ClassFile.FieldType.int) ∈ WS := tb2 (i := 3) rfl rfl
theorem qw_244 : Cond.constant "jdk/internal/util/ArraysSupport" 200 (2147483639 : Int32) ∈ WS := tb2 (i := 4) rfl rfl
theorem qw_245 : Cond.methodLink "jdk/internal/util/ArraysSupport" 201 ⟨"jdk/internal/util/ArraysSupport", "hugeLength", "(II)I"⟩ ∈ WS := tb2 (i := 5) rfl rfl
theorem qw_246 : Cond.static ⟨"jdk/internal/util/ArraysSupport", "hugeLength", "(II)I"⟩ ∈ WS := tb2 (i := 6) rfl rfl
theorem qw_247 : Cond.code ⟨"jdk/internal/util/ArraysSupport", "hugeLength", "(II)I"⟩ prog_32_method_28_code 3 (Option.some Jvm.ClassFile.FieldType.int) ∈ WS := tb2 (i := 7) rfl rfl
theorem qw_248 : Cond.methodLink "java/util/ArrayList" 66 ⟨"java/util/Arrays", "copyOf", "([Ljava/lang/Object;I)[Ljava/lang/Object;"⟩ ∈ WS := tb2 (i := 8) rfl rfl
theorem qw_249 : Cond.static ⟨"java/util/Arrays", "copyOf", "([Ljava/lang/Object;I)[Ljava/lang/Object;"⟩ ∈ WS := tb2 (i := 9) rfl rfl
theorem qw_250 : Cond.code ⟨"java/util/Arrays", "copyOf", "([Ljava/lang/Object;I)[Ljava/lang/Object;"⟩ prog_26_method_119_code 2 (Option.some (Jvm.ClassFile.FieldType.array (Jvm.ClassFile.FieldType.object "java/lang/Object"))) ∈ WS := tb2 (i := 10) rfl rfl
theorem qw_251 : Cond.methodLink "java/util/Arrays" 86 ⟨"java/lang/Object", "getClass", "()Ljava/lang/Class;"⟩ ∈ WS := tb2 (i := 11) rfl rfl
theorem qw_252 : Cond.instanceMethod ⟨"java/lang/Object", "getClass", "()Ljava/lang/Class;"⟩ ∈ WS := tb2 (i := 12) rfl rfl
theorem qw_253 : Cond.sameMethod "java/lang/Object" "java/lang/Object" "getClass" "()Ljava/lang/Class;" ∈ WS := tb2 (i := 13) rfl rfl
theorem qw_254 : Cond.selects "Dataroom" ⟨"java/lang/Object", "getClass", "()Ljava/lang/Class;"⟩ ⟨"java/lang/Object", "getClass", "()Ljava/lang/Class;"⟩ ∈ WS := tb2 (i := 14) rfl rfl
theorem qw_255 : Cond.selects "Dataroom$Answer" ⟨"java/lang/Object", "getClass", "()Ljava/lang/Class;"⟩ ⟨"java/lang/Object", "getClass", "()Ljava/lang/Class;"⟩ ∈ WS := tb2 (i := 15) rfl rfl
theorem qw_256 : Cond.selects "Dataroom$Card" ⟨"java/lang/Object", "getClass", "()Ljava/lang/Class;"⟩ ⟨"java/lang/Object", "getClass", "()Ljava/lang/Class;"⟩ ∈ WS := tb2 (i := 16) rfl rfl
theorem qw_257 : Cond.selects "Dataroom$Knowledge" ⟨"java/lang/Object", "getClass", "()Ljava/lang/Class;"⟩ ⟨"java/lang/Object", "getClass", "()Ljava/lang/Class;"⟩ ∈ WS := tb2 (i := 17) rfl rfl
theorem qw_258 : Cond.selects "Dataroom$Marks" ⟨"java/lang/Object", "getClass", "()Ljava/lang/Class;"⟩ ⟨"java/lang/Object", "getClass", "()Ljava/lang/Class;"⟩ ∈ WS := tb2 (i := 18) rfl rfl
theorem qw_259 : Cond.selects "Dataroom$Party" ⟨"java/lang/Object", "getClass", "()Ljava/lang/Class;"⟩ ⟨"java/lang/Object", "getClass", "()Ljava/lang/Class;"⟩ ∈ WS := tb2 (i := 19) rfl rfl
theorem qw_260 : Cond.selects "Dataroom$Right" ⟨"java/lang/Object", "getClass", "()Ljava/lang/Class;"⟩ ⟨"java/lang/Object", "getClass", "()Ljava/lang/Class;"⟩ ∈ WS := tb2 (i := 20) rfl rfl
theorem qw_261 : Cond.selects "DataroomModel" ⟨"java/lang/Object", "getClass", "()Ljava/lang/Class;"⟩ ⟨"java/lang/Object", "getClass", "()Ljava/lang/Class;"⟩ ∈ WS := tb2 (i := 21) rfl rfl
theorem qw_262 : Cond.selects "java/lang/IllegalArgumentException" ⟨"java/lang/Object", "getClass", "()Ljava/lang/Class;"⟩ ⟨"java/lang/Object", "getClass", "()Ljava/lang/Class;"⟩ ∈ WS := tb2 (i := 22) rfl rfl
theorem qw_263 : Cond.selects "java/lang/IllegalStateException" ⟨"java/lang/Object", "getClass", "()Ljava/lang/Class;"⟩ ⟨"java/lang/Object", "getClass", "()Ljava/lang/Class;"⟩ ∈ WS := tb2 (i := 23) rfl rfl
theorem qw_264 : Cond.selects "java/lang/IndexOutOfBoundsException" ⟨"java/lang/Object", "getClass", "()Ljava/lang/Class;"⟩ ⟨"java/lang/Object", "getClass", "()Ljava/lang/Class;"⟩ ∈ WS := tb2 (i := 24) rfl rfl
theorem qw_265 : Cond.selects "java/util/ArrayList" ⟨"java/lang/Object", "getClass", "()Ljava/lang/Class;"⟩ ⟨"java/lang/Object", "getClass", "()Ljava/lang/Class;"⟩ ∈ WS := tb2 (i := 25) rfl rfl
theorem qw_267 : Cond.methodLink "java/util/Arrays" 300 ⟨"java/util/Arrays", "copyOf", "([Ljava/lang/Object;ILjava/lang/Class;)[Ljava/lang/Object;"⟩ ∈ WS := tb2 (i := 27) rfl rfl
theorem qw_268 : Cond.static ⟨"java/util/Arrays", "copyOf", "([Ljava/lang/Object;ILjava/lang/Class;)[Ljava/lang/Object;"⟩ ∈ WS := tb2 (i := 28) rfl rfl
theorem qw_269 : Cond.code ⟨"java/util/Arrays", "copyOf", "([Ljava/lang/Object;ILjava/lang/Class;)[Ljava/lang/Object;"⟩ prog_26_method_120_code 4 (Option.some (Jvm.ClassFile.FieldType.array (Jvm.ClassFile.FieldType.object "java/lang/Object"))) ∈ WS := tb2 (i := 29) rfl rfl
theorem qw_270 : Cond.classLink "java/util/Arrays" 110 "[Ljava/lang/Object;" ∈ WS := tb2 (i := 30) rfl rfl
theorem qw_272 : Cond.classLink "java/util/Arrays" 2 "java/lang/Object" ∈ WS := tb2 (i := 32) rfl rfl
theorem qw_273 : Cond.methodLink "java/util/Arrays" 304 ⟨"java/lang/Math", "min", "(II)I"⟩ ∈ WS := tb2 (i := 33) rfl rfl
theorem qw_274 : Cond.static ⟨"java/lang/Math", "min", "(II)I"⟩ ∈ WS := tb2 (i := 34) rfl rfl
theorem qw_275 : Cond.code ⟨"java/lang/Math", "min", "(II)I"⟩ prog_18_method_69_code 2 (Option.some Jvm.ClassFile.FieldType.int) ∈ WS := tb2 (i := 35) rfl rfl
theorem qw_276 : Cond.methodLink "java/util/Arrays" 150 ⟨"java/lang/System", "arraycopy", "(Ljava/lang/Object;ILjava/lang/Object;II)V"⟩ ∈ WS := tb2 (i := 36) rfl rfl
theorem qw_277 : Cond.static ⟨"java/lang/System", "arraycopy", "(Ljava/lang/Object;ILjava/lang/Object;II)V"⟩ ∈ WS := tb2 (i := 37) rfl rfl
theorem qw_279 : Cond.methodLink "java/util/ArrayList" 79 ⟨"java/lang/Math", "max", "(II)I"⟩ ∈ WS := tb2 (i := 39) rfl rfl
theorem qw_280 : Cond.classLink "java/util/ArrayList" 7 "java/lang/Object" ∈ WS := tb2 (i := 40) rfl rfl
theorem qw_281 : Cond.methodLink "DataroomLaw" 89 ⟨"DataroomLaw", "change", "(LDataroom;II[J)I"⟩ ∈ WS := tb2 (i := 41) rfl rfl
theorem qw_282 : Cond.static ⟨"DataroomLaw", "change", "(LDataroom;II[J)I"⟩ ∈ WS := tb2 (i := 42) rfl rfl
theorem qw_283 : Cond.codeWith ⟨"DataroomLaw", "change", "(LDataroom;II[J)I"⟩ method_4_code 5 (Option.some Jvm.ClassFile.FieldType.int) [(0, 10, 13, 21), (0, 10, 17, 13)] ∈ WS := tb2 (i := 43) rfl rfl
theorem qw_284 : Cond.classLink "DataroomLaw" 21 "java/lang/IndexOutOfBoundsException" ∈ WS := tb2 (i := 44) rfl rfl
theorem qw_285 : Cond.methodLink "DataroomLaw" 17 ⟨"Dataroom", "change", "(II)I"⟩ ∈ WS := tb2 (i := 45) rfl rfl
theorem qw_286 : Cond.instanceMethod ⟨"Dataroom", "change", "(II)I"⟩ ∈ WS := tb2 (i := 46) rfl rfl
theorem qw_287 : Cond.selects "Dataroom" ⟨"Dataroom", "change", "(II)I"⟩ ⟨"Dataroom", "change", "(II)I"⟩ ∈ WS := tb2 (i := 47) rfl rfl
theorem qw_288 : Cond.code ⟨"Dataroom", "change", "(II)I"⟩ prog_1_method_3_code 6 (Option.some Jvm.ClassFile.FieldType.int) ∈ WS := tb2 (i := 48) rfl rfl
theorem qw_289 : Cond.methodLink "Dataroom" 60 ⟨"Dataroom", "fileAt", "(I)LDataroom$Card;"⟩ ∈ WS := tb2 (i := 49) rfl rfl
theorem qw_291 : Cond.instanceMethod ⟨"Dataroom", "fileAt", "(I)LDataroom$Card;"⟩ ∈ WS := tb2 (i := 51) rfl rfl
theorem qw_292 : Cond.code ⟨"Dataroom", "fileAt", "(I)LDataroom$Card;"⟩ prog_1_method_21_code 2 (Option.some (Jvm.ClassFile.FieldType.object "Dataroom$Card")) ∈ WS := tb2 (i := 52) rfl rfl
theorem qw_293 : Cond.methodLink "Dataroom" 90 ⟨"Dataroom", "requireFile", "(I)V"⟩ ∈ WS := tb2 (i := 53) rfl rfl
theorem qw_295 : Cond.instanceMethod ⟨"Dataroom", "requireFile", "(I)V"⟩ ∈ WS := tb2 (i := 55) rfl rfl
theorem qw_296 : Cond.code ⟨"Dataroom", "requireFile", "(I)V"⟩ prog_1_method_22_code 2 (Option.none : Option Jvm.ClassFile.FieldType) ∈ WS := tb2 (i := 56) rfl rfl
theorem qw_297 : Cond.classLink "Dataroom" 143 "java/lang/IndexOutOfBoundsException" ∈ WS := tb2 (i := 57) rfl rfl
theorem qw_298 : Cond.instantiable "java/lang/IndexOutOfBoundsException" 6 ∈ WS := tb2 (i := 58) rfl rfl
theorem qw_300 : Cond.selects "java/lang/IndexOutOfBoundsException" ⟨"java/lang/Throwable", "fillInStackTrace", "(I)Ljava/lang/Throwable;"⟩ ⟨"java/lang/Throwable", "fillInStackTrace", "(I)Ljava/lang/Throwable;"⟩ ∈ WS := tb2 (i := 60) rfl rfl
theorem qw_301 : Cond.lays "java/lang/IndexOutOfBoundsException" "java/lang/Throwable" "cause" "Ljava/lang/Throwable;" ∈ WS := tb2 (i := 61) rfl rfl
theorem qw_302 : Cond.lays "java/lang/IndexOutOfBoundsException" "java/lang/Throwable" "stackTrace" "[Ljava/lang/StackTraceElement;" ∈ WS := tb2 (i := 62) rfl rfl
theorem qw_303 : Cond.lays "java/lang/IndexOutOfBoundsException" "java/lang/Throwable" "suppressedExceptions" "Ljava/util/List;" ∈ WS := tb2 (i := 63) rfl rfl
theorem qw_304 : Cond.lays "java/lang/IndexOutOfBoundsException" "java/lang/Throwable" "detailMessage" "Ljava/lang/String;" ∈ WS := tb2 (i := 64) rfl rfl
theorem qw_305 : Cond.lays "java/lang/IndexOutOfBoundsException" "java/lang/Throwable" "backtrace" "Ljava/lang/Object;" ∈ WS := tb2 (i := 65) rfl rfl
theorem qw_307 : Cond.methodLink "Dataroom" 147 ⟨"java/lang/IndexOutOfBoundsException", "<init>", "(Ljava/lang/String;)V"⟩ ∈ WS := tb2 (i := 67) rfl rfl
theorem qw_308 : Cond.instanceMethod ⟨"java/lang/IndexOutOfBoundsException", "<init>", "(Ljava/lang/String;)V"⟩ ∈ WS := tb2 (i := 68) rfl rfl
theorem qw_309 : Cond.code ⟨"java/lang/IndexOutOfBoundsException", "<init>", "(Ljava/lang/String;)V"⟩ prog_15_method_2_code 2 (Option.none : Option Jvm.ClassFile.FieldType) ∈ WS := tb2 (i := 69) rfl rfl
theorem qw_310 : Cond.methodLink "java/lang/IndexOutOfBoundsException" 7 ⟨"java/lang/RuntimeException", "<init>", "(Ljava/lang/String;)V"⟩ ∈ WS := tb2 (i := 70) rfl rfl
theorem qw_311 : Cond.lays "java/lang/IndexOutOfBoundsException" "java/lang/Throwable" "depth" "I" ∈ WS := tb2 (i := 71) rfl rfl
theorem qw_312 : Cond.superclass "java/lang/IndexOutOfBoundsException" "java/lang/RuntimeException" ∈ WS := tb2 (i := 72) rfl rfl
theorem qw_313 : Cond.methodLink "Dataroom" 68 ⟨"java/util/ArrayList", "get", "(I)Ljava/lang/Object;"⟩ ∈ WS := tb2 (i := 73) rfl rfl
theorem qw_314 : Cond.instanceMethod ⟨"java/util/ArrayList", "get", "(I)Ljava/lang/Object;"⟩ ∈ WS := tb2 (i := 74) rfl rfl
theorem qw_315 : Cond.selects "java/util/ArrayList" ⟨"java/util/ArrayList", "get", "(I)Ljava/lang/Object;"⟩ ⟨"java/util/ArrayList", "get", "(I)Ljava/lang/Object;"⟩ ∈ WS := tb2 (i := 75) rfl rfl
theorem qw_316 : Cond.code ⟨"java/util/ArrayList", "get", "(I)Ljava/lang/Object;"⟩ prog_25_method_20_code 2 (Option.some (Jvm.ClassFile.FieldType.object "java/lang/Object")) ∈ WS := tb2 (i := 76) rfl rfl
theorem qw_317 : Cond.methodLink "java/util/ArrayList" 118 ⟨"java/util/Objects", "checkIndex", "(II)I"⟩ ∈ WS := tb2 (i := 77) rfl rfl
theorem qw_318 : Cond.static ⟨"java/util/Objects", "checkIndex", "(II)I"⟩ ∈ WS := tb2 (i := 78) rfl rfl
theorem qw_319 : Cond.code ⟨"java/util/Objects", "checkIndex", "(II)I"⟩ prog_29_method_17_code 2 (Option.some Jvm.ClassFile.FieldType.int) ∈ WS := tb2 (i := 79) rfl rfl
theorem qw_320 : Cond.methodLink "java/util/Objects" 105 ⟨"jdk/internal/util/Preconditions", "checkIndex", "(IILjava/util/function/BiFunction;)I"⟩ ∈ WS := tb2 (i := 80) rfl rfl
theorem qw_321 : Cond.static ⟨"jdk/internal/util/Preconditions", "checkIndex", "(IILjava/util/function/BiFunction;)I"⟩ ∈ WS := tb2 (i := 81) rfl rfl
theorem qw_322 : Cond.code ⟨"jdk/internal/util/Preconditions", "checkIndex", "(IILjava/util/function/BiFunction;)I"⟩ prog_33_method_11_code 3 (Option.some Jvm.ClassFile.FieldType.int) ∈ WS := tb2 (i := 82) rfl rfl
theorem qw_323 : Cond.methodLink "java/util/ArrayList" 123 ⟨"java/util/ArrayList", "elementData", "(I)Ljava/lang/Object;"⟩ ∈ WS := tb2 (i := 83) rfl rfl
theorem qw_324 : Cond.instanceMethod ⟨"java/util/ArrayList", "elementData", "(I)Ljava/lang/Object;"⟩ ∈ WS := tb2 (i := 84) rfl rfl
theorem qw_325 : Cond.selects "java/util/ArrayList" ⟨"java/util/ArrayList", "elementData", "(I)Ljava/lang/Object;"⟩ ⟨"java/util/ArrayList", "elementData", "(I)Ljava/lang/Object;"⟩ ∈ WS := tb2 (i := 85) rfl rfl
theorem qw_326 : Cond.code ⟨"java/util/ArrayList", "elementData", "(I)Ljava/lang/Object;"⟩ prog_25_method_18_code 2 (Option.some (Jvm.ClassFile.FieldType.object "java/lang/Object")) ∈ WS := tb2 (i := 86) rfl rfl
theorem qw_327 : Cond.classLink "Dataroom" 72 "Dataroom$Party" ∈ WS := tb2 (i := 87) rfl rfl
theorem qw_328 : Cond.methodLink "Dataroom" 74 ⟨"Dataroom", "recall", "(LDataroom$Party;I)I"⟩ ∈ WS := tb2 (i := 88) rfl rfl
theorem qw_330 : Cond.instanceMethod ⟨"Dataroom", "recall", "(LDataroom$Party;I)I"⟩ ∈ WS := tb2 (i := 90) rfl rfl
theorem qw_331 : Cond.code ⟨"Dataroom", "recall", "(LDataroom$Party;I)I"⟩ prog_1_method_31_code 6 (Option.some Jvm.ClassFile.FieldType.int) ∈ WS := tb2 (i := 91) rfl rfl
theorem qw_332 : Cond.classLink "Dataroom" 129 "Dataroom$Answer" ∈ WS := tb2 (i := 92) rfl rfl
theorem qw_333 : Cond.methodLink "Dataroom" 209 ⟨"Dataroom$Answer", "standsFor", "(LDataroom$Party;)Z"⟩ ∈ WS := tb2 (i := 93) rfl rfl
theorem qw_334 : Cond.instanceMethod ⟨"Dataroom$Answer", "standsFor", "(LDataroom$Party;)Z"⟩ ∈ WS := tb2 (i := 94) rfl rfl
theorem qw_335 : Cond.selects "Dataroom$Answer" ⟨"Dataroom$Answer", "standsFor", "(LDataroom$Party;)Z"⟩ ⟨"Dataroom$Answer", "standsFor", "(LDataroom$Party;)Z"⟩ ∈ WS := tb2 (i := 95) rfl rfl
theorem qw_336 : Cond.code ⟨"Dataroom$Answer", "standsFor", "(LDataroom$Party;)Z"⟩ prog_2_method_2_code 2 (Option.some Jvm.ClassFile.FieldType.boolean) ∈ WS := tb2 (i := 96) rfl rfl
theorem qw_337 : Cond.methodLink "Dataroom" 205 ⟨"Dataroom", "holds", "(II)Z"⟩ ∈ WS := tb2 (i := 97) rfl rfl
theorem qw_338 : Cond.static ⟨"Dataroom", "holds", "(II)Z"⟩ ∈ WS := tb2 (i := 98) rfl rfl
theorem qw_339 : Cond.code ⟨"Dataroom", "holds", "(II)Z"⟩ prog_1_method_25_code 2 (Option.some Jvm.ClassFile.FieldType.boolean) ∈ WS := tb2 (i := 99) rfl rfl
theorem qw_340 : Cond.methodLink "Dataroom" 220 ⟨"Dataroom", "learnAnew", "(LDataroom$Party;)V"⟩ ∈ WS := tb2 (i := 100) rfl rfl
theorem qw_342 : Cond.instanceMethod ⟨"Dataroom", "learnAnew", "(LDataroom$Party;)V"⟩ ∈ WS := tb2 (i := 102) rfl rfl
theorem qw_343 : Cond.code ⟨"Dataroom", "learnAnew", "(LDataroom$Party;)V"⟩ prog_1_method_32_code 4 (Option.none : Option Jvm.ClassFile.FieldType) ∈ WS := tb2 (i := 103) rfl rfl
theorem qw_344 : Cond.methodLink "Dataroom" 224 ⟨"Dataroom$Party", "forget", "()V"⟩ ∈ WS := tb2 (i := 104) rfl rfl
theorem qw_345 : Cond.instanceMethod ⟨"Dataroom$Party", "forget", "()V"⟩ ∈ WS := tb2 (i := 105) rfl rfl
theorem qw_346 : Cond.selects "Dataroom$Party" ⟨"Dataroom$Party", "forget", "()V"⟩ ⟨"Dataroom$Party", "forget", "()V"⟩ ∈ WS := tb2 (i := 106) rfl rfl
theorem qw_347 : Cond.code ⟨"Dataroom$Party", "forget", "()V"⟩ prog_6_method_8_code 2 (Option.none : Option Jvm.ClassFile.FieldType) ∈ WS := tb2 (i := 107) rfl rfl
theorem qw_348 : Cond.methodLink "Dataroom$Party" 51 ⟨"Dataroom$Knowledge", "forget", "()V"⟩ ∈ WS := tb2 (i := 108) rfl rfl
theorem qw_349 : Cond.instanceMethod ⟨"Dataroom$Knowledge", "forget", "()V"⟩ ∈ WS := tb2 (i := 109) rfl rfl
theorem qw_350 : Cond.selects "Dataroom$Knowledge" ⟨"Dataroom$Knowledge", "forget", "()V"⟩ ⟨"Dataroom$Knowledge", "forget", "()V"⟩ ∈ WS := tb2 (i := 110) rfl rfl
theorem qw_351 : Cond.code ⟨"Dataroom$Knowledge", "forget", "()V"⟩ prog_4_method_2_code 2 (Option.none : Option Jvm.ClassFile.FieldType) ∈ WS := tb2 (i := 111) rfl rfl
theorem qw_352 : Cond.methodLink "Dataroom" 137 ⟨"Dataroom$Party", "learn", "(II)V"⟩ ∈ WS := tb2 (i := 112) rfl rfl
theorem qw_353 : Cond.instanceMethod ⟨"Dataroom$Party", "learn", "(II)V"⟩ ∈ WS := tb2 (i := 113) rfl rfl
theorem qw_354 : Cond.selects "Dataroom$Party" ⟨"Dataroom$Party", "learn", "(II)V"⟩ ⟨"Dataroom$Party", "learn", "(II)V"⟩ ∈ WS := tb2 (i := 114) rfl rfl
theorem qw_355 : Cond.code ⟨"Dataroom$Party", "learn", "(II)V"⟩ prog_6_method_7_code 4 (Option.none : Option Jvm.ClassFile.FieldType) ∈ WS := tb2 (i := 115) rfl rfl
theorem qw_357 : Cond.static ⟨"Dataroom", "covers", "(II)Z"⟩ ∈ WS := tb2 (i := 117) rfl rfl
theorem qw_358 : Cond.code ⟨"Dataroom", "covers", "(II)Z"⟩ prog_1_method_26_code 2 (Option.some Jvm.ClassFile.FieldType.boolean) ∈ WS := tb2 (i := 118) rfl rfl
theorem qw_359 : Cond.methodLink "Dataroom$Party" 47 ⟨"Dataroom$Knowledge", "learn", "(I)V"⟩ ∈ WS := tb2 (i := 119) rfl rfl
theorem qw_360 : Cond.instanceMethod ⟨"Dataroom$Knowledge", "learn", "(I)V"⟩ ∈ WS := tb2 (i := 120) rfl rfl
theorem qw_361 : Cond.selects "Dataroom$Knowledge" ⟨"Dataroom$Knowledge", "learn", "(I)V"⟩ ⟨"Dataroom$Knowledge", "learn", "(I)V"⟩ ∈ WS := tb2 (i := 121) rfl rfl
theorem qw_362 : Cond.code ⟨"Dataroom$Knowledge", "learn", "(I)V"⟩ prog_4_method_3_code 4 (Option.none : Option Jvm.ClassFile.FieldType) ∈ WS := tb2 (i := 122) rfl rfl
theorem qw_364 : Cond.methodLink "DataroomLaw" 93 ⟨"DataroomLaw", "party", "(LDataroom;I[J)I"⟩ ∈ WS := tb2 (i := 124) rfl rfl
theorem qw_365 : Cond.static ⟨"DataroomLaw", "party", "(LDataroom;I[J)I"⟩ ∈ WS := tb2 (i := 125) rfl rfl
theorem qw_366 : Cond.codeWith ⟨"DataroomLaw", "party", "(LDataroom;I[J)I"⟩ method_5_code 4 (Option.some Jvm.ClassFile.FieldType.int) [(0, 9, 12, 13), (0, 9, 15, 15)] ∈ WS := tb2 (i := 126) rfl rfl
theorem qw_367 : Cond.methodLink "DataroomLaw" 23 ⟨"Dataroom", "party", "(I)I"⟩ ∈ WS := tb2 (i := 127) rfl rfl
theorem qw_368 : Cond.instanceMethod ⟨"Dataroom", "party", "(I)I"⟩ ∈ WS := tb2 (i := 128) rfl rfl
theorem qw_369 : Cond.selects "Dataroom" ⟨"Dataroom", "party", "(I)I"⟩ ⟨"Dataroom", "party", "(I)I"⟩ ∈ WS := tb2 (i := 129) rfl rfl
theorem qw_370 : Cond.code ⟨"Dataroom", "party", "(I)I"⟩ prog_1_method_4_code 3 (Option.some Jvm.ClassFile.FieldType.int) ∈ WS := tb2 (i := 130) rfl rfl
theorem qw_372 : Cond.instantiable "Dataroom$Party" 5 ∈ WS := tb2 (i := 132) rfl rfl
theorem qw_373 : Cond.methodLink "Dataroom" 80 ⟨"Dataroom$Party", "<init>", "(II)V"⟩ ∈ WS := tb2 (i := 133) rfl rfl
theorem qw_374 : Cond.instanceMethod ⟨"Dataroom$Party", "<init>", "(II)V"⟩ ∈ WS := tb2 (i := 134) rfl rfl
theorem qw_375 : Cond.code ⟨"Dataroom$Party", "<init>", "(II)V"⟩ prog_6_method_1_code 4 (Option.none : Option Jvm.ClassFile.FieldType) ∈ WS := tb2 (i := 135) rfl rfl
theorem qw_376 : Cond.methodLink "Dataroom$Party" 3 ⟨"java/lang/Object", "<init>", "()V"⟩ ∈ WS := tb2 (i := 136) rfl rfl
theorem qw_377 : Cond.classLink "Dataroom$Party" 9 "Dataroom$Right" ∈ WS := tb2 (i := 137) rfl rfl
theorem qw_379 : Cond.classLink "Dataroom$Party" 17 "Dataroom$Knowledge" ∈ WS := tb2 (i := 139) rfl rfl
theorem qw_382 : Cond.fieldLink "Dataroom$Party" 27 "Dataroom$Party" "place" "I" ∈ WS := tb2 (i := 142) rfl rfl
theorem qw_385 : Cond.fieldLink "Dataroom$Party" 31 "Dataroom$Party" "budget" "I" ∈ WS := tb2 (i := 145) rfl rfl
theorem qw_387 : Cond.fieldLink "Dataroom$Party" 11 "Dataroom$Party" "rights" "[LDataroom$Right;" ∈ WS := tb2 (i := 147) rfl rfl
theorem qw_388 : Cond.fieldLink "Dataroom$Party" 19 "Dataroom$Party" "known" "[LDataroom$Knowledge;" ∈ WS := tb2 (i := 148) rfl rfl
theorem qw_390 : Cond.fieldLink "Dataroom$Party" 23 "Dataroom$Party" "fared" "[I" ∈ WS := tb2 (i := 150) rfl rfl
theorem qw_391 : Cond.laysFinal "Dataroom$Party" "Dataroom$Party" "place" "I" ∈ WS := tb2 (i := 151) rfl rfl
theorem qw_393 : Cond.lays "Dataroom$Party" "Dataroom$Party" "budget" "I" ∈ WS := tb2 (i := 153) rfl rfl
theorem qw_395 : Cond.laysFinal "Dataroom$Party" "Dataroom$Party" "rights" "[LDataroom$Right;" ∈ WS := tb2 (i := 155) rfl rfl
theorem qw_397 : Cond.laysFinal "Dataroom$Party" "Dataroom$Party" "known" "[LDataroom$Knowledge;" ∈ WS := tb2 (i := 157) rfl rfl
theorem qw_399 : Cond.laysFinal "Dataroom$Party" "Dataroom$Party" "fared" "[I" ∈ WS := tb2 (i := 159) rfl rfl
theorem qw_401 : Cond.superclass "Dataroom$Party" "java/lang/Object" ∈ WS := tb2 (i := 161) rfl rfl
theorem qw_402 : Cond.methodLink "DataroomLaw" 96 ⟨"DataroomLaw", "budget", "(LDataroom;II[J)I"⟩ ∈ WS := tb2 (i := 162) rfl rfl
theorem qw_403 : Cond.static ⟨"DataroomLaw", "budget", "(LDataroom;II[J)I"⟩ ∈ WS := tb2 (i := 163) rfl rfl
theorem qw_404 : Cond.codeWith ⟨"DataroomLaw", "budget", "(LDataroom;II[J)I"⟩ method_6_code 5 (Option.some Jvm.ClassFile.FieldType.int) [(0, 10, 13, 21), (0, 10, 17, 13)] ∈ WS := tb2 (i := 164) rfl rfl
theorem qw_405 : Cond.methodLink "DataroomLaw" 26 ⟨"Dataroom", "budget", "(II)I"⟩ ∈ WS := tb2 (i := 165) rfl rfl
theorem qw_406 : Cond.instanceMethod ⟨"Dataroom", "budget", "(II)I"⟩ ∈ WS := tb2 (i := 166) rfl rfl
theorem qw_407 : Cond.selects "Dataroom" ⟨"Dataroom", "budget", "(II)I"⟩ ⟨"Dataroom", "budget", "(II)I"⟩ ∈ WS := tb2 (i := 167) rfl rfl
theorem qw_408 : Cond.code ⟨"Dataroom", "budget", "(II)I"⟩ prog_1_method_5_code 5 (Option.some Jvm.ClassFile.FieldType.int) ∈ WS := tb2 (i := 168) rfl rfl
theorem qw_409 : Cond.methodLink "Dataroom" 83 ⟨"Dataroom", "partyAt", "(I)LDataroom$Party;"⟩ ∈ WS := tb2 (i := 169) rfl rfl
theorem qw_411 : Cond.instanceMethod ⟨"Dataroom", "partyAt", "(I)LDataroom$Party;"⟩ ∈ WS := tb2 (i := 171) rfl rfl
theorem qw_412 : Cond.code ⟨"Dataroom", "partyAt", "(I)LDataroom$Party;"⟩ prog_1_method_20_code 2 (Option.some (Jvm.ClassFile.FieldType.object "Dataroom$Party")) ∈ WS := tb2 (i := 172) rfl rfl
theorem qw_414 : Cond.methodLink "DataroomLaw" 99 ⟨"DataroomLaw", "right", "(LDataroom;IIIII)I"⟩ ∈ WS := tb2 (i := 174) rfl rfl
theorem qw_415 : Cond.static ⟨"DataroomLaw", "right", "(LDataroom;IIIII)I"⟩ ∈ WS := tb2 (i := 175) rfl rfl
theorem qw_416 : Cond.codeWith ⟨"DataroomLaw", "right", "(LDataroom;IIIII)I"⟩ method_7_code 7 (Option.some Jvm.ClassFile.FieldType.int) [(0, 11, 14, 21), (0, 11, 18, 13)] ∈ WS := tb2 (i := 176) rfl rfl
theorem qw_417 : Cond.methodLink "DataroomLaw" 29 ⟨"Dataroom", "right", "(IIIII)V"⟩ ∈ WS := tb2 (i := 177) rfl rfl
theorem qw_418 : Cond.instanceMethod ⟨"Dataroom", "right", "(IIIII)V"⟩ ∈ WS := tb2 (i := 178) rfl rfl
theorem qw_419 : Cond.selects "Dataroom" ⟨"Dataroom", "right", "(IIIII)V"⟩ ⟨"Dataroom", "right", "(IIIII)V"⟩ ∈ WS := tb2 (i := 179) rfl rfl
theorem qw_420 : Cond.code ⟨"Dataroom", "right", "(IIIII)V"⟩ prog_1_method_6_code 7 (Option.none : Option Jvm.ClassFile.FieldType) ∈ WS := tb2 (i := 180) rfl rfl
theorem qw_421 : Cond.classLink "Dataroom" 93 "Dataroom$Right" ∈ WS := tb2 (i := 181) rfl rfl
theorem qw_422 : Cond.instantiable "Dataroom$Right" 3 ∈ WS := tb2 (i := 182) rfl rfl
theorem qw_423 : Cond.methodLink "Dataroom" 95 ⟨"Dataroom$Right", "<init>", "(III)V"⟩ ∈ WS := tb2 (i := 183) rfl rfl
theorem qw_424 : Cond.instanceMethod ⟨"Dataroom$Right", "<init>", "(III)V"⟩ ∈ WS := tb2 (i := 184) rfl rfl
theorem qw_425 : Cond.code ⟨"Dataroom$Right", "<init>", "(III)V"⟩ prog_7_method_1_code 4 (Option.none : Option Jvm.ClassFile.FieldType) ∈ WS := tb2 (i := 185) rfl rfl
theorem qw_426 : Cond.methodLink "Dataroom$Right" 3 ⟨"java/lang/Object", "<init>", "()V"⟩ ∈ WS := tb2 (i := 186) rfl rfl
theorem qw_427 : Cond.fieldLink "Dataroom$Right" 9 "Dataroom$Right" "kind" "I" ∈ WS := tb2 (i := 187) rfl rfl
theorem qw_428 : Cond.fieldLink "Dataroom$Right" 15 "Dataroom$Right" "from" "I" ∈ WS := tb2 (i := 188) rfl rfl
theorem qw_429 : Cond.fieldLink "Dataroom$Right" 18 "Dataroom$Right" "to" "I" ∈ WS := tb2 (i := 189) rfl rfl
theorem qw_430 : Cond.laysFinal "Dataroom$Right" "Dataroom$Right" "kind" "I" ∈ WS := tb2 (i := 190) rfl rfl
theorem qw_432 : Cond.laysFinal "Dataroom$Right" "Dataroom$Right" "from" "I" ∈ WS := tb2 (i := 192) rfl rfl
theorem qw_434 : Cond.laysFinal "Dataroom$Right" "Dataroom$Right" "to" "I" ∈ WS := tb2 (i := 194) rfl rfl
theorem qw_436 : Cond.superclass "Dataroom$Right" "java/lang/Object" ∈ WS := tb2 (i := 196) rfl rfl
theorem qw_437 : Cond.methodLink "Dataroom" 97 ⟨"Dataroom$Party", "setRight", "(ILDataroom$Right;)V"⟩ ∈ WS := tb2 (i := 197) rfl rfl
theorem qw_438 : Cond.instanceMethod ⟨"Dataroom$Party", "setRight", "(ILDataroom$Right;)V"⟩ ∈ WS := tb2 (i := 198) rfl rfl
theorem qw_439 : Cond.selects "Dataroom$Party" ⟨"Dataroom$Party", "setRight", "(ILDataroom$Right;)V"⟩ ⟨"Dataroom$Party", "setRight", "(ILDataroom$Right;)V"⟩ ∈ WS := tb2 (i := 199) rfl rfl
theorem qw_440 : Cond.code ⟨"Dataroom$Party", "setRight", "(ILDataroom$Right;)V"⟩ prog_6_method_3_code 3 (Option.none : Option Jvm.ClassFile.FieldType) ∈ WS := tb2 (i := 200) rfl rfl
theorem qw_441 : Cond.methodLink "DataroomLaw" 103 ⟨"DataroomLaw", "takeBack", "(LDataroom;II[J)I"⟩ ∈ WS := tb2 (i := 201) rfl rfl
theorem qw_442 : Cond.static ⟨"DataroomLaw", "takeBack", "(LDataroom;II[J)I"⟩ ∈ WS := tb2 (i := 202) rfl rfl
theorem qw_443 : Cond.codeWith ⟨"DataroomLaw", "takeBack", "(LDataroom;II[J)I"⟩ method_8_code 5 (Option.some Jvm.ClassFile.FieldType.int) [(0, 10, 13, 21)] ∈ WS := tb2 (i := 203) rfl rfl
theorem qw_444 : Cond.methodLink "DataroomLaw" 33 ⟨"Dataroom", "takeBack", "(II)I"⟩ ∈ WS := tb2 (i := 204) rfl rfl
theorem qw_445 : Cond.instanceMethod ⟨"Dataroom", "takeBack", "(II)I"⟩ ∈ WS := tb2 (i := 205) rfl rfl
theorem qw_446 : Cond.selects "Dataroom" ⟨"Dataroom", "takeBack", "(II)I"⟩ ⟨"Dataroom", "takeBack", "(II)I"⟩ ∈ WS := tb2 (i := 206) rfl rfl
theorem qw_447 : Cond.code ⟨"Dataroom", "takeBack", "(II)I"⟩ prog_1_method_7_code 4 (Option.some Jvm.ClassFile.FieldType.int) ∈ WS := tb2 (i := 207) rfl rfl
theorem qw_448 : Cond.methodLink "Dataroom" 101 ⟨"Dataroom$Party", "rightFor", "(I)LDataroom$Right;"⟩ ∈ WS := tb2 (i := 208) rfl rfl
theorem qw_449 : Cond.instanceMethod ⟨"Dataroom$Party", "rightFor", "(I)LDataroom$Right;"⟩ ∈ WS := tb2 (i := 209) rfl rfl
theorem qw_450 : Cond.selects "Dataroom$Party" ⟨"Dataroom$Party", "rightFor", "(I)LDataroom$Right;"⟩ ⟨"Dataroom$Party", "rightFor", "(I)LDataroom$Right;"⟩ ∈ WS := tb2 (i := 210) rfl rfl
theorem qw_451 : Cond.code ⟨"Dataroom$Party", "rightFor", "(I)LDataroom$Right;"⟩ prog_6_method_2_code 2 (Option.some (Jvm.ClassFile.FieldType.object "Dataroom$Right")) ∈ WS := tb2 (i := 211) rfl rfl
theorem qw_452 : Cond.methodLink "DataroomLaw" 106 ⟨"DataroomLaw", "seal", "(LDataroom;II)I"⟩ ∈ WS := tb2 (i := 212) rfl rfl
theorem qw_453 : Cond.static ⟨"DataroomLaw", "seal", "(LDataroom;II)I"⟩ ∈ WS := tb2 (i := 213) rfl rfl
theorem qw_454 : Cond.codeWith ⟨"DataroomLaw", "seal", "(LDataroom;II)I"⟩ method_9_code 4 (Option.some Jvm.ClassFile.FieldType.int) [(0, 6, 9, 21), (0, 6, 12, 13)] ∈ WS := tb2 (i := 214) rfl rfl
theorem qw_455 : Cond.methodLink "DataroomLaw" 36 ⟨"Dataroom", "seal", "(II)V"⟩ ∈ WS := tb2 (i := 215) rfl rfl
theorem qw_456 : Cond.instanceMethod ⟨"Dataroom", "seal", "(II)V"⟩ ∈ WS := tb2 (i := 216) rfl rfl
theorem qw_457 : Cond.selects "Dataroom" ⟨"Dataroom", "seal", "(II)V"⟩ ⟨"Dataroom", "seal", "(II)V"⟩ ∈ WS := tb2 (i := 217) rfl rfl
theorem qw_458 : Cond.code ⟨"Dataroom", "seal", "(II)V"⟩ prog_1_method_8_code 4 (Option.none : Option Jvm.ClassFile.FieldType) ∈ WS := tb2 (i := 218) rfl rfl
theorem qw_459 : Cond.methodLink "DataroomLaw" 110 ⟨"DataroomLaw", "pass", "(LDataroom;I[J)I"⟩ ∈ WS := tb2 (i := 219) rfl rfl
theorem qw_460 : Cond.static ⟨"DataroomLaw", "pass", "(LDataroom;I[J)I"⟩ ∈ WS := tb2 (i := 220) rfl rfl
theorem qw_461 : Cond.codeWith ⟨"DataroomLaw", "pass", "(LDataroom;I[J)I"⟩ method_10_code 4 (Option.some Jvm.ClassFile.FieldType.int) [(0, 9, 12, 13), (0, 9, 15, 15)] ∈ WS := tb2 (i := 221) rfl rfl
theorem qw_462 : Cond.methodLink "DataroomLaw" 40 ⟨"Dataroom", "pass", "(I)I"⟩ ∈ WS := tb2 (i := 222) rfl rfl
theorem qw_463 : Cond.instanceMethod ⟨"Dataroom", "pass", "(I)I"⟩ ∈ WS := tb2 (i := 223) rfl rfl
theorem qw_464 : Cond.selects "Dataroom" ⟨"Dataroom", "pass", "(I)I"⟩ ⟨"Dataroom", "pass", "(I)I"⟩ ∈ WS := tb2 (i := 224) rfl rfl
theorem qw_465 : Cond.code ⟨"Dataroom", "pass", "(I)I"⟩ prog_1_method_9_code 2 (Option.some Jvm.ClassFile.FieldType.int) ∈ WS := tb2 (i := 225) rfl rfl
theorem qw_467 : Cond.methodLink "DataroomLaw" 113 ⟨"DataroomLaw", "ask", "(LDataroom;III[J)I"⟩ ∈ WS := tb2 (i := 227) rfl rfl
theorem qw_468 : Cond.static ⟨"DataroomLaw", "ask", "(LDataroom;III[J)I"⟩ ∈ WS := tb2 (i := 228) rfl rfl
theorem qw_469 : Cond.codeWith ⟨"DataroomLaw", "ask", "(LDataroom;III[J)I"⟩ method_11_code 6 (Option.some Jvm.ClassFile.FieldType.int) [(0, 12, 15, 21), (0, 12, 19, 13), (0, 12, 23, 15)] ∈ WS := tb2 (i := 229) rfl rfl
theorem qw_470 : Cond.methodLink "DataroomLaw" 43 ⟨"Dataroom", "ask", "(III)I"⟩ ∈ WS := tb2 (i := 230) rfl rfl
theorem qw_471 : Cond.instanceMethod ⟨"Dataroom", "ask", "(III)I"⟩ ∈ WS := tb2 (i := 231) rfl rfl
theorem qw_472 : Cond.selects "Dataroom" ⟨"Dataroom", "ask", "(III)I"⟩ ⟨"Dataroom", "ask", "(III)I"⟩ ∈ WS := tb2 (i := 232) rfl rfl
theorem qw_473 : Cond.code ⟨"Dataroom", "ask", "(III)I"⟩ prog_1_method_10_code 7 (Option.some Jvm.ClassFile.FieldType.int) ∈ WS := tb2 (i := 233) rfl rfl
theorem qw_474 : Cond.methodLink "Dataroom" 113 ⟨"Dataroom", "requireQuestion", "(II)V"⟩ ∈ WS := tb2 (i := 234) rfl rfl
theorem qw_476 : Cond.instanceMethod ⟨"Dataroom", "requireQuestion", "(II)V"⟩ ∈ WS := tb2 (i := 236) rfl rfl
theorem qw_477 : Cond.code ⟨"Dataroom", "requireQuestion", "(II)V"⟩ prog_1_method_24_code 3 (Option.none : Option Jvm.ClassFile.FieldType) ∈ WS := tb2 (i := 237) rfl rfl
theorem qw_479 : Cond.methodLink "Dataroom" 118 ⟨"Dataroom", "refusalOf", "(LDataroom$Party;II)I"⟩ ∈ WS := tb2 (i := 239) rfl rfl
theorem qw_481 : Cond.instanceMethod ⟨"Dataroom", "refusalOf", "(LDataroom$Party;II)I"⟩ ∈ WS := tb3 (i := 1) rfl rfl
theorem qw_482 : Cond.code ⟨"Dataroom", "refusalOf", "(LDataroom$Party;II)I"⟩ prog_1_method_27_code 4 (Option.some Jvm.ClassFile.FieldType.int) ∈ WS := tb3 (i := 2) rfl rfl
theorem qw_483 : Cond.methodLink "Dataroom" 194 ⟨"Dataroom", "lacksRight", "(LDataroom$Party;I)Z"⟩ ∈ WS := tb3 (i := 3) rfl rfl
theorem qw_485 : Cond.instanceMethod ⟨"Dataroom", "lacksRight", "(LDataroom$Party;I)Z"⟩ ∈ WS := tb3 (i := 5) rfl rfl
theorem qw_486 : Cond.code ⟨"Dataroom", "lacksRight", "(LDataroom$Party;I)Z"⟩ prog_1_method_28_code 4 (Option.some Jvm.ClassFile.FieldType.boolean) ∈ WS := tb3 (i := 6) rfl rfl
theorem qw_487 : Cond.methodLink "Dataroom" 172 ⟨"Dataroom$Party", "rightIn", "(II)I"⟩ ∈ WS := tb3 (i := 7) rfl rfl
theorem qw_488 : Cond.instanceMethod ⟨"Dataroom$Party", "rightIn", "(II)I"⟩ ∈ WS := tb3 (i := 8) rfl rfl
theorem qw_489 : Cond.selects "Dataroom$Party" ⟨"Dataroom$Party", "rightIn", "(II)I"⟩ ⟨"Dataroom$Party", "rightIn", "(II)I"⟩ ∈ WS := tb3 (i := 9) rfl rfl
theorem qw_490 : Cond.code ⟨"Dataroom$Party", "rightIn", "(II)I"⟩ prog_6_method_4_code 4 (Option.some Jvm.ClassFile.FieldType.int) ∈ WS := tb3 (i := 10) rfl rfl
theorem qw_491 : Cond.methodLink "Dataroom$Party" 35 ⟨"Dataroom$Party", "rightFor", "(I)LDataroom$Right;"⟩ ∈ WS := tb3 (i := 11) rfl rfl
theorem qw_492 : Cond.methodLink "Dataroom$Party" 39 ⟨"Dataroom$Right", "in", "(I)I"⟩ ∈ WS := tb3 (i := 12) rfl rfl
theorem qw_493 : Cond.instanceMethod ⟨"Dataroom$Right", "in", "(I)I"⟩ ∈ WS := tb3 (i := 13) rfl rfl
theorem qw_494 : Cond.selects "Dataroom$Right" ⟨"Dataroom$Right", "in", "(I)I"⟩ ⟨"Dataroom$Right", "in", "(I)I"⟩ ∈ WS := tb3 (i := 14) rfl rfl
theorem qw_495 : Cond.code ⟨"Dataroom$Right", "in", "(I)I"⟩ prog_7_method_2_code 2 (Option.some Jvm.ClassFile.FieldType.int) ∈ WS := tb3 (i := 15) rfl rfl
theorem qw_496 : Cond.methodLink "Dataroom" 198 ⟨"Dataroom", "hasSealed", "(I)Z"⟩ ∈ WS := tb3 (i := 16) rfl rfl
theorem qw_498 : Cond.instanceMethod ⟨"Dataroom", "hasSealed", "(I)Z"⟩ ∈ WS := tb3 (i := 18) rfl rfl
theorem qw_499 : Cond.code ⟨"Dataroom", "hasSealed", "(I)Z"⟩ prog_1_method_29_code 3 (Option.some Jvm.ClassFile.FieldType.boolean) ∈ WS := tb3 (i := 19) rfl rfl
theorem qw_500 : Cond.methodLink "Dataroom" 175 ⟨"Dataroom$Card", "isClosedIn", "(I)Z"⟩ ∈ WS := tb3 (i := 20) rfl rfl
theorem qw_501 : Cond.instanceMethod ⟨"Dataroom$Card", "isClosedIn", "(I)Z"⟩ ∈ WS := tb3 (i := 21) rfl rfl
theorem qw_502 : Cond.selects "Dataroom$Card" ⟨"Dataroom$Card", "isClosedIn", "(I)Z"⟩ ⟨"Dataroom$Card", "isClosedIn", "(I)Z"⟩ ∈ WS := tb3 (i := 22) rfl rfl
theorem qw_503 : Cond.code ⟨"Dataroom$Card", "isClosedIn", "(I)Z"⟩ prog_3_method_2_code 2 (Option.some Jvm.ClassFile.FieldType.boolean) ∈ WS := tb3 (i := 23) rfl rfl
theorem qw_504 : Cond.methodLink "Dataroom" 201 ⟨"Dataroom$Party", "wouldFindUnread", "(III)Z"⟩ ∈ WS := tb3 (i := 24) rfl rfl
theorem qw_505 : Cond.instanceMethod ⟨"Dataroom$Party", "wouldFindUnread", "(III)Z"⟩ ∈ WS := tb3 (i := 25) rfl rfl
theorem qw_506 : Cond.selects "Dataroom$Party" ⟨"Dataroom$Party", "wouldFindUnread", "(III)Z"⟩ ⟨"Dataroom$Party", "wouldFindUnread", "(III)Z"⟩ ∈ WS := tb3 (i := 26) rfl rfl
theorem qw_507 : Cond.code ⟨"Dataroom$Party", "wouldFindUnread", "(III)Z"⟩ prog_6_method_11_code 5 (Option.some Jvm.ClassFile.FieldType.boolean) ∈ WS := tb3 (i := 27) rfl rfl
theorem qw_508 : Cond.methodLink "Dataroom$Party" 61 ⟨"Dataroom$Party", "rightIn", "(II)I"⟩ ∈ WS := tb3 (i := 28) rfl rfl
theorem qw_509 : Cond.methodLink "Dataroom$Party" 65 ⟨"Dataroom$Party", "wouldFind", "(III)Z"⟩ ∈ WS := tb3 (i := 29) rfl rfl
theorem qw_511 : Cond.instanceMethod ⟨"Dataroom$Party", "wouldFind", "(III)Z"⟩ ∈ WS := tb3 (i := 31) rfl rfl
theorem qw_512 : Cond.code ⟨"Dataroom$Party", "wouldFind", "(III)Z"⟩ prog_6_method_12_code 5 (Option.some Jvm.ClassFile.FieldType.boolean) ∈ WS := tb3 (i := 32) rfl rfl
theorem qw_513 : Cond.methodLink "Dataroom$Party" 69 ⟨"Dataroom$Knowledge", "wouldReach", "(II)Z"⟩ ∈ WS := tb3 (i := 33) rfl rfl
theorem qw_514 : Cond.instanceMethod ⟨"Dataroom$Knowledge", "wouldReach", "(II)Z"⟩ ∈ WS := tb3 (i := 34) rfl rfl
theorem qw_515 : Cond.selects "Dataroom$Knowledge" ⟨"Dataroom$Knowledge", "wouldReach", "(II)Z"⟩ ⟨"Dataroom$Knowledge", "wouldReach", "(II)Z"⟩ ∈ WS := tb3 (i := 35) rfl rfl
theorem qw_516 : Cond.code ⟨"Dataroom$Knowledge", "wouldReach", "(II)Z"⟩ prog_4_method_6_code 3 (Option.some Jvm.ClassFile.FieldType.boolean) ∈ WS := tb3 (i := 36) rfl rfl
theorem qw_517 : Cond.methodLink "Dataroom$Knowledge" 27 ⟨"Dataroom$Knowledge", "knows", "(I)Z"⟩ ∈ WS := tb3 (i := 37) rfl rfl
theorem qw_518 : Cond.instanceMethod ⟨"Dataroom$Knowledge", "knows", "(I)Z"⟩ ∈ WS := tb3 (i := 38) rfl rfl
theorem qw_519 : Cond.selects "Dataroom$Knowledge" ⟨"Dataroom$Knowledge", "knows", "(I)Z"⟩ ⟨"Dataroom$Knowledge", "knows", "(I)Z"⟩ ∈ WS := tb3 (i := 39) rfl rfl
theorem qw_520 : Cond.code ⟨"Dataroom$Knowledge", "knows", "(I)Z"⟩ prog_4_method_5_code 4 (Option.some Jvm.ClassFile.FieldType.boolean) ∈ WS := tb3 (i := 40) rfl rfl
theorem qw_521 : Cond.methodLink "Dataroom" 152 ⟨"Dataroom$Party", "learnedInAll", "()I"⟩ ∈ WS := tb3 (i := 41) rfl rfl
theorem qw_522 : Cond.instanceMethod ⟨"Dataroom$Party", "learnedInAll", "()I"⟩ ∈ WS := tb3 (i := 42) rfl rfl
theorem qw_523 : Cond.selects "Dataroom$Party" ⟨"Dataroom$Party", "learnedInAll", "()I"⟩ ⟨"Dataroom$Party", "learnedInAll", "()I"⟩ ∈ WS := tb3 (i := 43) rfl rfl
theorem qw_524 : Cond.code ⟨"Dataroom$Party", "learnedInAll", "()I"⟩ prog_6_method_9_code 3 (Option.some Jvm.ClassFile.FieldType.int) ∈ WS := tb3 (i := 44) rfl rfl
theorem qw_525 : Cond.methodLink "Dataroom" 140 ⟨"Dataroom$Party", "costOf", "(II)I"⟩ ∈ WS := tb3 (i := 45) rfl rfl
theorem qw_526 : Cond.instanceMethod ⟨"Dataroom$Party", "costOf", "(II)I"⟩ ∈ WS := tb3 (i := 46) rfl rfl
theorem qw_527 : Cond.selects "Dataroom$Party" ⟨"Dataroom$Party", "costOf", "(II)I"⟩ ⟨"Dataroom$Party", "costOf", "(II)I"⟩ ∈ WS := tb3 (i := 47) rfl rfl
theorem qw_528 : Cond.code ⟨"Dataroom$Party", "costOf", "(II)I"⟩ prog_6_method_10_code 5 (Option.some Jvm.ClassFile.FieldType.int) ∈ WS := tb3 (i := 48) rfl rfl
theorem qw_529 : Cond.methodLink "Dataroom$Party" 57 ⟨"Dataroom$Knowledge", "knows", "(I)Z"⟩ ∈ WS := tb3 (i := 49) rfl rfl
theorem qw_530 : Cond.methodLink "Dataroom" 122 ⟨"Dataroom$Party", "countQuestion", "(I)V"⟩ ∈ WS := tb3 (i := 50) rfl rfl
theorem qw_531 : Cond.instanceMethod ⟨"Dataroom$Party", "countQuestion", "(I)V"⟩ ∈ WS := tb3 (i := 51) rfl rfl
theorem qw_532 : Cond.selects "Dataroom$Party" ⟨"Dataroom$Party", "countQuestion", "(I)V"⟩ ⟨"Dataroom$Party", "countQuestion", "(I)V"⟩ ∈ WS := tb3 (i := 52) rfl rfl
theorem qw_533 : Cond.code ⟨"Dataroom$Party", "countQuestion", "(I)V"⟩ prog_6_method_5_code 3 (Option.none : Option Jvm.ClassFile.FieldType) ∈ WS := tb3 (i := 53) rfl rfl
theorem qw_534 : Cond.methodLink "Dataroom" 125 ⟨"Dataroom", "sumOf", "(II)I"⟩ ∈ WS := tb3 (i := 54) rfl rfl
theorem qw_536 : Cond.instanceMethod ⟨"Dataroom", "sumOf", "(II)I"⟩ ∈ WS := tb3 (i := 56) rfl rfl
theorem qw_537 : Cond.code ⟨"Dataroom", "sumOf", "(II)I"⟩ prog_1_method_30_code 5 (Option.some Jvm.ClassFile.FieldType.int) ∈ WS := tb3 (i := 57) rfl rfl
theorem qw_538 : Cond.instantiable "Dataroom$Answer" 6 ∈ WS := tb3 (i := 58) rfl rfl
theorem qw_539 : Cond.methodLink "Dataroom" 134 ⟨"Dataroom$Answer", "<init>", "(IIIII)V"⟩ ∈ WS := tb3 (i := 59) rfl rfl
theorem qw_540 : Cond.instanceMethod ⟨"Dataroom$Answer", "<init>", "(IIIII)V"⟩ ∈ WS := tb3 (i := 60) rfl rfl
theorem qw_541 : Cond.code ⟨"Dataroom$Answer", "<init>", "(IIIII)V"⟩ prog_2_method_1_code 6 (Option.none : Option Jvm.ClassFile.FieldType) ∈ WS := tb3 (i := 61) rfl rfl
theorem qw_542 : Cond.methodLink "Dataroom$Answer" 1 ⟨"java/lang/Object", "<init>", "()V"⟩ ∈ WS := tb3 (i := 62) rfl rfl
theorem qw_543 : Cond.fieldLink "Dataroom$Answer" 7 "Dataroom$Answer" "party" "I" ∈ WS := tb3 (i := 63) rfl rfl
theorem qw_544 : Cond.fieldLink "Dataroom$Answer" 13 "Dataroom$Answer" "files" "I" ∈ WS := tb3 (i := 64) rfl rfl
theorem qw_546 : Cond.fieldLink "Dataroom$Answer" 16 "Dataroom$Answer" "bit" "I" ∈ WS := tb3 (i := 66) rfl rfl
theorem qw_548 : Cond.fieldLink "Dataroom$Answer" 19 "Dataroom$Answer" "given" "I" ∈ WS := tb3 (i := 68) rfl rfl
theorem qw_549 : Cond.fieldLink "Dataroom$Answer" 22 "Dataroom$Answer" "hour" "I" ∈ WS := tb3 (i := 69) rfl rfl
theorem qw_550 : Cond.fieldLink "Dataroom$Answer" 25 "Dataroom$Answer" "recalled" "Z" ∈ WS := tb3 (i := 70) rfl rfl
theorem qw_552 : Cond.laysFinal "Dataroom$Answer" "Dataroom$Answer" "party" "I" ∈ WS := tb3 (i := 72) rfl rfl
theorem qw_554 : Cond.laysFinal "Dataroom$Answer" "Dataroom$Answer" "files" "I" ∈ WS := tb3 (i := 74) rfl rfl
theorem qw_556 : Cond.laysFinal "Dataroom$Answer" "Dataroom$Answer" "bit" "I" ∈ WS := tb3 (i := 76) rfl rfl
theorem qw_558 : Cond.laysFinal "Dataroom$Answer" "Dataroom$Answer" "given" "I" ∈ WS := tb3 (i := 78) rfl rfl
theorem qw_560 : Cond.laysFinal "Dataroom$Answer" "Dataroom$Answer" "hour" "I" ∈ WS := tb3 (i := 80) rfl rfl
theorem qw_562 : Cond.lays "Dataroom$Answer" "Dataroom$Answer" "recalled" "Z" ∈ WS := tb3 (i := 82) rfl rfl
theorem qw_564 : Cond.superclass "Dataroom$Answer" "java/lang/Object" ∈ WS := tb3 (i := 84) rfl rfl
theorem qw_565 : Cond.methodLink "DataroomLaw" 117 ⟨"DataroomLaw", "cost", "(LDataroom;III[J)I"⟩ ∈ WS := tb3 (i := 85) rfl rfl
theorem qw_566 : Cond.static ⟨"DataroomLaw", "cost", "(LDataroom;III[J)I"⟩ ∈ WS := tb3 (i := 86) rfl rfl
theorem qw_567 : Cond.codeWith ⟨"DataroomLaw", "cost", "(LDataroom;III[J)I"⟩ method_12_code 6 (Option.some Jvm.ClassFile.FieldType.int) [(0, 12, 15, 21), (0, 12, 19, 13)] ∈ WS := tb3 (i := 87) rfl rfl
theorem qw_568 : Cond.methodLink "DataroomLaw" 47 ⟨"Dataroom", "cost", "(III)I"⟩ ∈ WS := tb3 (i := 88) rfl rfl
theorem qw_569 : Cond.instanceMethod ⟨"Dataroom", "cost", "(III)I"⟩ ∈ WS := tb3 (i := 89) rfl rfl
theorem qw_570 : Cond.selects "Dataroom" ⟨"Dataroom", "cost", "(III)I"⟩ ⟨"Dataroom", "cost", "(III)I"⟩ ∈ WS := tb3 (i := 90) rfl rfl
theorem qw_571 : Cond.code ⟨"Dataroom", "cost", "(III)I"⟩ prog_1_method_11_code 5 (Option.some Jvm.ClassFile.FieldType.int) ∈ WS := tb3 (i := 91) rfl rfl
theorem qw_572 : Cond.methodLink "DataroomLaw" 120 ⟨"DataroomLaw", "answer", "(LDataroom;II[J)I"⟩ ∈ WS := tb3 (i := 92) rfl rfl
theorem qw_573 : Cond.static ⟨"DataroomLaw", "answer", "(LDataroom;II[J)I"⟩ ∈ WS := tb3 (i := 93) rfl rfl
theorem qw_574 : Cond.codeWith ⟨"DataroomLaw", "answer", "(LDataroom;II[J)I"⟩ method_13_code 5 (Option.some Jvm.ClassFile.FieldType.int) [(0, 10, 13, 21), (0, 10, 17, 13)] ∈ WS := tb3 (i := 94) rfl rfl
theorem qw_575 : Cond.methodLink "DataroomLaw" 50 ⟨"Dataroom", "answer", "(II)I"⟩ ∈ WS := tb3 (i := 95) rfl rfl
theorem qw_576 : Cond.instanceMethod ⟨"Dataroom", "answer", "(II)I"⟩ ∈ WS := tb3 (i := 96) rfl rfl
theorem qw_577 : Cond.selects "Dataroom" ⟨"Dataroom", "answer", "(II)I"⟩ ⟨"Dataroom", "answer", "(II)I"⟩ ∈ WS := tb3 (i := 97) rfl rfl
theorem qw_578 : Cond.code ⟨"Dataroom", "answer", "(II)I"⟩ prog_1_method_12_code 3 (Option.some Jvm.ClassFile.FieldType.int) ∈ WS := tb3 (i := 98) rfl rfl
theorem qw_580 : Cond.methodLink "Dataroom" 148 ⟨"Dataroom$Answer", "tell", "(I)I"⟩ ∈ WS := tb3 (i := 100) rfl rfl
theorem qw_581 : Cond.instanceMethod ⟨"Dataroom$Answer", "tell", "(I)I"⟩ ∈ WS := tb3 (i := 101) rfl rfl
theorem qw_582 : Cond.selects "Dataroom$Answer" ⟨"Dataroom$Answer", "tell", "(I)I"⟩ ⟨"Dataroom$Answer", "tell", "(I)I"⟩ ∈ WS := tb3 (i := 102) rfl rfl
theorem qw_583 : Cond.code ⟨"Dataroom$Answer", "tell", "(I)I"⟩ prog_2_method_3_code 2 (Option.some Jvm.ClassFile.FieldType.int) ∈ WS := tb3 (i := 103) rfl rfl
theorem qw_584 : Cond.methodLink "DataroomLaw" 123 ⟨"DataroomLaw", "spent", "(LDataroom;I[J)I"⟩ ∈ WS := tb3 (i := 104) rfl rfl
theorem qw_585 : Cond.static ⟨"DataroomLaw", "spent", "(LDataroom;I[J)I"⟩ ∈ WS := tb3 (i := 105) rfl rfl
theorem qw_586 : Cond.codeWith ⟨"DataroomLaw", "spent", "(LDataroom;I[J)I"⟩ method_14_code 4 (Option.some Jvm.ClassFile.FieldType.int) [(0, 9, 12, 21)] ∈ WS := tb3 (i := 106) rfl rfl
theorem qw_587 : Cond.methodLink "DataroomLaw" 53 ⟨"Dataroom", "spent", "(I)I"⟩ ∈ WS := tb3 (i := 107) rfl rfl
theorem qw_588 : Cond.instanceMethod ⟨"Dataroom", "spent", "(I)I"⟩ ∈ WS := tb3 (i := 108) rfl rfl
theorem qw_589 : Cond.selects "Dataroom" ⟨"Dataroom", "spent", "(I)I"⟩ ⟨"Dataroom", "spent", "(I)I"⟩ ∈ WS := tb3 (i := 109) rfl rfl
theorem qw_590 : Cond.code ⟨"Dataroom", "spent", "(I)I"⟩ prog_1_method_13_code 2 (Option.some Jvm.ClassFile.FieldType.int) ∈ WS := tb3 (i := 110) rfl rfl
theorem qw_591 : Cond.methodLink "DataroomLaw" 126 ⟨"DataroomLaw", "spentAnew", "(LDataroom;I[J)I"⟩ ∈ WS := tb3 (i := 111) rfl rfl
theorem qw_592 : Cond.static ⟨"DataroomLaw", "spentAnew", "(LDataroom;I[J)I"⟩ ∈ WS := tb3 (i := 112) rfl rfl
theorem qw_593 : Cond.codeWith ⟨"DataroomLaw", "spentAnew", "(LDataroom;I[J)I"⟩ method_15_code 4 (Option.some Jvm.ClassFile.FieldType.int) [(0, 9, 12, 21)] ∈ WS := tb3 (i := 113) rfl rfl
theorem qw_594 : Cond.methodLink "DataroomLaw" 56 ⟨"Dataroom", "spentAnew", "(I)I"⟩ ∈ WS := tb3 (i := 114) rfl rfl
theorem qw_595 : Cond.instanceMethod ⟨"Dataroom", "spentAnew", "(I)I"⟩ ∈ WS := tb3 (i := 115) rfl rfl
theorem qw_596 : Cond.selects "Dataroom" ⟨"Dataroom", "spentAnew", "(I)I"⟩ ⟨"Dataroom", "spentAnew", "(I)I"⟩ ∈ WS := tb3 (i := 116) rfl rfl
theorem qw_597 : Cond.code ⟨"Dataroom", "spentAnew", "(I)I"⟩ prog_1_method_14_code 5 (Option.some Jvm.ClassFile.FieldType.int) ∈ WS := tb3 (i := 117) rfl rfl
theorem qw_598 : Cond.methodLink "Dataroom" 155 ⟨"Dataroom", "countKnownSets", "(LDataroom$Party;I)I"⟩ ∈ WS := tb3 (i := 118) rfl rfl
theorem qw_600 : Cond.instanceMethod ⟨"Dataroom", "countKnownSets", "(LDataroom$Party;I)I"⟩ ∈ WS := tb3 (i := 120) rfl rfl
theorem qw_601 : Cond.code ⟨"Dataroom", "countKnownSets", "(LDataroom$Party;I)I"⟩ prog_1_method_34_code 5 (Option.some Jvm.ClassFile.FieldType.int) ∈ WS := tb3 (i := 121) rfl rfl
theorem qw_602 : Cond.methodLink "Dataroom" 230 ⟨"Dataroom$Marks", "begin", "(I)V"⟩ ∈ WS := tb3 (i := 122) rfl rfl
theorem qw_603 : Cond.instanceMethod ⟨"Dataroom$Marks", "begin", "(I)V"⟩ ∈ WS := tb3 (i := 123) rfl rfl
theorem qw_604 : Cond.selects "Dataroom$Marks" ⟨"Dataroom$Marks", "begin", "(I)V"⟩ ⟨"Dataroom$Marks", "begin", "(I)V"⟩ ∈ WS := tb3 (i := 124) rfl rfl
theorem qw_605 : Cond.code ⟨"Dataroom$Marks", "begin", "(I)V"⟩ prog_5_method_2_code 3 (Option.none : Option Jvm.ClassFile.FieldType) ∈ WS := tb3 (i := 125) rfl rfl
theorem qw_606 : Cond.methodLink "Dataroom$Marks" 15 ⟨"java/lang/Math", "max", "(II)I"⟩ ∈ WS := tb3 (i := 126) rfl rfl
theorem qw_607 : Cond.methodLink "Dataroom$Marks" 21 ⟨"java/lang/Math", "min", "(II)I"⟩ ∈ WS := tb3 (i := 127) rfl rfl
theorem qw_608 : Cond.methodLink "Dataroom" 233 ⟨"Dataroom", "covers", "(II)Z"⟩ ∈ WS := tb3 (i := 128) rfl rfl
theorem qw_609 : Cond.methodLink "Dataroom" 236 ⟨"Dataroom$Marks", "add", "(I)V"⟩ ∈ WS := tb3 (i := 129) rfl rfl
theorem qw_610 : Cond.instanceMethod ⟨"Dataroom$Marks", "add", "(I)V"⟩ ∈ WS := tb3 (i := 130) rfl rfl
theorem qw_611 : Cond.selects "Dataroom$Marks" ⟨"Dataroom$Marks", "add", "(I)V"⟩ ⟨"Dataroom$Marks", "add", "(I)V"⟩ ∈ WS := tb3 (i := 131) rfl rfl
theorem qw_612 : Cond.code ⟨"Dataroom$Marks", "add", "(I)V"⟩ prog_5_method_3_code 4 (Option.none : Option Jvm.ClassFile.FieldType) ∈ WS := tb3 (i := 132) rfl rfl
theorem qw_613 : Cond.methodLink "Dataroom$Marks" 28 ⟨"Dataroom$Marks", "isMarked", "(I)Z"⟩ ∈ WS := tb3 (i := 133) rfl rfl
theorem qw_615 : Cond.instanceMethod ⟨"Dataroom$Marks", "isMarked", "(I)Z"⟩ ∈ WS := tb3 (i := 135) rfl rfl
theorem qw_616 : Cond.code ⟨"Dataroom$Marks", "isMarked", "(I)Z"⟩ prog_5_method_5_code 3 (Option.some Jvm.ClassFile.FieldType.boolean) ∈ WS := tb3 (i := 136) rfl rfl
theorem qw_617 : Cond.methodLink "Dataroom$Marks" 32 ⟨"Dataroom$Marks", "crossed", "(JI)J"⟩ ∈ WS := tb3 (i := 137) rfl rfl
theorem qw_618 : Cond.static ⟨"Dataroom$Marks", "crossed", "(JI)J"⟩ ∈ WS := tb3 (i := 138) rfl rfl
theorem qw_619 : Cond.code ⟨"Dataroom$Marks", "crossed", "(JI)J"⟩ prog_5_method_6_code 7 (Option.some Jvm.ClassFile.FieldType.long) ∈ WS := tb3 (i := 139) rfl rfl
theorem qw_620 : Cond.fieldLink "Dataroom$Marks" 42 "Dataroom$Marks" "LACKING" "[J" ∈ WS := tb3 (i := 140) rfl rfl
theorem qw_623 : Cond.methodLink "Dataroom" 238 ⟨"Dataroom$Marks", "sets", "()I"⟩ ∈ WS := tb3 (i := 143) rfl rfl
theorem qw_624 : Cond.instanceMethod ⟨"Dataroom$Marks", "sets", "()I"⟩ ∈ WS := tb3 (i := 144) rfl rfl
theorem qw_625 : Cond.selects "Dataroom$Marks" ⟨"Dataroom$Marks", "sets", "()I"⟩ ⟨"Dataroom$Marks", "sets", "()I"⟩ ∈ WS := tb3 (i := 145) rfl rfl
theorem qw_626 : Cond.code ⟨"Dataroom$Marks", "sets", "()I"⟩ prog_5_method_4_code 3 (Option.some Jvm.ClassFile.FieldType.int) ∈ WS := tb3 (i := 146) rfl rfl
theorem qw_627 : Cond.methodLink "Dataroom$Marks" 36 ⟨"java/lang/Long", "bitCount", "(J)I"⟩ ∈ WS := tb3 (i := 147) rfl rfl
theorem qw_628 : Cond.static ⟨"java/lang/Long", "bitCount", "(J)I"⟩ ∈ WS := tb3 (i := 148) rfl rfl
theorem qw_629 : Cond.code ⟨"java/lang/Long", "bitCount", "(J)I"⟩ prog_17_method_50_code 2 (Option.some Jvm.ClassFile.FieldType.int) ∈ WS := tb3 (i := 149) rfl rfl
theorem qw_630 : Cond.constantLong "java/lang/Long" 314 (6148914691236517205 : Int64) ∈ WS := tb3 (i := 150) rfl rfl
theorem qw_631 : Cond.constantLong "java/lang/Long" 316 (3689348814741910323 : Int64) ∈ WS := tb3 (i := 151) rfl rfl
theorem qw_632 : Cond.constantLong "java/lang/Long" 318 (1085102592571150095 : Int64) ∈ WS := tb3 (i := 152) rfl rfl
theorem qw_633 : Cond.methodLink "Dataroom" 158 ⟨"Dataroom", "generatorsOf", "(I)I"⟩ ∈ WS := tb3 (i := 153) rfl rfl
theorem qw_634 : Cond.static ⟨"Dataroom", "generatorsOf", "(I)I"⟩ ∈ WS := tb3 (i := 154) rfl rfl
theorem qw_635 : Cond.code ⟨"Dataroom", "generatorsOf", "(I)I"⟩ prog_1_method_35_code 3 (Option.some Jvm.ClassFile.FieldType.int) ∈ WS := tb3 (i := 155) rfl rfl
theorem qw_636 : Cond.methodLink "DataroomLaw" 129 ⟨"DataroomLaw", "finds", "(LDataroom;II[J)I"⟩ ∈ WS := tb3 (i := 156) rfl rfl
theorem qw_637 : Cond.static ⟨"DataroomLaw", "finds", "(LDataroom;II[J)I"⟩ ∈ WS := tb3 (i := 157) rfl rfl
theorem qw_638 : Cond.codeWith ⟨"DataroomLaw", "finds", "(LDataroom;II[J)I"⟩ method_16_code 5 (Option.some Jvm.ClassFile.FieldType.int) [(0, 10, 13, 21)] ∈ WS := tb3 (i := 158) rfl rfl
theorem qw_639 : Cond.methodLink "DataroomLaw" 59 ⟨"Dataroom", "finds", "(II)I"⟩ ∈ WS := tb3 (i := 159) rfl rfl
theorem qw_640 : Cond.instanceMethod ⟨"Dataroom", "finds", "(II)I"⟩ ∈ WS := tb3 (i := 160) rfl rfl
theorem qw_641 : Cond.selects "Dataroom" ⟨"Dataroom", "finds", "(II)I"⟩ ⟨"Dataroom", "finds", "(II)I"⟩ ∈ WS := tb3 (i := 161) rfl rfl
theorem qw_642 : Cond.code ⟨"Dataroom", "finds", "(II)I"⟩ prog_1_method_15_code 6 (Option.some Jvm.ClassFile.FieldType.int) ∈ WS := tb3 (i := 162) rfl rfl
theorem qw_643 : Cond.methodLink "Dataroom" 165 ⟨"Dataroom$Knowledge", "knows", "(I)Z"⟩ ∈ WS := tb3 (i := 163) rfl rfl
theorem qw_644 : Cond.methodLink "DataroomLaw" 132 ⟨"DataroomLaw", "together", "(LDataroom;II[J)I"⟩ ∈ WS := tb3 (i := 164) rfl rfl
theorem qw_645 : Cond.static ⟨"DataroomLaw", "together", "(LDataroom;II[J)I"⟩ ∈ WS := tb3 (i := 165) rfl rfl
theorem qw_646 : Cond.codeWith ⟨"DataroomLaw", "together", "(LDataroom;II[J)I"⟩ method_17_code 5 (Option.some Jvm.ClassFile.FieldType.int) [(0, 10, 13, 21), (0, 10, 17, 13)] ∈ WS := tb3 (i := 166) rfl rfl
theorem qw_647 : Cond.methodLink "DataroomLaw" 62 ⟨"Dataroom", "together", "(II)I"⟩ ∈ WS := tb3 (i := 167) rfl rfl
theorem qw_648 : Cond.instanceMethod ⟨"Dataroom", "together", "(II)I"⟩ ∈ WS := tb3 (i := 168) rfl rfl
theorem qw_649 : Cond.selects "Dataroom" ⟨"Dataroom", "together", "(II)I"⟩ ⟨"Dataroom", "together", "(II)I"⟩ ∈ WS := tb3 (i := 169) rfl rfl
theorem qw_650 : Cond.code ⟨"Dataroom", "together", "(II)I"⟩ prog_1_method_16_code 5 (Option.some Jvm.ClassFile.FieldType.int) ∈ WS := tb3 (i := 170) rfl rfl
theorem qw_651 : Cond.methodLink "Dataroom" 169 ⟨"Dataroom", "shareKnowledge", "(II)V"⟩ ∈ WS := tb3 (i := 171) rfl rfl
theorem qw_653 : Cond.instanceMethod ⟨"Dataroom", "shareKnowledge", "(II)V"⟩ ∈ WS := tb3 (i := 173) rfl rfl
theorem qw_654 : Cond.code ⟨"Dataroom", "shareKnowledge", "(II)V"⟩ prog_1_method_36_code 5 (Option.none : Option Jvm.ClassFile.FieldType) ∈ WS := tb3 (i := 174) rfl rfl
theorem qw_655 : Cond.methodLink "Dataroom" 241 ⟨"Dataroom$Knowledge", "forget", "()V"⟩ ∈ WS := tb3 (i := 175) rfl rfl
theorem qw_656 : Cond.methodLink "Dataroom" 242 ⟨"Dataroom$Knowledge", "learnFrom", "(LDataroom$Knowledge;)V"⟩ ∈ WS := tb3 (i := 176) rfl rfl
theorem qw_657 : Cond.instanceMethod ⟨"Dataroom$Knowledge", "learnFrom", "(LDataroom$Knowledge;)V"⟩ ∈ WS := tb3 (i := 177) rfl rfl
theorem qw_658 : Cond.selects "Dataroom$Knowledge" ⟨"Dataroom$Knowledge", "learnFrom", "(LDataroom$Knowledge;)V"⟩ ⟨"Dataroom$Knowledge", "learnFrom", "(LDataroom$Knowledge;)V"⟩ ∈ WS := tb3 (i := 178) rfl rfl
theorem qw_659 : Cond.code ⟨"Dataroom$Knowledge", "learnFrom", "(LDataroom$Knowledge;)V"⟩ prog_4_method_4_code 3 (Option.none : Option Jvm.ClassFile.FieldType) ∈ WS := tb3 (i := 179) rfl rfl
theorem qw_660 : Cond.methodLink "Dataroom$Knowledge" 23 ⟨"Dataroom$Knowledge", "learn", "(I)V"⟩ ∈ WS := tb3 (i := 180) rfl rfl
theorem qw_661 : Cond.methodLink "DataroomLaw" 135 ⟨"DataroomLaw", "rightTo", "(LDataroom;II[J)I"⟩ ∈ WS := tb3 (i := 181) rfl rfl
theorem qw_662 : Cond.static ⟨"DataroomLaw", "rightTo", "(LDataroom;II[J)I"⟩ ∈ WS := tb3 (i := 182) rfl rfl
theorem qw_663 : Cond.codeWith ⟨"DataroomLaw", "rightTo", "(LDataroom;II[J)I"⟩ method_18_code 5 (Option.some Jvm.ClassFile.FieldType.int) [(0, 10, 13, 21)] ∈ WS := tb3 (i := 183) rfl rfl
theorem qw_664 : Cond.methodLink "DataroomLaw" 65 ⟨"Dataroom", "rightTo", "(II)I"⟩ ∈ WS := tb3 (i := 184) rfl rfl
theorem qw_665 : Cond.instanceMethod ⟨"Dataroom", "rightTo", "(II)I"⟩ ∈ WS := tb3 (i := 185) rfl rfl
theorem qw_666 : Cond.selects "Dataroom" ⟨"Dataroom", "rightTo", "(II)I"⟩ ⟨"Dataroom", "rightTo", "(II)I"⟩ ∈ WS := tb3 (i := 186) rfl rfl
theorem qw_667 : Cond.code ⟨"Dataroom", "rightTo", "(II)I"⟩ prog_1_method_17_code 4 (Option.some Jvm.ClassFile.FieldType.int) ∈ WS := tb3 (i := 187) rfl rfl
theorem qw_668 : Cond.methodLink "DataroomLaw" 138 ⟨"DataroomLaw", "isSealed", "(LDataroom;I[J)I"⟩ ∈ WS := tb3 (i := 188) rfl rfl
theorem qw_669 : Cond.static ⟨"DataroomLaw", "isSealed", "(LDataroom;I[J)I"⟩ ∈ WS := tb3 (i := 189) rfl rfl
theorem qw_670 : Cond.codeWith ⟨"DataroomLaw", "isSealed", "(LDataroom;I[J)I"⟩ method_19_code 4 (Option.some Jvm.ClassFile.FieldType.int) [(0, 16, 19, 21)] ∈ WS := tb3 (i := 190) rfl rfl
theorem qw_671 : Cond.methodLink "DataroomLaw" 68 ⟨"Dataroom", "isSealed", "(I)Z"⟩ ∈ WS := tb3 (i := 191) rfl rfl
theorem qw_672 : Cond.instanceMethod ⟨"Dataroom", "isSealed", "(I)Z"⟩ ∈ WS := tb3 (i := 192) rfl rfl
theorem qw_673 : Cond.selects "Dataroom" ⟨"Dataroom", "isSealed", "(I)Z"⟩ ⟨"Dataroom", "isSealed", "(I)Z"⟩ ∈ WS := tb3 (i := 193) rfl rfl
theorem qw_674 : Cond.code ⟨"Dataroom", "isSealed", "(I)Z"⟩ prog_1_method_18_code 2 (Option.some Jvm.ClassFile.FieldType.boolean) ∈ WS := tb3 (i := 194) rfl rfl
theorem qw_675 : Cond.methodLink "DataroomLaw" 141 ⟨"DataroomLaw", "count", "(LDataroom;II[J)I"⟩ ∈ WS := tb3 (i := 195) rfl rfl
theorem qw_676 : Cond.static ⟨"DataroomLaw", "count", "(LDataroom;II[J)I"⟩ ∈ WS := tb3 (i := 196) rfl rfl
theorem qw_677 : Cond.codeWith ⟨"DataroomLaw", "count", "(LDataroom;II[J)I"⟩ method_20_code 5 (Option.some Jvm.ClassFile.FieldType.int) [(0, 10, 13, 21), (0, 10, 17, 13)] ∈ WS := tb3 (i := 197) rfl rfl
theorem qw_678 : Cond.methodLink "DataroomLaw" 72 ⟨"Dataroom", "count", "(II)I"⟩ ∈ WS := tb3 (i := 198) rfl rfl
theorem qw_679 : Cond.instanceMethod ⟨"Dataroom", "count", "(II)I"⟩ ∈ WS := tb3 (i := 199) rfl rfl
theorem qw_680 : Cond.selects "Dataroom" ⟨"Dataroom", "count", "(II)I"⟩ ⟨"Dataroom", "count", "(II)I"⟩ ∈ WS := tb3 (i := 200) rfl rfl
theorem qw_681 : Cond.code ⟨"Dataroom", "count", "(II)I"⟩ prog_1_method_19_code 4 (Option.some Jvm.ClassFile.FieldType.int) ∈ WS := tb3 (i := 201) rfl rfl
theorem qw_682 : Cond.methodLink "Dataroom" 178 ⟨"Dataroom", "countStanding", "(LDataroom$Party;)I"⟩ ∈ WS := tb3 (i := 202) rfl rfl
theorem qw_684 : Cond.instanceMethod ⟨"Dataroom", "countStanding", "(LDataroom$Party;)I"⟩ ∈ WS := tb3 (i := 204) rfl rfl
theorem qw_685 : Cond.code ⟨"Dataroom", "countStanding", "(LDataroom$Party;)I"⟩ prog_1_method_33_code 4 (Option.some Jvm.ClassFile.FieldType.int) ∈ WS := tb3 (i := 205) rfl rfl
theorem qw_686 : Cond.methodLink "Dataroom" 182 ⟨"Dataroom$Party", "questions", "(I)I"⟩ ∈ WS := tb3 (i := 206) rfl rfl
theorem qw_687 : Cond.instanceMethod ⟨"Dataroom$Party", "questions", "(I)I"⟩ ∈ WS := tb3 (i := 207) rfl rfl
theorem qw_688 : Cond.selects "Dataroom$Party" ⟨"Dataroom$Party", "questions", "(I)I"⟩ ⟨"Dataroom$Party", "questions", "(I)I"⟩ ∈ WS := tb3 (i := 208) rfl rfl
theorem qw_689 : Cond.code ⟨"Dataroom$Party", "questions", "(I)I"⟩ prog_6_method_6_code 2 (Option.some Jvm.ClassFile.FieldType.int) ∈ WS := tb3 (i := 209) rfl rfl
theorem qw_690 : Cond.classLink "DataroomLaw" 76 "DataroomModel" ∈ WS := tb3 (i := 210) rfl rfl
theorem qw_691 : Cond.instantiable "DataroomModel" 19 ∈ WS := tb3 (i := 211) rfl rfl
theorem qw_692 : Cond.methodLink "DataroomLaw" 78 ⟨"DataroomModel", "<init>", "()V"⟩ ∈ WS := tb3 (i := 212) rfl rfl
theorem qw_693 : Cond.instanceMethod ⟨"DataroomModel", "<init>", "()V"⟩ ∈ WS := tb3 (i := 213) rfl rfl
theorem qw_694 : Cond.code ⟨"DataroomModel", "<init>", "()V"⟩ prog_9_method_1_code 1 (Option.none : Option Jvm.ClassFile.FieldType) ∈ WS := tb3 (i := 214) rfl rfl
theorem qw_695 : Cond.methodLink "DataroomModel" 1 ⟨"java/lang/Object", "<init>", "()V"⟩ ∈ WS := tb3 (i := 215) rfl rfl
theorem qw_696 : Cond.fieldLink "DataroomModel" 53 "DataroomModel" "thrown" "I" ∈ WS := tb3 (i := 216) rfl rfl
theorem qw_697 : Cond.fieldLink "DataroomModel" 84 "DataroomModel" "now" "I" ∈ WS := tb3 (i := 217) rfl rfl
theorem qw_698 : Cond.fieldLink "DataroomModel" 57 "DataroomModel" "files" "I" ∈ WS := tb3 (i := 218) rfl rfl
theorem qw_699 : Cond.fieldLink "DataroomModel" 7 "DataroomModel" "number" "[I" ∈ WS := tb3 (i := 219) rfl rfl
theorem qw_700 : Cond.fieldLink "DataroomModel" 13 "DataroomModel" "sealedTill" "[I" ∈ WS := tb3 (i := 220) rfl rfl
theorem qw_701 : Cond.fieldLink "DataroomModel" 64 "DataroomModel" "parties" "I" ∈ WS := tb3 (i := 221) rfl rfl
theorem qw_702 : Cond.fieldLink "DataroomModel" 16 "DataroomModel" "budget" "[I" ∈ WS := tb3 (i := 222) rfl rfl
theorem qw_703 : Cond.fieldLink "DataroomModel" 19 "DataroomModel" "right" "[I" ∈ WS := tb3 (i := 223) rfl rfl
theorem qw_704 : Cond.fieldLink "DataroomModel" 22 "DataroomModel" "from" "[I" ∈ WS := tb3 (i := 224) rfl rfl
theorem qw_705 : Cond.fieldLink "DataroomModel" 25 "DataroomModel" "to" "[I" ∈ WS := tb3 (i := 225) rfl rfl
theorem qw_706 : Cond.fieldLink "DataroomModel" 71 "DataroomModel" "answers" "I" ∈ WS := tb3 (i := 226) rfl rfl
theorem qw_707 : Cond.fieldLink "DataroomModel" 28 "DataroomModel" "who" "[I" ∈ WS := tb3 (i := 227) rfl rfl
theorem qw_708 : Cond.fieldLink "DataroomModel" 31 "DataroomModel" "set" "[I" ∈ WS := tb3 (i := 228) rfl rfl
theorem qw_709 : Cond.fieldLink "DataroomModel" 34 "DataroomModel" "bitOf" "[I" ∈ WS := tb3 (i := 229) rfl rfl
theorem qw_710 : Cond.fieldLink "DataroomModel" 37 "DataroomModel" "told" "[I" ∈ WS := tb3 (i := 230) rfl rfl
theorem qw_711 : Cond.fieldLink "DataroomModel" 40 "DataroomModel" "hour" "[I" ∈ WS := tb3 (i := 231) rfl rfl
theorem qw_712 : Cond.fieldLink "DataroomModel" 43 "DataroomModel" "isRecalled" "[Z" ∈ WS := tb3 (i := 232) rfl rfl
theorem qw_713 : Cond.fieldLink "DataroomModel" 47 "DataroomModel" "counts" "[I" ∈ WS := tb3 (i := 233) rfl rfl
theorem qw_714 : Cond.fieldLink "DataroomModel" 50 "DataroomModel" "rows" "[I" ∈ WS := tb3 (i := 234) rfl rfl
theorem qw_715 : Cond.lays "DataroomModel" "DataroomModel" "thrown" "I" ∈ WS := tb3 (i := 235) rfl rfl
theorem qw_717 : Cond.lays "DataroomModel" "DataroomModel" "now" "I" ∈ WS := tb3 (i := 237) rfl rfl
theorem qw_719 : Cond.lays "DataroomModel" "DataroomModel" "files" "I" ∈ WS := tb3 (i := 239) rfl rfl
theorem qw_721 : Cond.laysFinal "DataroomModel" "DataroomModel" "number" "[I" ∈ WS := tb4 (i := 1) rfl rfl
theorem qw_723 : Cond.laysFinal "DataroomModel" "DataroomModel" "sealedTill" "[I" ∈ WS := tb4 (i := 3) rfl rfl
theorem qw_725 : Cond.lays "DataroomModel" "DataroomModel" "parties" "I" ∈ WS := tb4 (i := 5) rfl rfl
theorem qw_727 : Cond.laysFinal "DataroomModel" "DataroomModel" "budget" "[I" ∈ WS := tb4 (i := 7) rfl rfl
theorem qw_729 : Cond.laysFinal "DataroomModel" "DataroomModel" "right" "[I" ∈ WS := tb4 (i := 9) rfl rfl
theorem qw_731 : Cond.laysFinal "DataroomModel" "DataroomModel" "from" "[I" ∈ WS := tb4 (i := 11) rfl rfl
theorem qw_733 : Cond.laysFinal "DataroomModel" "DataroomModel" "to" "[I" ∈ WS := tb4 (i := 13) rfl rfl
theorem qw_735 : Cond.lays "DataroomModel" "DataroomModel" "answers" "I" ∈ WS := tb4 (i := 15) rfl rfl
theorem qw_737 : Cond.laysFinal "DataroomModel" "DataroomModel" "who" "[I" ∈ WS := tb4 (i := 17) rfl rfl
theorem qw_739 : Cond.laysFinal "DataroomModel" "DataroomModel" "set" "[I" ∈ WS := tb4 (i := 19) rfl rfl
theorem qw_741 : Cond.laysFinal "DataroomModel" "DataroomModel" "bitOf" "[I" ∈ WS := tb4 (i := 21) rfl rfl
theorem qw_743 : Cond.laysFinal "DataroomModel" "DataroomModel" "told" "[I" ∈ WS := tb4 (i := 23) rfl rfl
theorem qw_745 : Cond.laysFinal "DataroomModel" "DataroomModel" "hour" "[I" ∈ WS := tb4 (i := 25) rfl rfl
theorem qw_747 : Cond.laysFinal "DataroomModel" "DataroomModel" "isRecalled" "[Z" ∈ WS := tb4 (i := 27) rfl rfl
theorem qw_749 : Cond.laysFinal "DataroomModel" "DataroomModel" "counts" "[I" ∈ WS := tb4 (i := 29) rfl rfl
theorem qw_751 : Cond.laysFinal "DataroomModel" "DataroomModel" "rows" "[I" ∈ WS := tb4 (i := 31) rfl rfl
theorem qw_753 : Cond.superclass "DataroomModel" "java/lang/Object" ∈ WS := tb4 (i := 33) rfl rfl
theorem qw_754 : Cond.arrayClass Jvm.ClassFile.FieldType.boolean ∈ WS := tb4 (i := 34) rfl rfl
theorem qw_755 : Cond.methodLink "DataroomLaw" 85 ⟨"DataroomModel", "thrown", "()I"⟩ ∈ WS := tb4 (i := 35) rfl rfl
theorem qw_756 : Cond.instanceMethod ⟨"DataroomModel", "thrown", "()I"⟩ ∈ WS := tb4 (i := 36) rfl rfl
theorem qw_757 : Cond.selects "DataroomModel" ⟨"DataroomModel", "thrown", "()I"⟩ ⟨"DataroomModel", "thrown", "()I"⟩ ∈ WS := tb4 (i := 37) rfl rfl
theorem qw_758 : Cond.code ⟨"DataroomModel", "thrown", "()I"⟩ prog_9_method_2_code 1 (Option.some Jvm.ClassFile.FieldType.int) ∈ WS := tb4 (i := 38) rfl rfl
theorem qw_759 : Cond.methodLink "DataroomLaw" 84 ⟨"DataroomModel", "file", "(I)I"⟩ ∈ WS := tb4 (i := 39) rfl rfl
theorem qw_760 : Cond.instanceMethod ⟨"DataroomModel", "file", "(I)I"⟩ ∈ WS := tb4 (i := 40) rfl rfl
theorem qw_761 : Cond.selects "DataroomModel" ⟨"DataroomModel", "file", "(I)I"⟩ ⟨"DataroomModel", "file", "(I)I"⟩ ∈ WS := tb4 (i := 41) rfl rfl
theorem qw_762 : Cond.code ⟨"DataroomModel", "file", "(I)I"⟩ prog_9_method_7_code 3 (Option.some Jvm.ClassFile.FieldType.int) ∈ WS := tb4 (i := 42) rfl rfl
theorem qw_763 : Cond.methodLink "DataroomModel" 60 ⟨"DataroomModel", "in", "(III)Z"⟩ ∈ WS := tb4 (i := 43) rfl rfl
theorem qw_764 : Cond.static ⟨"DataroomModel", "in", "(III)Z"⟩ ∈ WS := tb4 (i := 44) rfl rfl
theorem qw_765 : Cond.code ⟨"DataroomModel", "in", "(III)Z"⟩ prog_9_method_4_code 3 (Option.some Jvm.ClassFile.FieldType.boolean) ∈ WS := tb4 (i := 45) rfl rfl
theorem qw_766 : Cond.methodLink "DataroomModel" 67 ⟨"DataroomModel", "goesWell", "(I)Z"⟩ ∈ WS := tb4 (i := 46) rfl rfl
theorem qw_768 : Cond.instanceMethod ⟨"DataroomModel", "goesWell", "(I)Z"⟩ ∈ WS := tb4 (i := 48) rfl rfl
theorem qw_769 : Cond.code ⟨"DataroomModel", "goesWell", "(I)Z"⟩ prog_9_method_3_code 2 (Option.some Jvm.ClassFile.FieldType.boolean) ∈ WS := tb4 (i := 49) rfl rfl
theorem qw_770 : Cond.methodLink "DataroomLaw" 92 ⟨"DataroomModel", "change", "(II)I"⟩ ∈ WS := tb4 (i := 50) rfl rfl
theorem qw_771 : Cond.instanceMethod ⟨"DataroomModel", "change", "(II)I"⟩ ∈ WS := tb4 (i := 51) rfl rfl
theorem qw_772 : Cond.selects "DataroomModel" ⟨"DataroomModel", "change", "(II)I"⟩ ⟨"DataroomModel", "change", "(II)I"⟩ ∈ WS := tb4 (i := 52) rfl rfl
theorem qw_773 : Cond.code ⟨"DataroomModel", "change", "(II)I"⟩ prog_9_method_9_code 4 (Option.some Jvm.ClassFile.FieldType.int) ∈ WS := tb4 (i := 53) rfl rfl
theorem qw_774 : Cond.methodLink "DataroomModel" 74 ⟨"DataroomModel", "isFile", "(I)Z"⟩ ∈ WS := tb4 (i := 54) rfl rfl
theorem qw_776 : Cond.instanceMethod ⟨"DataroomModel", "isFile", "(I)Z"⟩ ∈ WS := tb4 (i := 56) rfl rfl
theorem qw_777 : Cond.code ⟨"DataroomModel", "isFile", "(I)Z"⟩ prog_9_method_5_code 2 (Option.some Jvm.ClassFile.FieldType.boolean) ∈ WS := tb4 (i := 57) rfl rfl
theorem qw_778 : Cond.methodLink "DataroomModel" 77 ⟨"DataroomModel", "recall", "(II)I"⟩ ∈ WS := tb4 (i := 58) rfl rfl
theorem qw_780 : Cond.instanceMethod ⟨"DataroomModel", "recall", "(II)I"⟩ ∈ WS := tb4 (i := 60) rfl rfl
theorem qw_781 : Cond.code ⟨"DataroomModel", "recall", "(II)I"⟩ prog_9_method_8_code 6 (Option.some Jvm.ClassFile.FieldType.int) ∈ WS := tb4 (i := 61) rfl rfl
theorem qw_782 : Cond.methodLink "DataroomLaw" 95 ⟨"DataroomModel", "party", "(I)I"⟩ ∈ WS := tb4 (i := 62) rfl rfl
theorem qw_783 : Cond.instanceMethod ⟨"DataroomModel", "party", "(I)I"⟩ ∈ WS := tb4 (i := 63) rfl rfl
theorem qw_784 : Cond.selects "DataroomModel" ⟨"DataroomModel", "party", "(I)I"⟩ ⟨"DataroomModel", "party", "(I)I"⟩ ∈ WS := tb4 (i := 64) rfl rfl
theorem qw_785 : Cond.code ⟨"DataroomModel", "party", "(I)I"⟩ prog_9_method_10_code 3 (Option.some Jvm.ClassFile.FieldType.int) ∈ WS := tb4 (i := 65) rfl rfl
theorem qw_786 : Cond.methodLink "DataroomLaw" 98 ⟨"DataroomModel", "budget", "(II)I"⟩ ∈ WS := tb4 (i := 66) rfl rfl
theorem qw_787 : Cond.instanceMethod ⟨"DataroomModel", "budget", "(II)I"⟩ ∈ WS := tb4 (i := 67) rfl rfl
theorem qw_788 : Cond.selects "DataroomModel" ⟨"DataroomModel", "budget", "(II)I"⟩ ⟨"DataroomModel", "budget", "(II)I"⟩ ∈ WS := tb4 (i := 68) rfl rfl
theorem qw_789 : Cond.code ⟨"DataroomModel", "budget", "(II)I"⟩ prog_9_method_11_code 5 (Option.some Jvm.ClassFile.FieldType.int) ∈ WS := tb4 (i := 69) rfl rfl
theorem qw_790 : Cond.methodLink "DataroomModel" 81 ⟨"DataroomModel", "isParty", "(I)Z"⟩ ∈ WS := tb4 (i := 70) rfl rfl
theorem qw_792 : Cond.instanceMethod ⟨"DataroomModel", "isParty", "(I)Z"⟩ ∈ WS := tb4 (i := 72) rfl rfl
theorem qw_793 : Cond.code ⟨"DataroomModel", "isParty", "(I)Z"⟩ prog_9_method_6_code 2 (Option.some Jvm.ClassFile.FieldType.boolean) ∈ WS := tb4 (i := 73) rfl rfl
theorem qw_794 : Cond.methodLink "DataroomLaw" 102 ⟨"DataroomModel", "right", "(IIIII)V"⟩ ∈ WS := tb4 (i := 74) rfl rfl
theorem qw_795 : Cond.instanceMethod ⟨"DataroomModel", "right", "(IIIII)V"⟩ ∈ WS := tb4 (i := 75) rfl rfl
theorem qw_796 : Cond.selects "DataroomModel" ⟨"DataroomModel", "right", "(IIIII)V"⟩ ⟨"DataroomModel", "right", "(IIIII)V"⟩ ∈ WS := tb4 (i := 76) rfl rfl
theorem qw_797 : Cond.code ⟨"DataroomModel", "right", "(IIIII)V"⟩ prog_9_method_12_code 8 (Option.none : Option Jvm.ClassFile.FieldType) ∈ WS := tb4 (i := 77) rfl rfl
theorem qw_798 : Cond.methodLink "DataroomLaw" 105 ⟨"DataroomModel", "takeBack", "(II)I"⟩ ∈ WS := tb4 (i := 78) rfl rfl
theorem qw_799 : Cond.instanceMethod ⟨"DataroomModel", "takeBack", "(II)I"⟩ ∈ WS := tb4 (i := 79) rfl rfl
theorem qw_800 : Cond.selects "DataroomModel" ⟨"DataroomModel", "takeBack", "(II)I"⟩ ⟨"DataroomModel", "takeBack", "(II)I"⟩ ∈ WS := tb4 (i := 80) rfl rfl
theorem qw_801 : Cond.code ⟨"DataroomModel", "takeBack", "(II)I"⟩ prog_9_method_13_code 4 (Option.some Jvm.ClassFile.FieldType.int) ∈ WS := tb4 (i := 81) rfl rfl
theorem qw_802 : Cond.methodLink "DataroomLaw" 109 ⟨"DataroomModel", "seal", "(II)V"⟩ ∈ WS := tb4 (i := 82) rfl rfl
theorem qw_803 : Cond.instanceMethod ⟨"DataroomModel", "seal", "(II)V"⟩ ∈ WS := tb4 (i := 83) rfl rfl
theorem qw_804 : Cond.selects "DataroomModel" ⟨"DataroomModel", "seal", "(II)V"⟩ ⟨"DataroomModel", "seal", "(II)V"⟩ ∈ WS := tb4 (i := 84) rfl rfl
theorem qw_805 : Cond.code ⟨"DataroomModel", "seal", "(II)V"⟩ prog_9_method_14_code 4 (Option.none : Option Jvm.ClassFile.FieldType) ∈ WS := tb4 (i := 85) rfl rfl
theorem qw_806 : Cond.methodLink "DataroomLaw" 112 ⟨"DataroomModel", "pass", "(I)I"⟩ ∈ WS := tb4 (i := 86) rfl rfl
theorem qw_807 : Cond.instanceMethod ⟨"DataroomModel", "pass", "(I)I"⟩ ∈ WS := tb4 (i := 87) rfl rfl
theorem qw_808 : Cond.selects "DataroomModel" ⟨"DataroomModel", "pass", "(I)I"⟩ ⟨"DataroomModel", "pass", "(I)I"⟩ ∈ WS := tb4 (i := 88) rfl rfl
theorem qw_809 : Cond.code ⟨"DataroomModel", "pass", "(I)I"⟩ prog_9_method_15_code 3 (Option.some Jvm.ClassFile.FieldType.int) ∈ WS := tb4 (i := 89) rfl rfl
theorem qw_810 : Cond.methodLink "DataroomLaw" 116 ⟨"DataroomModel", "ask", "(III)I"⟩ ∈ WS := tb4 (i := 90) rfl rfl
theorem qw_811 : Cond.instanceMethod ⟨"DataroomModel", "ask", "(III)I"⟩ ∈ WS := tb4 (i := 91) rfl rfl
theorem qw_812 : Cond.selects "DataroomModel" ⟨"DataroomModel", "ask", "(III)I"⟩ ⟨"DataroomModel", "ask", "(III)I"⟩ ∈ WS := tb4 (i := 92) rfl rfl
theorem qw_813 : Cond.code ⟨"DataroomModel", "ask", "(III)I"⟩ prog_9_method_28_code 8 (Option.some Jvm.ClassFile.FieldType.int) ∈ WS := tb4 (i := 93) rfl rfl
theorem qw_814 : Cond.methodLink "DataroomModel" 121 ⟨"DataroomModel", "isQuestion", "(II)Z"⟩ ∈ WS := tb4 (i := 94) rfl rfl
theorem qw_816 : Cond.instanceMethod ⟨"DataroomModel", "isQuestion", "(II)Z"⟩ ∈ WS := tb4 (i := 96) rfl rfl
theorem qw_817 : Cond.code ⟨"DataroomModel", "isQuestion", "(II)Z"⟩ prog_9_method_27_code 3 (Option.some Jvm.ClassFile.FieldType.boolean) ∈ WS := tb4 (i := 97) rfl rfl
theorem qw_818 : Cond.methodLink "DataroomModel" 124 ⟨"DataroomModel", "refusal", "(III)I"⟩ ∈ WS := tb4 (i := 98) rfl rfl
theorem qw_820 : Cond.instanceMethod ⟨"DataroomModel", "refusal", "(III)I"⟩ ∈ WS := tb4 (i := 100) rfl rfl
theorem qw_821 : Cond.code ⟨"DataroomModel", "refusal", "(III)I"⟩ prog_9_method_26_code 7 (Option.some Jvm.ClassFile.FieldType.int) ∈ WS := tb4 (i := 101) rfl rfl
theorem qw_822 : Cond.methodLink "DataroomModel" 108 ⟨"DataroomModel", "rightOf", "(II)I"⟩ ∈ WS := tb4 (i := 102) rfl rfl
theorem qw_824 : Cond.instanceMethod ⟨"DataroomModel", "rightOf", "(II)I"⟩ ∈ WS := tb4 (i := 104) rfl rfl
theorem qw_825 : Cond.code ⟨"DataroomModel", "rightOf", "(II)I"⟩ prog_9_method_16_code 4 (Option.some Jvm.ClassFile.FieldType.int) ∈ WS := tb4 (i := 105) rfl rfl
theorem qw_826 : Cond.methodLink "DataroomModel" 111 ⟨"DataroomModel", "wouldTell", "(III)Z"⟩ ∈ WS := tb4 (i := 106) rfl rfl
theorem qw_828 : Cond.instanceMethod ⟨"DataroomModel", "wouldTell", "(III)Z"⟩ ∈ WS := tb4 (i := 108) rfl rfl
theorem qw_829 : Cond.code ⟨"DataroomModel", "wouldTell", "(III)Z"⟩ prog_9_method_25_code 9 (Option.some Jvm.ClassFile.FieldType.boolean) ∈ WS := tb4 (i := 109) rfl rfl
theorem qw_830 : Cond.methodLink "DataroomModel" 100 ⟨"DataroomModel", "isAsked", "(II)Z"⟩ ∈ WS := tb4 (i := 110) rfl rfl
theorem qw_831 : Cond.static ⟨"DataroomModel", "isAsked", "(II)Z"⟩ ∈ WS := tb4 (i := 111) rfl rfl
theorem qw_832 : Cond.code ⟨"DataroomModel", "isAsked", "(II)Z"⟩ prog_9_method_23_code 2 (Option.some Jvm.ClassFile.FieldType.boolean) ∈ WS := tb4 (i := 112) rfl rfl
theorem qw_833 : Cond.methodLink "DataroomModel" 97 ⟨"DataroomModel", "know", "(II)I"⟩ ∈ WS := tb4 (i := 113) rfl rfl
theorem qw_835 : Cond.instanceMethod ⟨"DataroomModel", "know", "(II)I"⟩ ∈ WS := tb4 (i := 115) rfl rfl
theorem qw_836 : Cond.code ⟨"DataroomModel", "know", "(II)I"⟩ prog_9_method_20_code 6 (Option.some Jvm.ClassFile.FieldType.int) ∈ WS := tb4 (i := 116) rfl rfl
theorem qw_837 : Cond.methodLink "DataroomModel" 94 ⟨"DataroomModel", "learn", "(I)Z"⟩ ∈ WS := tb4 (i := 117) rfl rfl
theorem qw_839 : Cond.instanceMethod ⟨"DataroomModel", "learn", "(I)Z"⟩ ∈ WS := tb4 (i := 119) rfl rfl
theorem qw_840 : Cond.code ⟨"DataroomModel", "learn", "(I)Z"⟩ prog_9_method_19_code 3 (Option.some Jvm.ClassFile.FieldType.boolean) ∈ WS := tb4 (i := 120) rfl rfl
theorem qw_841 : Cond.methodLink "DataroomModel" 87 ⟨"DataroomModel", "reduce", "(I)I"⟩ ∈ WS := tb4 (i := 121) rfl rfl
theorem qw_843 : Cond.instanceMethod ⟨"DataroomModel", "reduce", "(I)I"⟩ ∈ WS := tb4 (i := 123) rfl rfl
theorem qw_844 : Cond.code ⟨"DataroomModel", "reduce", "(I)I"⟩ prog_9_method_17_code 4 (Option.some Jvm.ClassFile.FieldType.int) ∈ WS := tb4 (i := 124) rfl rfl
theorem qw_845 : Cond.methodLink "DataroomModel" 91 ⟨"DataroomModel", "highest", "(I)I"⟩ ∈ WS := tb4 (i := 125) rfl rfl
theorem qw_846 : Cond.static ⟨"DataroomModel", "highest", "(I)I"⟩ ∈ WS := tb4 (i := 126) rfl rfl
theorem qw_847 : Cond.code ⟨"DataroomModel", "highest", "(I)I"⟩ prog_9_method_18_code 3 (Option.some Jvm.ClassFile.FieldType.int) ∈ WS := tb4 (i := 127) rfl rfl
theorem qw_848 : Cond.methodLink "DataroomModel" 104 ⟨"DataroomModel", "found", "()I"⟩ ∈ WS := tb4 (i := 128) rfl rfl
theorem qw_850 : Cond.instanceMethod ⟨"DataroomModel", "found", "()I"⟩ ∈ WS := tb4 (i := 130) rfl rfl
theorem qw_851 : Cond.code ⟨"DataroomModel", "found", "()I"⟩ prog_9_method_22_code 3 (Option.some Jvm.ClassFile.FieldType.int) ∈ WS := tb4 (i := 131) rfl rfl
theorem qw_852 : Cond.methodLink "DataroomModel" 114 ⟨"DataroomModel", "spentBy", "(I)I"⟩ ∈ WS := tb4 (i := 132) rfl rfl
theorem qw_854 : Cond.instanceMethod ⟨"DataroomModel", "spentBy", "(I)I"⟩ ∈ WS := tb4 (i := 134) rfl rfl
theorem qw_855 : Cond.code ⟨"DataroomModel", "spentBy", "(I)I"⟩ prog_9_method_21_code 4 (Option.some Jvm.ClassFile.FieldType.int) ∈ WS := tb4 (i := 135) rfl rfl
theorem qw_856 : Cond.methodLink "DataroomModel" 117 ⟨"DataroomModel", "costOf", "(III)I"⟩ ∈ WS := tb4 (i := 136) rfl rfl
theorem qw_858 : Cond.instanceMethod ⟨"DataroomModel", "costOf", "(III)I"⟩ ∈ WS := tb4 (i := 138) rfl rfl
theorem qw_859 : Cond.code ⟨"DataroomModel", "costOf", "(III)I"⟩ prog_9_method_24_code 6 (Option.some Jvm.ClassFile.FieldType.int) ∈ WS := tb4 (i := 139) rfl rfl
theorem qw_860 : Cond.methodLink "DataroomLaw" 119 ⟨"DataroomModel", "cost", "(III)I"⟩ ∈ WS := tb4 (i := 140) rfl rfl
theorem qw_861 : Cond.instanceMethod ⟨"DataroomModel", "cost", "(III)I"⟩ ∈ WS := tb4 (i := 141) rfl rfl
theorem qw_862 : Cond.selects "DataroomModel" ⟨"DataroomModel", "cost", "(III)I"⟩ ⟨"DataroomModel", "cost", "(III)I"⟩ ∈ WS := tb4 (i := 142) rfl rfl
theorem qw_863 : Cond.code ⟨"DataroomModel", "cost", "(III)I"⟩ prog_9_method_29_code 5 (Option.some Jvm.ClassFile.FieldType.int) ∈ WS := tb4 (i := 143) rfl rfl
theorem qw_864 : Cond.methodLink "DataroomLaw" 122 ⟨"DataroomModel", "answer", "(II)I"⟩ ∈ WS := tb4 (i := 144) rfl rfl
theorem qw_865 : Cond.instanceMethod ⟨"DataroomModel", "answer", "(II)I"⟩ ∈ WS := tb4 (i := 145) rfl rfl
theorem qw_866 : Cond.selects "DataroomModel" ⟨"DataroomModel", "answer", "(II)I"⟩ ⟨"DataroomModel", "answer", "(II)I"⟩ ∈ WS := tb4 (i := 146) rfl rfl
theorem qw_867 : Cond.code ⟨"DataroomModel", "answer", "(II)I"⟩ prog_9_method_30_code 4 (Option.some Jvm.ClassFile.FieldType.int) ∈ WS := tb4 (i := 147) rfl rfl
theorem qw_868 : Cond.methodLink "DataroomLaw" 125 ⟨"DataroomModel", "spent", "(I)I"⟩ ∈ WS := tb4 (i := 148) rfl rfl
theorem qw_869 : Cond.instanceMethod ⟨"DataroomModel", "spent", "(I)I"⟩ ∈ WS := tb4 (i := 149) rfl rfl
theorem qw_870 : Cond.selects "DataroomModel" ⟨"DataroomModel", "spent", "(I)I"⟩ ⟨"DataroomModel", "spent", "(I)I"⟩ ∈ WS := tb4 (i := 150) rfl rfl
theorem qw_871 : Cond.code ⟨"DataroomModel", "spent", "(I)I"⟩ prog_9_method_31_code 2 (Option.some Jvm.ClassFile.FieldType.int) ∈ WS := tb4 (i := 151) rfl rfl
theorem qw_872 : Cond.methodLink "DataroomLaw" 128 ⟨"DataroomModel", "spentAnew", "(I)I"⟩ ∈ WS := tb4 (i := 152) rfl rfl
theorem qw_873 : Cond.instanceMethod ⟨"DataroomModel", "spentAnew", "(I)I"⟩ ∈ WS := tb4 (i := 153) rfl rfl
theorem qw_874 : Cond.selects "DataroomModel" ⟨"DataroomModel", "spentAnew", "(I)I"⟩ ⟨"DataroomModel", "spentAnew", "(I)I"⟩ ∈ WS := tb4 (i := 154) rfl rfl
theorem qw_875 : Cond.code ⟨"DataroomModel", "spentAnew", "(I)I"⟩ prog_9_method_32_code 2 (Option.some Jvm.ClassFile.FieldType.int) ∈ WS := tb4 (i := 155) rfl rfl
theorem qw_876 : Cond.methodLink "DataroomLaw" 131 ⟨"DataroomModel", "finds", "(II)I"⟩ ∈ WS := tb4 (i := 156) rfl rfl
theorem qw_877 : Cond.instanceMethod ⟨"DataroomModel", "finds", "(II)I"⟩ ∈ WS := tb4 (i := 157) rfl rfl
theorem qw_878 : Cond.selects "DataroomModel" ⟨"DataroomModel", "finds", "(II)I"⟩ ⟨"DataroomModel", "finds", "(II)I"⟩ ∈ WS := tb4 (i := 158) rfl rfl
theorem qw_879 : Cond.code ⟨"DataroomModel", "finds", "(II)I"⟩ prog_9_method_34_code 3 (Option.some Jvm.ClassFile.FieldType.int) ∈ WS := tb4 (i := 159) rfl rfl
theorem qw_880 : Cond.methodLink "DataroomModel" 127 ⟨"DataroomModel", "findsBy", "(II)I"⟩ ∈ WS := tb4 (i := 160) rfl rfl
theorem qw_882 : Cond.instanceMethod ⟨"DataroomModel", "findsBy", "(II)I"⟩ ∈ WS := tb4 (i := 162) rfl rfl
theorem qw_883 : Cond.code ⟨"DataroomModel", "findsBy", "(II)I"⟩ prog_9_method_33_code 5 (Option.some Jvm.ClassFile.FieldType.int) ∈ WS := tb4 (i := 163) rfl rfl
theorem qw_884 : Cond.methodLink "DataroomLaw" 134 ⟨"DataroomModel", "together", "(II)I"⟩ ∈ WS := tb4 (i := 164) rfl rfl
theorem qw_885 : Cond.instanceMethod ⟨"DataroomModel", "together", "(II)I"⟩ ∈ WS := tb4 (i := 165) rfl rfl
theorem qw_886 : Cond.selects "DataroomModel" ⟨"DataroomModel", "together", "(II)I"⟩ ⟨"DataroomModel", "together", "(II)I"⟩ ∈ WS := tb4 (i := 166) rfl rfl
theorem qw_887 : Cond.code ⟨"DataroomModel", "together", "(II)I"⟩ prog_9_method_35_code 4 (Option.some Jvm.ClassFile.FieldType.int) ∈ WS := tb4 (i := 167) rfl rfl
theorem qw_888 : Cond.methodLink "DataroomLaw" 137 ⟨"DataroomModel", "rightTo", "(II)I"⟩ ∈ WS := tb4 (i := 168) rfl rfl
theorem qw_889 : Cond.instanceMethod ⟨"DataroomModel", "rightTo", "(II)I"⟩ ∈ WS := tb4 (i := 169) rfl rfl
theorem qw_890 : Cond.selects "DataroomModel" ⟨"DataroomModel", "rightTo", "(II)I"⟩ ⟨"DataroomModel", "rightTo", "(II)I"⟩ ∈ WS := tb4 (i := 170) rfl rfl
theorem qw_891 : Cond.code ⟨"DataroomModel", "rightTo", "(II)I"⟩ prog_9_method_36_code 3 (Option.some Jvm.ClassFile.FieldType.int) ∈ WS := tb4 (i := 171) rfl rfl
theorem qw_892 : Cond.methodLink "DataroomLaw" 140 ⟨"DataroomModel", "isSealed", "(I)Z"⟩ ∈ WS := tb4 (i := 172) rfl rfl
theorem qw_893 : Cond.instanceMethod ⟨"DataroomModel", "isSealed", "(I)Z"⟩ ∈ WS := tb4 (i := 173) rfl rfl
theorem qw_894 : Cond.selects "DataroomModel" ⟨"DataroomModel", "isSealed", "(I)Z"⟩ ⟨"DataroomModel", "isSealed", "(I)Z"⟩ ∈ WS := tb4 (i := 174) rfl rfl
theorem qw_895 : Cond.code ⟨"DataroomModel", "isSealed", "(I)Z"⟩ prog_9_method_37_code 2 (Option.some Jvm.ClassFile.FieldType.boolean) ∈ WS := tb4 (i := 175) rfl rfl
theorem qw_896 : Cond.methodLink "DataroomLaw" 143 ⟨"DataroomModel", "count", "(II)I"⟩ ∈ WS := tb4 (i := 176) rfl rfl
theorem qw_897 : Cond.instanceMethod ⟨"DataroomModel", "count", "(II)I"⟩ ∈ WS := tb4 (i := 177) rfl rfl
theorem qw_898 : Cond.selects "DataroomModel" ⟨"DataroomModel", "count", "(II)I"⟩ ⟨"DataroomModel", "count", "(II)I"⟩ ∈ WS := tb4 (i := 178) rfl rfl
theorem qw_899 : Cond.code ⟨"DataroomModel", "count", "(II)I"⟩ prog_9_method_38_code 6 (Option.some Jvm.ClassFile.FieldType.int) ∈ WS := tb4 (i := 179) rfl rfl
theorem qw_900 : Cond.sameMethod "java/lang/Throwable" "java/lang/Throwable" "fillInStackTrace" "(I)Ljava/lang/Throwable;" ∈ WS := tb4 (i := 180) rfl rfl
theorem qw_915 : Cond.sameMethod "[Ljava/lang/Object;" "java/lang/Object" "getClass" "()Ljava/lang/Class;" ∈ WS := tb4 (i := 195) rfl rfl
theorem qw_916 : Cond.selects "[Ljava/lang/Object;" ⟨"java/lang/Object", "getClass", "()Ljava/lang/Class;"⟩ ⟨"java/lang/Object", "getClass", "()Ljava/lang/Class;"⟩ ∈ WS := tb4 (i := 196) rfl rfl
end
section
theorem dX0_init_0 : decode cX0_init 0 = .ok (.aload_n 0, 1) := by decide +kernel
theorem dX0_init_1 : decode cX0_init 1 = .ok (.invokespecial 1, 3) := by decide +kernel
theorem dX0_init_4 : decode cX0_init 4 = .ok (.aload_n 0, 1) := by decide +kernel
theorem dX0_init_5 : decode cX0_init 5 = .ok (.iload_n 1, 1) := by decide +kernel
theorem dX0_init_6 : decode cX0_init 6 = .ok (.putfield 7, 3) := by decide +kernel
theorem dX0_init_9 : decode cX0_init 9 = .ok (.aload_n 0, 1) := by decide +kernel
theorem dX0_init_10 : decode cX0_init 10 = .ok (.iload_n 2, 1) := by decide +kernel
theorem dX0_init_11 : decode cX0_init 11 = .ok (.putfield 13, 3) := by decide +kernel
theorem dX0_init_14 : decode cX0_init 14 = .ok (.aload_n 0, 1) := by decide +kernel
theorem dX0_init_15 : decode cX0_init 15 = .ok (.iload_n 3, 1) := by decide +kernel
theorem dX0_init_16 : decode cX0_init 16 = .ok (.putfield 16, 3) := by decide +kernel
theorem dX0_init_19 : decode cX0_init 19 = .ok (.aload_n 0, 1) := by decide +kernel
theorem dX0_init_20 : decode cX0_init 20 = .ok (.iload 4, 2) := by decide +kernel
theorem dX0_init_22 : decode cX0_init 22 = .ok (.putfield 19, 3) := by decide +kernel
theorem dX0_init_25 : decode cX0_init 25 = .ok (.aload_n 0, 1) := by decide +kernel
theorem dX0_init_26 : decode cX0_init 26 = .ok (.iload 5, 2) := by decide +kernel
theorem dX0_init_28 : decode cX0_init 28 = .ok (.putfield 22, 3) := by decide +kernel
theorem dX0_init_31 : decode cX0_init 31 = .ok (.return_, 1) := by decide +kernel
theorem dX0_standsFor_0 : decode cX0_standsFor 0 = .ok (.aload_n 0, 1) := by decide +kernel
theorem dX0_standsFor_1 : decode cX0_standsFor 1 = .ok (.getfield 25, 3) := by decide +kernel
theorem dX0_standsFor_4 : decode cX0_standsFor 4 = .ok (.ifCond .ne 18, 3) := by decide +kernel
theorem dX0_standsFor_7 : decode cX0_standsFor 7 = .ok (.aload_n 0, 1) := by decide +kernel
theorem dX0_standsFor_8 : decode cX0_standsFor 8 = .ok (.getfield 7, 3) := by decide +kernel
theorem dX0_standsFor_11 : decode cX0_standsFor 11 = .ok (.aload_n 1, 1) := by decide +kernel
theorem dX0_standsFor_12 : decode cX0_standsFor 12 = .ok (.getfield 29, 3) := by decide +kernel
theorem dX0_standsFor_15 : decode cX0_standsFor 15 = .ok (.if_icmp .ne 7, 3) := by decide +kernel
theorem dX0_standsFor_18 : decode cX0_standsFor 18 = .ok (.iconst 1, 1) := by decide +kernel
theorem dX0_standsFor_19 : decode cX0_standsFor 19 = .ok (.goto 4, 3) := by decide +kernel
theorem dX0_standsFor_22 : decode cX0_standsFor 22 = .ok (.iconst 0, 1) := by decide +kernel
theorem dX0_standsFor_23 : decode cX0_standsFor 23 = .ok (.ireturn, 1) := by decide +kernel
theorem dX0_tell_0 : decode cX0_tell 0 = .ok (.iload_n 1, 1) := by decide +kernel
theorem dX0_tell_1 : decode cX0_tell 1 = .ok (.tableswitch 68 0 4 #[35, 40, 45, 50, 55], 35) := by decide +kernel
theorem dX0_tell_36 : decode cX0_tell 36 = .ok (.aload_n 0, 1) := by decide +kernel
theorem dX0_tell_37 : decode cX0_tell 37 = .ok (.getfield 7, 3) := by decide +kernel
theorem dX0_tell_40 : decode cX0_tell 40 = .ok (.ireturn, 1) := by decide +kernel
theorem dX0_tell_41 : decode cX0_tell 41 = .ok (.aload_n 0, 1) := by decide +kernel
theorem dX0_tell_42 : decode cX0_tell 42 = .ok (.getfield 13, 3) := by decide +kernel
theorem dX0_tell_45 : decode cX0_tell 45 = .ok (.ireturn, 1) := by decide +kernel
theorem dX0_tell_46 : decode cX0_tell 46 = .ok (.aload_n 0, 1) := by decide +kernel
theorem dX0_tell_47 : decode cX0_tell 47 = .ok (.getfield 16, 3) := by decide +kernel
theorem dX0_tell_50 : decode cX0_tell 50 = .ok (.ireturn, 1) := by decide +kernel
theorem dX0_tell_51 : decode cX0_tell 51 = .ok (.aload_n 0, 1) := by decide +kernel
theorem dX0_tell_52 : decode cX0_tell 52 = .ok (.getfield 19, 3) := by decide +kernel
theorem dX0_tell_55 : decode cX0_tell 55 = .ok (.ireturn, 1) := by decide +kernel
theorem dX0_tell_56 : decode cX0_tell 56 = .ok (.aload_n 0, 1) := by decide +kernel
theorem dX0_tell_57 : decode cX0_tell 57 = .ok (.getfield 25, 3) := by decide +kernel
theorem dX0_tell_60 : decode cX0_tell 60 = .ok (.ifCond .eq 7, 3) := by decide +kernel
theorem dX0_tell_63 : decode cX0_tell 63 = .ok (.iconst 1, 1) := by decide +kernel
theorem dX0_tell_64 : decode cX0_tell 64 = .ok (.goto 4, 3) := by decide +kernel
theorem dX0_tell_67 : decode cX0_tell 67 = .ok (.iconst 0, 1) := by decide +kernel
theorem dX0_tell_68 : decode cX0_tell 68 = .ok (.ireturn, 1) := by decide +kernel
theorem dX0_tell_69 : decode cX0_tell 69 = .ok (.aload_n 0, 1) := by decide +kernel
theorem dX0_tell_70 : decode cX0_tell 70 = .ok (.getfield 22, 3) := by decide +kernel
theorem dX0_tell_73 : decode cX0_tell 73 = .ok (.ireturn, 1) := by decide +kernel
theorem dX1_init_0 : decode cX1_init 0 = .ok (.aload_n 0, 1) := by decide +kernel
theorem dX1_init_1 : decode cX1_init 1 = .ok (.invokespecial 3, 3) := by decide +kernel
theorem dX1_init_4 : decode cX1_init 4 = .ok (.aload_n 0, 1) := by decide +kernel
theorem dX1_init_5 : decode cX1_init 5 = .ok (.iconst (-1), 1) := by decide +kernel
theorem dX1_init_6 : decode cX1_init 6 = .ok (.putfield 9, 3) := by decide +kernel
theorem dX1_init_9 : decode cX1_init 9 = .ok (.aload_n 0, 1) := by decide +kernel
theorem dX1_init_10 : decode cX1_init 10 = .ok (.iload_n 1, 1) := by decide +kernel
theorem dX1_init_11 : decode cX1_init 11 = .ok (.putfield 15, 3) := by decide +kernel
theorem dX1_init_14 : decode cX1_init 14 = .ok (.return_, 1) := by decide +kernel
theorem dX1_isClosedIn_0 : decode cX1_isClosedIn 0 = .ok (.iload_n 1, 1) := by decide +kernel
theorem dX1_isClosedIn_1 : decode cX1_isClosedIn 1 = .ok (.aload_n 0, 1) := by decide +kernel
theorem dX1_isClosedIn_2 : decode cX1_isClosedIn 2 = .ok (.getfield 9, 3) := by decide +kernel
theorem dX1_isClosedIn_5 : decode cX1_isClosedIn 5 = .ok (.if_icmp .gt 7, 3) := by decide +kernel
theorem dX1_isClosedIn_8 : decode cX1_isClosedIn 8 = .ok (.iconst 1, 1) := by decide +kernel
theorem dX1_isClosedIn_9 : decode cX1_isClosedIn 9 = .ok (.goto 4, 3) := by decide +kernel
theorem dX1_isClosedIn_12 : decode cX1_isClosedIn 12 = .ok (.iconst 0, 1) := by decide +kernel
theorem dX1_isClosedIn_13 : decode cX1_isClosedIn 13 = .ok (.ireturn, 1) := by decide +kernel
theorem dX2_init_0 : decode cX2_init 0 = .ok (.aload_n 0, 1) := by decide +kernel
theorem dX2_init_1 : decode cX2_init 1 = .ok (.invokespecial 3, 3) := by decide +kernel
theorem dX2_init_4 : decode cX2_init 4 = .ok (.aload_n 0, 1) := by decide +kernel
theorem dX2_init_5 : decode cX2_init 5 = .ok (.bipush 16, 2) := by decide +kernel
theorem dX2_init_7 : decode cX2_init 7 = .ok (.newarray .int, 2) := by decide +kernel
theorem dX2_init_9 : decode cX2_init 9 = .ok (.putfield 9, 3) := by decide +kernel
theorem dX2_init_12 : decode cX2_init 12 = .ok (.return_, 1) := by decide +kernel
theorem dX2_forget_0 : decode cX2_forget 0 = .ok (.iconst 0, 1) := by decide +kernel
theorem dX2_forget_1 : decode cX2_forget 1 = .ok (.istore_n 1, 1) := by decide +kernel
theorem dX2_forget_2 : decode cX2_forget 2 = .ok (.iload_n 1, 1) := by decide +kernel
theorem dX2_forget_3 : decode cX2_forget 3 = .ok (.aload_n 0, 1) := by decide +kernel
theorem dX2_forget_4 : decode cX2_forget 4 = .ok (.getfield 9, 3) := by decide +kernel
theorem dX2_forget_7 : decode cX2_forget 7 = .ok (.arraylength, 1) := by decide +kernel
theorem dX2_forget_8 : decode cX2_forget 8 = .ok (.if_icmp .ge 16, 3) := by decide +kernel
theorem dX2_forget_11 : decode cX2_forget 11 = .ok (.aload_n 0, 1) := by decide +kernel
theorem dX2_forget_12 : decode cX2_forget 12 = .ok (.getfield 9, 3) := by decide +kernel
theorem dX2_forget_15 : decode cX2_forget 15 = .ok (.iload_n 1, 1) := by decide +kernel
theorem dX2_forget_16 : decode cX2_forget 16 = .ok (.iconst 0, 1) := by decide +kernel
theorem dX2_forget_17 : decode cX2_forget 17 = .ok (.iastore, 1) := by decide +kernel
theorem dX2_forget_18 : decode cX2_forget 18 = .ok (.iinc 1 1, 3) := by decide +kernel
theorem dX2_forget_21 : decode cX2_forget 21 = .ok (.goto (-19), 3) := by decide +kernel
theorem dX2_forget_24 : decode cX2_forget 24 = .ok (.aload_n 0, 1) := by decide +kernel
theorem dX2_forget_25 : decode cX2_forget 25 = .ok (.iconst 0, 1) := by decide +kernel
theorem dX2_forget_26 : decode cX2_forget 26 = .ok (.putfield 15, 3) := by decide +kernel
theorem dX2_forget_29 : decode cX2_forget 29 = .ok (.return_, 1) := by decide +kernel
theorem dX2_learn_0 : decode cX2_learn 0 = .ok (.iload_n 1, 1) := by decide +kernel
theorem dX2_learn_1 : decode cX2_learn 1 = .ok (.istore_n 2, 1) := by decide +kernel
theorem dX2_learn_2 : decode cX2_learn 2 = .ok (.aload_n 0, 1) := by decide +kernel
theorem dX2_learn_3 : decode cX2_learn 3 = .ok (.getfield 9, 3) := by decide +kernel
theorem dX2_learn_6 : decode cX2_learn 6 = .ok (.arraylength, 1) := by decide +kernel
theorem dX2_learn_7 : decode cX2_learn 7 = .ok (.iconst 1, 1) := by decide +kernel
theorem dX2_learn_8 : decode cX2_learn 8 = .ok (.isub, 1) := by decide +kernel
theorem dX2_learn_9 : decode cX2_learn 9 = .ok (.istore_n 3, 1) := by decide +kernel
theorem dX2_learn_10 : decode cX2_learn 10 = .ok (.iload_n 3, 1) := by decide +kernel
theorem dX2_learn_11 : decode cX2_learn 11 = .ok (.ifCond .lt 56, 3) := by decide +kernel
theorem dX2_learn_14 : decode cX2_learn 14 = .ok (.iload_n 2, 1) := by decide +kernel
theorem dX2_learn_15 : decode cX2_learn 15 = .ok (.iload_n 3, 1) := by decide +kernel
theorem dX2_learn_16 : decode cX2_learn 16 = .ok (.invokestatic 19, 3) := by decide +kernel
theorem dX2_learn_19 : decode cX2_learn 19 = .ok (.ifCond .ne 6, 3) := by decide +kernel
theorem dX2_learn_22 : decode cX2_learn 22 = .ok (.goto 39, 3) := by decide +kernel
theorem dX2_learn_25 : decode cX2_learn 25 = .ok (.aload_n 0, 1) := by decide +kernel
theorem dX2_learn_26 : decode cX2_learn 26 = .ok (.getfield 9, 3) := by decide +kernel
theorem dX2_learn_29 : decode cX2_learn 29 = .ok (.iload_n 3, 1) := by decide +kernel
theorem dX2_learn_30 : decode cX2_learn 30 = .ok (.iaload, 1) := by decide +kernel
theorem dX2_learn_31 : decode cX2_learn 31 = .ok (.ifCond .ne 21, 3) := by decide +kernel
theorem dX2_learn_34 : decode cX2_learn 34 = .ok (.aload_n 0, 1) := by decide +kernel
theorem dX2_learn_35 : decode cX2_learn 35 = .ok (.getfield 9, 3) := by decide +kernel
theorem dX2_learn_38 : decode cX2_learn 38 = .ok (.iload_n 3, 1) := by decide +kernel
theorem dX2_learn_39 : decode cX2_learn 39 = .ok (.iload_n 2, 1) := by decide +kernel
theorem dX2_learn_40 : decode cX2_learn 40 = .ok (.iastore, 1) := by decide +kernel
theorem dX2_learn_41 : decode cX2_learn 41 = .ok (.aload_n 0, 1) := by decide +kernel
theorem dX2_learn_42 : decode cX2_learn 42 = .ok (.dup, 1) := by decide +kernel
theorem dX2_learn_43 : decode cX2_learn 43 = .ok (.getfield 15, 3) := by decide +kernel
theorem dX2_learn_46 : decode cX2_learn 46 = .ok (.iconst 1, 1) := by decide +kernel
theorem dX2_learn_47 : decode cX2_learn 47 = .ok (.iadd, 1) := by decide +kernel
theorem dX2_learn_48 : decode cX2_learn 48 = .ok (.putfield 15, 3) := by decide +kernel
theorem dX2_learn_51 : decode cX2_learn 51 = .ok (.return_, 1) := by decide +kernel
theorem dX2_learn_52 : decode cX2_learn 52 = .ok (.iload_n 2, 1) := by decide +kernel
theorem dX2_learn_53 : decode cX2_learn 53 = .ok (.aload_n 0, 1) := by decide +kernel
theorem dX2_learn_54 : decode cX2_learn 54 = .ok (.getfield 9, 3) := by decide +kernel
theorem dX2_learn_57 : decode cX2_learn 57 = .ok (.iload_n 3, 1) := by decide +kernel
theorem dX2_learn_58 : decode cX2_learn 58 = .ok (.iaload, 1) := by decide +kernel
theorem dX2_learn_59 : decode cX2_learn 59 = .ok (.ixor, 1) := by decide +kernel
theorem dX2_learn_60 : decode cX2_learn 60 = .ok (.istore_n 2, 1) := by decide +kernel
theorem dX2_learn_61 : decode cX2_learn 61 = .ok (.iinc 3 (-1), 3) := by decide +kernel
theorem dX2_learn_64 : decode cX2_learn 64 = .ok (.goto (-54), 3) := by decide +kernel
theorem dX2_learn_67 : decode cX2_learn 67 = .ok (.return_, 1) := by decide +kernel
theorem dX2_learnFrom_0 : decode cX2_learnFrom 0 = .ok (.iconst 0, 1) := by decide +kernel
theorem dX2_learnFrom_1 : decode cX2_learnFrom 1 = .ok (.istore_n 2, 1) := by decide +kernel
theorem dX2_learnFrom_2 : decode cX2_learnFrom 2 = .ok (.iload_n 2, 1) := by decide +kernel
theorem dX2_learnFrom_3 : decode cX2_learnFrom 3 = .ok (.aload_n 1, 1) := by decide +kernel
theorem dX2_learnFrom_4 : decode cX2_learnFrom 4 = .ok (.getfield 9, 3) := by decide +kernel
theorem dX2_learnFrom_7 : decode cX2_learnFrom 7 = .ok (.arraylength, 1) := by decide +kernel
theorem dX2_learnFrom_8 : decode cX2_learnFrom 8 = .ok (.if_icmp .ge 19, 3) := by decide +kernel
theorem dX2_learnFrom_11 : decode cX2_learnFrom 11 = .ok (.aload_n 0, 1) := by decide +kernel
theorem dX2_learnFrom_12 : decode cX2_learnFrom 12 = .ok (.aload_n 1, 1) := by decide +kernel
theorem dX2_learnFrom_13 : decode cX2_learnFrom 13 = .ok (.getfield 9, 3) := by decide +kernel
theorem dX2_learnFrom_16 : decode cX2_learnFrom 16 = .ok (.iload_n 2, 1) := by decide +kernel
theorem dX2_learnFrom_17 : decode cX2_learnFrom 17 = .ok (.iaload, 1) := by decide +kernel
theorem dX2_learnFrom_18 : decode cX2_learnFrom 18 = .ok (.invokevirtual 23, 3) := by decide +kernel
theorem dX2_learnFrom_21 : decode cX2_learnFrom 21 = .ok (.iinc 2 1, 3) := by decide +kernel
theorem dX2_learnFrom_24 : decode cX2_learnFrom 24 = .ok (.goto (-22), 3) := by decide +kernel
theorem dX2_learnFrom_27 : decode cX2_learnFrom 27 = .ok (.return_, 1) := by decide +kernel
theorem dX2_knows_0 : decode cX2_knows 0 = .ok (.iload_n 1, 1) := by decide +kernel
theorem dX2_knows_1 : decode cX2_knows 1 = .ok (.istore_n 2, 1) := by decide +kernel
theorem dX2_knows_2 : decode cX2_knows 2 = .ok (.aload_n 0, 1) := by decide +kernel
theorem dX2_knows_3 : decode cX2_knows 3 = .ok (.getfield 9, 3) := by decide +kernel
theorem dX2_knows_6 : decode cX2_knows 6 = .ok (.arraylength, 1) := by decide +kernel
theorem dX2_knows_7 : decode cX2_knows 7 = .ok (.iconst 1, 1) := by decide +kernel
theorem dX2_knows_8 : decode cX2_knows 8 = .ok (.isub, 1) := by decide +kernel
theorem dX2_knows_9 : decode cX2_knows 9 = .ok (.istore_n 3, 1) := by decide +kernel
theorem dX2_knows_10 : decode cX2_knows 10 = .ok (.iload_n 3, 1) := by decide +kernel
theorem dX2_knows_11 : decode cX2_knows 11 = .ok (.ifCond .lt 26, 3) := by decide +kernel
theorem dX2_knows_14 : decode cX2_knows 14 = .ok (.iload_n 2, 1) := by decide +kernel
theorem dX2_knows_15 : decode cX2_knows 15 = .ok (.iload_n 3, 1) := by decide +kernel
theorem dX2_knows_16 : decode cX2_knows 16 = .ok (.invokestatic 19, 3) := by decide +kernel
theorem dX2_knows_19 : decode cX2_knows 19 = .ok (.ifCond .eq 12, 3) := by decide +kernel
theorem dX2_knows_22 : decode cX2_knows 22 = .ok (.iload_n 2, 1) := by decide +kernel
theorem dX2_knows_23 : decode cX2_knows 23 = .ok (.aload_n 0, 1) := by decide +kernel
theorem dX2_knows_24 : decode cX2_knows 24 = .ok (.getfield 9, 3) := by decide +kernel
theorem dX2_knows_27 : decode cX2_knows 27 = .ok (.iload_n 3, 1) := by decide +kernel
theorem dX2_knows_28 : decode cX2_knows 28 = .ok (.iaload, 1) := by decide +kernel
theorem dX2_knows_29 : decode cX2_knows 29 = .ok (.ixor, 1) := by decide +kernel
theorem dX2_knows_30 : decode cX2_knows 30 = .ok (.istore_n 2, 1) := by decide +kernel
theorem dX2_knows_31 : decode cX2_knows 31 = .ok (.iinc 3 (-1), 3) := by decide +kernel
theorem dX2_knows_34 : decode cX2_knows 34 = .ok (.goto (-24), 3) := by decide +kernel
theorem dX2_knows_37 : decode cX2_knows 37 = .ok (.iload_n 2, 1) := by decide +kernel
theorem dX2_knows_38 : decode cX2_knows 38 = .ok (.ifCond .ne 7, 3) := by decide +kernel
theorem dX2_knows_41 : decode cX2_knows 41 = .ok (.iconst 1, 1) := by decide +kernel
theorem dX2_knows_42 : decode cX2_knows 42 = .ok (.goto 4, 3) := by decide +kernel
theorem dX2_knows_45 : decode cX2_knows 45 = .ok (.iconst 0, 1) := by decide +kernel
theorem dX2_knows_46 : decode cX2_knows 46 = .ok (.ireturn, 1) := by decide +kernel
theorem dX2_wouldReach_0 : decode cX2_wouldReach 0 = .ok (.aload_n 0, 1) := by decide +kernel
theorem dX2_wouldReach_1 : decode cX2_wouldReach 1 = .ok (.iload_n 1, 1) := by decide +kernel
theorem dX2_wouldReach_2 : decode cX2_wouldReach 2 = .ok (.iload_n 2, 1) := by decide +kernel
theorem dX2_wouldReach_3 : decode cX2_wouldReach 3 = .ok (.ixor, 1) := by decide +kernel
theorem dX2_wouldReach_4 : decode cX2_wouldReach 4 = .ok (.invokevirtual 27, 3) := by decide +kernel
theorem dX2_wouldReach_7 : decode cX2_wouldReach 7 = .ok (.ifCond .eq 15, 3) := by decide +kernel
theorem dX2_wouldReach_10 : decode cX2_wouldReach 10 = .ok (.aload_n 0, 1) := by decide +kernel
theorem dX2_wouldReach_11 : decode cX2_wouldReach 11 = .ok (.iload_n 1, 1) := by decide +kernel
theorem dX2_wouldReach_12 : decode cX2_wouldReach 12 = .ok (.invokevirtual 27, 3) := by decide +kernel
theorem dX2_wouldReach_15 : decode cX2_wouldReach 15 = .ok (.ifCond .ne 7, 3) := by decide +kernel
theorem dX2_wouldReach_18 : decode cX2_wouldReach 18 = .ok (.iconst 1, 1) := by decide +kernel
theorem dX2_wouldReach_19 : decode cX2_wouldReach 19 = .ok (.goto 4, 3) := by decide +kernel
theorem dX2_wouldReach_22 : decode cX2_wouldReach 22 = .ok (.iconst 0, 1) := by decide +kernel
theorem dX2_wouldReach_23 : decode cX2_wouldReach 23 = .ok (.ireturn, 1) := by decide +kernel
theorem dX3_init_0 : decode cX3_init 0 = .ok (.aload_n 0, 1) := by decide +kernel
theorem dX3_init_1 : decode cX3_init 1 = .ok (.invokespecial 3, 3) := by decide +kernel
theorem dX3_init_4 : decode cX3_init 4 = .ok (.aload_n 0, 1) := by decide +kernel
theorem dX3_init_5 : decode cX3_init 5 = .ok (.sipush 1024, 3) := by decide +kernel
theorem dX3_init_8 : decode cX3_init 8 = .ok (.newarray .long, 2) := by decide +kernel
theorem dX3_init_10 : decode cX3_init 10 = .ok (.putfield 11, 3) := by decide +kernel
theorem dX3_init_13 : decode cX3_init 13 = .ok (.return_, 1) := by decide +kernel
theorem dX3_begin_0 : decode cX3_begin 0 = .ok (.aload_n 0, 1) := by decide +kernel
theorem dX3_begin_1 : decode cX3_begin 1 = .ok (.aload_n 0, 1) := by decide +kernel
theorem dX3_begin_2 : decode cX3_begin 2 = .ok (.getfield 11, 3) := by decide +kernel
theorem dX3_begin_5 : decode cX3_begin 5 = .ok (.arraylength, 1) := by decide +kernel
theorem dX3_begin_6 : decode cX3_begin 6 = .ok (.iconst 1, 1) := by decide +kernel
theorem dX3_begin_7 : decode cX3_begin 7 = .ok (.iconst 0, 1) := by decide +kernel
theorem dX3_begin_8 : decode cX3_begin 8 = .ok (.iload_n 1, 1) := by decide +kernel
theorem dX3_begin_9 : decode cX3_begin 9 = .ok (.bipush 6, 2) := by decide +kernel
theorem dX3_begin_11 : decode cX3_begin 11 = .ok (.isub, 1) := by decide +kernel
theorem dX3_begin_12 : decode cX3_begin 12 = .ok (.invokestatic 15, 3) := by decide +kernel
theorem dX3_begin_15 : decode cX3_begin 15 = .ok (.ishl, 1) := by decide +kernel
theorem dX3_begin_16 : decode cX3_begin 16 = .ok (.invokestatic 21, 3) := by decide +kernel
theorem dX3_begin_19 : decode cX3_begin 19 = .ok (.putfield 24, 3) := by decide +kernel
theorem dX3_begin_22 : decode cX3_begin 22 = .ok (.iconst 0, 1) := by decide +kernel
theorem dX3_begin_23 : decode cX3_begin 23 = .ok (.istore_n 2, 1) := by decide +kernel
theorem dX3_begin_24 : decode cX3_begin 24 = .ok (.iload_n 2, 1) := by decide +kernel
theorem dX3_begin_25 : decode cX3_begin 25 = .ok (.aload_n 0, 1) := by decide +kernel
theorem dX3_begin_26 : decode cX3_begin 26 = .ok (.getfield 24, 3) := by decide +kernel
theorem dX3_begin_29 : decode cX3_begin 29 = .ok (.if_icmp .ge 16, 3) := by decide +kernel
theorem dX3_begin_32 : decode cX3_begin 32 = .ok (.aload_n 0, 1) := by decide +kernel
theorem dX3_begin_33 : decode cX3_begin 33 = .ok (.getfield 11, 3) := by decide +kernel
theorem dX3_begin_36 : decode cX3_begin 36 = .ok (.iload_n 2, 1) := by decide +kernel
theorem dX3_begin_37 : decode cX3_begin 37 = .ok (.lconst 0, 1) := by decide +kernel
theorem dX3_begin_38 : decode cX3_begin 38 = .ok (.lastore, 1) := by decide +kernel
theorem dX3_begin_39 : decode cX3_begin 39 = .ok (.iinc 2 1, 3) := by decide +kernel
theorem dX3_begin_42 : decode cX3_begin 42 = .ok (.goto (-18), 3) := by decide +kernel
theorem dX3_begin_45 : decode cX3_begin 45 = .ok (.aload_n 0, 1) := by decide +kernel
theorem dX3_begin_46 : decode cX3_begin 46 = .ok (.getfield 11, 3) := by decide +kernel
theorem dX3_begin_49 : decode cX3_begin 49 = .ok (.iconst 0, 1) := by decide +kernel
theorem dX3_begin_50 : decode cX3_begin 50 = .ok (.lconst 1, 1) := by decide +kernel
theorem dX3_begin_51 : decode cX3_begin 51 = .ok (.lastore, 1) := by decide +kernel
theorem dX3_begin_52 : decode cX3_begin 52 = .ok (.return_, 1) := by decide +kernel
theorem dX3_add_0 : decode cX3_add 0 = .ok (.aload_n 0, 1) := by decide +kernel
theorem dX3_add_1 : decode cX3_add 1 = .ok (.iload_n 1, 1) := by decide +kernel
theorem dX3_add_2 : decode cX3_add 2 = .ok (.invokevirtual 28, 3) := by decide +kernel
theorem dX3_add_5 : decode cX3_add 5 = .ok (.ifCond .eq 4, 3) := by decide +kernel
theorem dX3_add_8 : decode cX3_add 8 = .ok (.return_, 1) := by decide +kernel
theorem dX3_add_9 : decode cX3_add 9 = .ok (.iconst 0, 1) := by decide +kernel
theorem dX3_add_10 : decode cX3_add 10 = .ok (.istore_n 2, 1) := by decide +kernel
theorem dX3_add_11 : decode cX3_add 11 = .ok (.iload_n 2, 1) := by decide +kernel
theorem dX3_add_12 : decode cX3_add 12 = .ok (.aload_n 0, 1) := by decide +kernel
theorem dX3_add_13 : decode cX3_add 13 = .ok (.getfield 24, 3) := by decide +kernel
theorem dX3_add_16 : decode cX3_add 16 = .ok (.if_icmp .ge 54, 3) := by decide +kernel
theorem dX3_add_19 : decode cX3_add 19 = .ok (.iload_n 2, 1) := by decide +kernel
theorem dX3_add_20 : decode cX3_add 20 = .ok (.iload_n 1, 1) := by decide +kernel
theorem dX3_add_21 : decode cX3_add 21 = .ok (.bipush 6, 2) := by decide +kernel
theorem dX3_add_23 : decode cX3_add 23 = .ok (.iushr, 1) := by decide +kernel
theorem dX3_add_24 : decode cX3_add 24 = .ok (.ixor, 1) := by decide +kernel
theorem dX3_add_25 : decode cX3_add 25 = .ok (.istore_n 3, 1) := by decide +kernel
theorem dX3_add_26 : decode cX3_add 26 = .ok (.aload_n 0, 1) := by decide +kernel
theorem dX3_add_27 : decode cX3_add 27 = .ok (.getfield 11, 3) := by decide +kernel
theorem dX3_add_30 : decode cX3_add 30 = .ok (.iload_n 2, 1) := by decide +kernel
theorem dX3_add_31 : decode cX3_add 31 = .ok (.laload, 1) := by decide +kernel
theorem dX3_add_32 : decode cX3_add 32 = .ok (.lconst 0, 1) := by decide +kernel
theorem dX3_add_33 : decode cX3_add 33 = .ok (.lcmp, 1) := by decide +kernel
theorem dX3_add_34 : decode cX3_add 34 = .ok (.ifCond .eq 30, 3) := by decide +kernel
theorem dX3_add_37 : decode cX3_add 37 = .ok (.iload_n 3, 1) := by decide +kernel
theorem dX3_add_38 : decode cX3_add 38 = .ok (.aload_n 0, 1) := by decide +kernel
theorem dX3_add_39 : decode cX3_add 39 = .ok (.getfield 24, 3) := by decide +kernel
theorem dX3_add_42 : decode cX3_add 42 = .ok (.if_icmp .ge 22, 3) := by decide +kernel
theorem dX3_add_45 : decode cX3_add 45 = .ok (.aload_n 0, 1) := by decide +kernel
theorem dX3_add_46 : decode cX3_add 46 = .ok (.getfield 11, 3) := by decide +kernel
theorem dX3_add_49 : decode cX3_add 49 = .ok (.iload_n 3, 1) := by decide +kernel
theorem dX3_add_50 : decode cX3_add 50 = .ok (.dup2, 1) := by decide +kernel
theorem dX3_add_51 : decode cX3_add 51 = .ok (.laload, 1) := by decide +kernel
theorem dX3_add_52 : decode cX3_add 52 = .ok (.aload_n 0, 1) := by decide +kernel
theorem dX3_add_53 : decode cX3_add 53 = .ok (.getfield 11, 3) := by decide +kernel
theorem dX3_add_56 : decode cX3_add 56 = .ok (.iload_n 2, 1) := by decide +kernel
theorem dX3_add_57 : decode cX3_add 57 = .ok (.laload, 1) := by decide +kernel
theorem dX3_add_58 : decode cX3_add 58 = .ok (.iload_n 1, 1) := by decide +kernel
theorem dX3_add_59 : decode cX3_add 59 = .ok (.invokestatic 32, 3) := by decide +kernel
theorem dX3_add_62 : decode cX3_add 62 = .ok (.lor, 1) := by decide +kernel
theorem dX3_add_63 : decode cX3_add 63 = .ok (.lastore, 1) := by decide +kernel
theorem dX3_add_64 : decode cX3_add 64 = .ok (.iinc 2 1, 3) := by decide +kernel
theorem dX3_add_67 : decode cX3_add 67 = .ok (.goto (-56), 3) := by decide +kernel
theorem dX3_add_70 : decode cX3_add 70 = .ok (.return_, 1) := by decide +kernel
theorem dX3_sets_0 : decode cX3_sets 0 = .ok (.iconst 0, 1) := by decide +kernel
theorem dX3_sets_1 : decode cX3_sets 1 = .ok (.istore_n 1, 1) := by decide +kernel
theorem dX3_sets_2 : decode cX3_sets 2 = .ok (.iconst 0, 1) := by decide +kernel
theorem dX3_sets_3 : decode cX3_sets 3 = .ok (.istore_n 2, 1) := by decide +kernel
theorem dX3_sets_4 : decode cX3_sets 4 = .ok (.iload_n 2, 1) := by decide +kernel
theorem dX3_sets_5 : decode cX3_sets 5 = .ok (.aload_n 0, 1) := by decide +kernel
theorem dX3_sets_6 : decode cX3_sets 6 = .ok (.getfield 24, 3) := by decide +kernel
theorem dX3_sets_9 : decode cX3_sets 9 = .ok (.if_icmp .ge 21, 3) := by decide +kernel
theorem dX3_sets_12 : decode cX3_sets 12 = .ok (.iload_n 1, 1) := by decide +kernel
theorem dX3_sets_13 : decode cX3_sets 13 = .ok (.aload_n 0, 1) := by decide +kernel
theorem dX3_sets_14 : decode cX3_sets 14 = .ok (.getfield 11, 3) := by decide +kernel
theorem dX3_sets_17 : decode cX3_sets 17 = .ok (.iload_n 2, 1) := by decide +kernel
theorem dX3_sets_18 : decode cX3_sets 18 = .ok (.laload, 1) := by decide +kernel
theorem dX3_sets_19 : decode cX3_sets 19 = .ok (.invokestatic 36, 3) := by decide +kernel
theorem dX3_sets_22 : decode cX3_sets 22 = .ok (.iadd, 1) := by decide +kernel
theorem dX3_sets_23 : decode cX3_sets 23 = .ok (.istore_n 1, 1) := by decide +kernel
theorem dX3_sets_24 : decode cX3_sets 24 = .ok (.iinc 2 1, 3) := by decide +kernel
theorem dX3_sets_27 : decode cX3_sets 27 = .ok (.goto (-23), 3) := by decide +kernel
theorem dX3_sets_30 : decode cX3_sets 30 = .ok (.iload_n 1, 1) := by decide +kernel
theorem dX3_sets_31 : decode cX3_sets 31 = .ok (.ireturn, 1) := by decide +kernel
theorem dX3_isMarked_0 : decode cX3_isMarked 0 = .ok (.iload_n 1, 1) := by decide +kernel
theorem dX3_isMarked_1 : decode cX3_isMarked 1 = .ok (.bipush 6, 2) := by decide +kernel
theorem dX3_isMarked_3 : decode cX3_isMarked 3 = .ok (.iushr, 1) := by decide +kernel
theorem dX3_isMarked_4 : decode cX3_isMarked 4 = .ok (.istore_n 2, 1) := by decide +kernel
theorem dX3_isMarked_5 : decode cX3_isMarked 5 = .ok (.iload_n 2, 1) := by decide +kernel
theorem dX3_isMarked_6 : decode cX3_isMarked 6 = .ok (.aload_n 0, 1) := by decide +kernel
theorem dX3_isMarked_7 : decode cX3_isMarked 7 = .ok (.getfield 24, 3) := by decide +kernel
theorem dX3_isMarked_10 : decode cX3_isMarked 10 = .ok (.if_icmp .ge 25, 3) := by decide +kernel
theorem dX3_isMarked_13 : decode cX3_isMarked 13 = .ok (.aload_n 0, 1) := by decide +kernel
theorem dX3_isMarked_14 : decode cX3_isMarked 14 = .ok (.getfield 11, 3) := by decide +kernel
theorem dX3_isMarked_17 : decode cX3_isMarked 17 = .ok (.iload_n 2, 1) := by decide +kernel
theorem dX3_isMarked_18 : decode cX3_isMarked 18 = .ok (.laload, 1) := by decide +kernel
theorem dX3_isMarked_19 : decode cX3_isMarked 19 = .ok (.iload_n 1, 1) := by decide +kernel
theorem dX3_isMarked_20 : decode cX3_isMarked 20 = .ok (.bipush 63, 2) := by decide +kernel
theorem dX3_isMarked_22 : decode cX3_isMarked 22 = .ok (.iand, 1) := by decide +kernel
theorem dX3_isMarked_23 : decode cX3_isMarked 23 = .ok (.lushr, 1) := by decide +kernel
theorem dX3_isMarked_24 : decode cX3_isMarked 24 = .ok (.lconst 1, 1) := by decide +kernel
theorem dX3_isMarked_25 : decode cX3_isMarked 25 = .ok (.land, 1) := by decide +kernel
theorem dX3_isMarked_26 : decode cX3_isMarked 26 = .ok (.lconst 0, 1) := by decide +kernel
theorem dX3_isMarked_27 : decode cX3_isMarked 27 = .ok (.lcmp, 1) := by decide +kernel
theorem dX3_isMarked_28 : decode cX3_isMarked 28 = .ok (.ifCond .eq 7, 3) := by decide +kernel
theorem dX3_isMarked_31 : decode cX3_isMarked 31 = .ok (.iconst 1, 1) := by decide +kernel
theorem dX3_isMarked_32 : decode cX3_isMarked 32 = .ok (.goto 4, 3) := by decide +kernel
theorem dX3_isMarked_35 : decode cX3_isMarked 35 = .ok (.iconst 0, 1) := by decide +kernel
theorem dX3_isMarked_36 : decode cX3_isMarked 36 = .ok (.ireturn, 1) := by decide +kernel
theorem dX3_crossed_0 : decode cX3_crossed 0 = .ok (.lload_n 0, 1) := by decide +kernel
theorem dX3_crossed_1 : decode cX3_crossed 1 = .ok (.lstore_n 3, 1) := by decide +kernel
theorem dX3_crossed_2 : decode cX3_crossed 2 = .ok (.iconst 0, 1) := by decide +kernel
theorem dX3_crossed_3 : decode cX3_crossed 3 = .ok (.istore 5, 2) := by decide +kernel
theorem dX3_crossed_5 : decode cX3_crossed 5 = .ok (.iload 5, 2) := by decide +kernel
theorem dX3_crossed_7 : decode cX3_crossed 7 = .ok (.getstatic 42, 3) := by decide +kernel
theorem dX3_crossed_10 : decode cX3_crossed 10 = .ok (.arraylength, 1) := by decide +kernel
theorem dX3_crossed_11 : decode cX3_crossed 11 = .ok (.if_icmp .ge 48, 3) := by decide +kernel
theorem dX3_crossed_14 : decode cX3_crossed 14 = .ok (.iload_n 2, 1) := by decide +kernel
theorem dX3_crossed_15 : decode cX3_crossed 15 = .ok (.iload 5, 2) := by decide +kernel
theorem dX3_crossed_17 : decode cX3_crossed 17 = .ok (.invokestatic 45, 3) := by decide +kernel
theorem dX3_crossed_20 : decode cX3_crossed 20 = .ok (.ifCond .eq 33, 3) := by decide +kernel
theorem dX3_crossed_23 : decode cX3_crossed 23 = .ok (.iconst 1, 1) := by decide +kernel
theorem dX3_crossed_24 : decode cX3_crossed 24 = .ok (.iload 5, 2) := by decide +kernel
theorem dX3_crossed_26 : decode cX3_crossed 26 = .ok (.ishl, 1) := by decide +kernel
theorem dX3_crossed_27 : decode cX3_crossed 27 = .ok (.istore 6, 2) := by decide +kernel
theorem dX3_crossed_29 : decode cX3_crossed 29 = .ok (.lload_n 3, 1) := by decide +kernel
theorem dX3_crossed_30 : decode cX3_crossed 30 = .ok (.getstatic 42, 3) := by decide +kernel
theorem dX3_crossed_33 : decode cX3_crossed 33 = .ok (.iload 5, 2) := by decide +kernel
theorem dX3_crossed_35 : decode cX3_crossed 35 = .ok (.laload, 1) := by decide +kernel
theorem dX3_crossed_36 : decode cX3_crossed 36 = .ok (.land, 1) := by decide +kernel
theorem dX3_crossed_37 : decode cX3_crossed 37 = .ok (.iload 6, 2) := by decide +kernel
theorem dX3_crossed_39 : decode cX3_crossed 39 = .ok (.lshl, 1) := by decide +kernel
theorem dX3_crossed_40 : decode cX3_crossed 40 = .ok (.lload_n 3, 1) := by decide +kernel
theorem dX3_crossed_41 : decode cX3_crossed 41 = .ok (.iload 6, 2) := by decide +kernel
theorem dX3_crossed_43 : decode cX3_crossed 43 = .ok (.lushr, 1) := by decide +kernel
theorem dX3_crossed_44 : decode cX3_crossed 44 = .ok (.getstatic 42, 3) := by decide +kernel
theorem dX3_crossed_47 : decode cX3_crossed 47 = .ok (.iload 5, 2) := by decide +kernel
theorem dX3_crossed_49 : decode cX3_crossed 49 = .ok (.laload, 1) := by decide +kernel
theorem dX3_crossed_50 : decode cX3_crossed 50 = .ok (.land, 1) := by decide +kernel
theorem dX3_crossed_51 : decode cX3_crossed 51 = .ok (.lor, 1) := by decide +kernel
theorem dX3_crossed_52 : decode cX3_crossed 52 = .ok (.lstore_n 3, 1) := by decide +kernel
theorem dX3_crossed_53 : decode cX3_crossed 53 = .ok (.iinc 5 1, 3) := by decide +kernel
theorem dX3_crossed_56 : decode cX3_crossed 56 = .ok (.goto (-51), 3) := by decide +kernel
theorem dX3_crossed_59 : decode cX3_crossed 59 = .ok (.lload_n 3, 1) := by decide +kernel
theorem dX3_crossed_60 : decode cX3_crossed 60 = .ok (.lreturn, 1) := by decide +kernel
theorem dX4_init_0 : decode cX4_init 0 = .ok (.aload_n 0, 1) := by decide +kernel
theorem dX4_init_1 : decode cX4_init 1 = .ok (.invokespecial 3, 3) := by decide +kernel
theorem dX4_init_4 : decode cX4_init 4 = .ok (.aload_n 0, 1) := by decide +kernel
theorem dX4_init_5 : decode cX4_init 5 = .ok (.bipush 16, 2) := by decide +kernel
theorem dX4_init_7 : decode cX4_init 7 = .ok (.anewarray 9, 3) := by decide +kernel
theorem dX4_init_10 : decode cX4_init 10 = .ok (.putfield 11, 3) := by decide +kernel
theorem dX4_init_13 : decode cX4_init 13 = .ok (.aload_n 0, 1) := by decide +kernel
theorem dX4_init_14 : decode cX4_init 14 = .ok (.bipush 8, 2) := by decide +kernel
theorem dX4_init_16 : decode cX4_init 16 = .ok (.anewarray 17, 3) := by decide +kernel
theorem dX4_init_19 : decode cX4_init 19 = .ok (.putfield 19, 3) := by decide +kernel
theorem dX4_init_22 : decode cX4_init 22 = .ok (.aload_n 0, 1) := by decide +kernel
theorem dX4_init_23 : decode cX4_init 23 = .ok (.iconst 5, 1) := by decide +kernel
theorem dX4_init_24 : decode cX4_init 24 = .ok (.newarray .int, 2) := by decide +kernel
theorem dX4_init_26 : decode cX4_init 26 = .ok (.putfield 23, 3) := by decide +kernel
theorem dX4_init_29 : decode cX4_init 29 = .ok (.aload_n 0, 1) := by decide +kernel
theorem dX4_init_30 : decode cX4_init 30 = .ok (.iload_n 1, 1) := by decide +kernel
theorem dX4_init_31 : decode cX4_init 31 = .ok (.putfield 27, 3) := by decide +kernel
theorem dX4_init_34 : decode cX4_init 34 = .ok (.aload_n 0, 1) := by decide +kernel
theorem dX4_init_35 : decode cX4_init 35 = .ok (.iload_n 2, 1) := by decide +kernel
theorem dX4_init_36 : decode cX4_init 36 = .ok (.putfield 31, 3) := by decide +kernel
theorem dX4_init_39 : decode cX4_init 39 = .ok (.iconst 0, 1) := by decide +kernel
theorem dX4_init_40 : decode cX4_init 40 = .ok (.istore_n 3, 1) := by decide +kernel
theorem dX4_init_41 : decode cX4_init 41 = .ok (.iload_n 3, 1) := by decide +kernel
theorem dX4_init_42 : decode cX4_init 42 = .ok (.aload_n 0, 1) := by decide +kernel
theorem dX4_init_43 : decode cX4_init 43 = .ok (.getfield 19, 3) := by decide +kernel
theorem dX4_init_46 : decode cX4_init 46 = .ok (.arraylength, 1) := by decide +kernel
theorem dX4_init_47 : decode cX4_init 47 = .ok (.if_icmp .ge 22, 3) := by decide +kernel
theorem dX4_init_50 : decode cX4_init 50 = .ok (.aload_n 0, 1) := by decide +kernel
theorem dX4_init_51 : decode cX4_init 51 = .ok (.getfield 19, 3) := by decide +kernel
theorem dX4_init_54 : decode cX4_init 54 = .ok (.iload_n 3, 1) := by decide +kernel
theorem dX4_init_55 : decode cX4_init 55 = .ok (.new 17, 3) := by decide +kernel
theorem dX4_init_58 : decode cX4_init 58 = .ok (.dup, 1) := by decide +kernel
theorem dX4_init_59 : decode cX4_init 59 = .ok (.invokespecial 34, 3) := by decide +kernel
theorem dX4_init_62 : decode cX4_init 62 = .ok (.aastore, 1) := by decide +kernel
theorem dX4_init_63 : decode cX4_init 63 = .ok (.iinc 3 1, 3) := by decide +kernel
theorem dX4_init_66 : decode cX4_init 66 = .ok (.goto (-25), 3) := by decide +kernel
theorem dX4_init_69 : decode cX4_init 69 = .ok (.return_, 1) := by decide +kernel
theorem dX4_rightFor_0 : decode cX4_rightFor 0 = .ok (.iload_n 1, 1) := by decide +kernel
theorem dX4_rightFor_1 : decode cX4_rightFor 1 = .ok (.ifCond .lt 21, 3) := by decide +kernel
theorem dX4_rightFor_4 : decode cX4_rightFor 4 = .ok (.iload_n 1, 1) := by decide +kernel
theorem dX4_rightFor_5 : decode cX4_rightFor 5 = .ok (.aload_n 0, 1) := by decide +kernel
theorem dX4_rightFor_6 : decode cX4_rightFor 6 = .ok (.getfield 11, 3) := by decide +kernel
theorem dX4_rightFor_9 : decode cX4_rightFor 9 = .ok (.arraylength, 1) := by decide +kernel
theorem dX4_rightFor_10 : decode cX4_rightFor 10 = .ok (.if_icmp .ge 12, 3) := by decide +kernel
theorem dX4_rightFor_13 : decode cX4_rightFor 13 = .ok (.aload_n 0, 1) := by decide +kernel
theorem dX4_rightFor_14 : decode cX4_rightFor 14 = .ok (.getfield 11, 3) := by decide +kernel
theorem dX4_rightFor_17 : decode cX4_rightFor 17 = .ok (.iload_n 1, 1) := by decide +kernel
theorem dX4_rightFor_18 : decode cX4_rightFor 18 = .ok (.aaload, 1) := by decide +kernel
theorem dX4_rightFor_19 : decode cX4_rightFor 19 = .ok (.goto 4, 3) := by decide +kernel
theorem dX4_rightFor_22 : decode cX4_rightFor 22 = .ok (.aconst_null, 1) := by decide +kernel
theorem dX4_rightFor_23 : decode cX4_rightFor 23 = .ok (.areturn, 1) := by decide +kernel
theorem dX4_setRight_0 : decode cX4_setRight 0 = .ok (.iload_n 1, 1) := by decide +kernel
theorem dX4_setRight_1 : decode cX4_setRight 1 = .ok (.ifCond .lt 19, 3) := by decide +kernel
theorem dX4_setRight_4 : decode cX4_setRight 4 = .ok (.iload_n 1, 1) := by decide +kernel
theorem dX4_setRight_5 : decode cX4_setRight 5 = .ok (.aload_n 0, 1) := by decide +kernel
theorem dX4_setRight_6 : decode cX4_setRight 6 = .ok (.getfield 11, 3) := by decide +kernel
theorem dX4_setRight_9 : decode cX4_setRight 9 = .ok (.arraylength, 1) := by decide +kernel
theorem dX4_setRight_10 : decode cX4_setRight 10 = .ok (.if_icmp .ge 10, 3) := by decide +kernel
theorem dX4_setRight_13 : decode cX4_setRight 13 = .ok (.aload_n 0, 1) := by decide +kernel
theorem dX4_setRight_14 : decode cX4_setRight 14 = .ok (.getfield 11, 3) := by decide +kernel
theorem dX4_setRight_17 : decode cX4_setRight 17 = .ok (.iload_n 1, 1) := by decide +kernel
theorem dX4_setRight_18 : decode cX4_setRight 18 = .ok (.aload_n 2, 1) := by decide +kernel
theorem dX4_setRight_19 : decode cX4_setRight 19 = .ok (.aastore, 1) := by decide +kernel
theorem dX4_setRight_20 : decode cX4_setRight 20 = .ok (.return_, 1) := by decide +kernel
theorem dX4_rightIn_0 : decode cX4_rightIn 0 = .ok (.aload_n 0, 1) := by decide +kernel
theorem dX4_rightIn_1 : decode cX4_rightIn 1 = .ok (.iload_n 2, 1) := by decide +kernel
theorem dX4_rightIn_2 : decode cX4_rightIn 2 = .ok (.invokevirtual 35, 3) := by decide +kernel
theorem dX4_rightIn_5 : decode cX4_rightIn 5 = .ok (.astore_n 3, 1) := by decide +kernel
theorem dX4_rightIn_6 : decode cX4_rightIn 6 = .ok (.aload_n 3, 1) := by decide +kernel
theorem dX4_rightIn_7 : decode cX4_rightIn 7 = .ok (.ifnonnull 7, 3) := by decide +kernel
theorem dX4_rightIn_10 : decode cX4_rightIn 10 = .ok (.iconst 0, 1) := by decide +kernel
theorem dX4_rightIn_11 : decode cX4_rightIn 11 = .ok (.goto 8, 3) := by decide +kernel
theorem dX4_rightIn_14 : decode cX4_rightIn 14 = .ok (.aload_n 3, 1) := by decide +kernel
theorem dX4_rightIn_15 : decode cX4_rightIn 15 = .ok (.iload_n 1, 1) := by decide +kernel
theorem dX4_rightIn_16 : decode cX4_rightIn 16 = .ok (.invokevirtual 39, 3) := by decide +kernel
theorem dX4_rightIn_19 : decode cX4_rightIn 19 = .ok (.ireturn, 1) := by decide +kernel
theorem dX4_countQuestion_0 : decode cX4_countQuestion 0 = .ok (.iload_n 1, 1) := by decide +kernel
theorem dX4_countQuestion_1 : decode cX4_countQuestion 1 = .ok (.ineg, 1) := by decide +kernel
theorem dX4_countQuestion_2 : decode cX4_countQuestion 2 = .ok (.istore_n 2, 1) := by decide +kernel
theorem dX4_countQuestion_3 : decode cX4_countQuestion 3 = .ok (.iload_n 2, 1) := by decide +kernel
theorem dX4_countQuestion_4 : decode cX4_countQuestion 4 = .ok (.ifCond .lt 22, 3) := by decide +kernel
theorem dX4_countQuestion_7 : decode cX4_countQuestion 7 = .ok (.iload_n 2, 1) := by decide +kernel
theorem dX4_countQuestion_8 : decode cX4_countQuestion 8 = .ok (.aload_n 0, 1) := by decide +kernel
theorem dX4_countQuestion_9 : decode cX4_countQuestion 9 = .ok (.getfield 23, 3) := by decide +kernel
theorem dX4_countQuestion_12 : decode cX4_countQuestion 12 = .ok (.arraylength, 1) := by decide +kernel
theorem dX4_countQuestion_13 : decode cX4_countQuestion 13 = .ok (.if_icmp .ge 13, 3) := by decide +kernel
theorem dX4_countQuestion_16 : decode cX4_countQuestion 16 = .ok (.aload_n 0, 1) := by decide +kernel
theorem dX4_countQuestion_17 : decode cX4_countQuestion 17 = .ok (.getfield 23, 3) := by decide +kernel
theorem dX4_countQuestion_20 : decode cX4_countQuestion 20 = .ok (.iload_n 2, 1) := by decide +kernel
theorem dX4_countQuestion_21 : decode cX4_countQuestion 21 = .ok (.dup2, 1) := by decide +kernel
theorem dX4_countQuestion_22 : decode cX4_countQuestion 22 = .ok (.iaload, 1) := by decide +kernel
theorem dX4_countQuestion_23 : decode cX4_countQuestion 23 = .ok (.iconst 1, 1) := by decide +kernel
theorem dX4_countQuestion_24 : decode cX4_countQuestion 24 = .ok (.iadd, 1) := by decide +kernel
theorem dX4_countQuestion_25 : decode cX4_countQuestion 25 = .ok (.iastore, 1) := by decide +kernel
theorem dX4_countQuestion_26 : decode cX4_countQuestion 26 = .ok (.return_, 1) := by decide +kernel
theorem dX4_questions_0 : decode cX4_questions 0 = .ok (.iload_n 1, 1) := by decide +kernel
theorem dX4_questions_1 : decode cX4_questions 1 = .ok (.ifCond .lt 21, 3) := by decide +kernel
theorem dX4_questions_4 : decode cX4_questions 4 = .ok (.iload_n 1, 1) := by decide +kernel
theorem dX4_questions_5 : decode cX4_questions 5 = .ok (.aload_n 0, 1) := by decide +kernel
theorem dX4_questions_6 : decode cX4_questions 6 = .ok (.getfield 23, 3) := by decide +kernel
theorem dX4_questions_9 : decode cX4_questions 9 = .ok (.arraylength, 1) := by decide +kernel
theorem dX4_questions_10 : decode cX4_questions 10 = .ok (.if_icmp .ge 12, 3) := by decide +kernel
theorem dX4_questions_13 : decode cX4_questions 13 = .ok (.aload_n 0, 1) := by decide +kernel
theorem dX4_questions_14 : decode cX4_questions 14 = .ok (.getfield 23, 3) := by decide +kernel
theorem dX4_questions_17 : decode cX4_questions 17 = .ok (.iload_n 1, 1) := by decide +kernel
theorem dX4_questions_18 : decode cX4_questions 18 = .ok (.iaload, 1) := by decide +kernel
theorem dX4_questions_19 : decode cX4_questions 19 = .ok (.goto 4, 3) := by decide +kernel
theorem dX4_questions_22 : decode cX4_questions 22 = .ok (.iconst 0, 1) := by decide +kernel
theorem dX4_questions_23 : decode cX4_questions 23 = .ok (.ireturn, 1) := by decide +kernel
theorem dX4_learn_0 : decode cX4_learn 0 = .ok (.iconst 0, 1) := by decide +kernel
theorem dX4_learn_1 : decode cX4_learn 1 = .ok (.istore_n 3, 1) := by decide +kernel
theorem dX4_learn_2 : decode cX4_learn 2 = .ok (.iload_n 3, 1) := by decide +kernel
theorem dX4_learn_3 : decode cX4_learn 3 = .ok (.aload_n 0, 1) := by decide +kernel
theorem dX4_learn_4 : decode cX4_learn 4 = .ok (.getfield 19, 3) := by decide +kernel
theorem dX4_learn_7 : decode cX4_learn 7 = .ok (.arraylength, 1) := by decide +kernel
theorem dX4_learn_8 : decode cX4_learn 8 = .ok (.if_icmp .ge 27, 3) := by decide +kernel
theorem dX4_learn_11 : decode cX4_learn 11 = .ok (.iload_n 2, 1) := by decide +kernel
theorem dX4_learn_12 : decode cX4_learn 12 = .ok (.iload_n 3, 1) := by decide +kernel
theorem dX4_learn_13 : decode cX4_learn 13 = .ok (.invokestatic 43, 3) := by decide +kernel
theorem dX4_learn_16 : decode cX4_learn 16 = .ok (.ifCond .eq 13, 3) := by decide +kernel
theorem dX4_learn_19 : decode cX4_learn 19 = .ok (.aload_n 0, 1) := by decide +kernel
theorem dX4_learn_20 : decode cX4_learn 20 = .ok (.getfield 19, 3) := by decide +kernel
theorem dX4_learn_23 : decode cX4_learn 23 = .ok (.iload_n 3, 1) := by decide +kernel
theorem dX4_learn_24 : decode cX4_learn 24 = .ok (.aaload, 1) := by decide +kernel
theorem dX4_learn_25 : decode cX4_learn 25 = .ok (.iload_n 1, 1) := by decide +kernel
theorem dX4_learn_26 : decode cX4_learn 26 = .ok (.invokevirtual 47, 3) := by decide +kernel
theorem dX4_learn_29 : decode cX4_learn 29 = .ok (.iinc 3 1, 3) := by decide +kernel
theorem dX4_learn_32 : decode cX4_learn 32 = .ok (.goto (-30), 3) := by decide +kernel
theorem dX4_learn_35 : decode cX4_learn 35 = .ok (.return_, 1) := by decide +kernel
theorem dX4_forget_0 : decode cX4_forget 0 = .ok (.iconst 0, 1) := by decide +kernel
theorem dX4_forget_1 : decode cX4_forget 1 = .ok (.istore_n 1, 1) := by decide +kernel
theorem dX4_forget_2 : decode cX4_forget 2 = .ok (.iload_n 1, 1) := by decide +kernel
theorem dX4_forget_3 : decode cX4_forget 3 = .ok (.aload_n 0, 1) := by decide +kernel
theorem dX4_forget_4 : decode cX4_forget 4 = .ok (.getfield 19, 3) := by decide +kernel
theorem dX4_forget_7 : decode cX4_forget 7 = .ok (.arraylength, 1) := by decide +kernel
theorem dX4_forget_8 : decode cX4_forget 8 = .ok (.if_icmp .ge 18, 3) := by decide +kernel
theorem dX4_forget_11 : decode cX4_forget 11 = .ok (.aload_n 0, 1) := by decide +kernel
theorem dX4_forget_12 : decode cX4_forget 12 = .ok (.getfield 19, 3) := by decide +kernel
theorem dX4_forget_15 : decode cX4_forget 15 = .ok (.iload_n 1, 1) := by decide +kernel
theorem dX4_forget_16 : decode cX4_forget 16 = .ok (.aaload, 1) := by decide +kernel
theorem dX4_forget_17 : decode cX4_forget 17 = .ok (.invokevirtual 51, 3) := by decide +kernel
theorem dX4_forget_20 : decode cX4_forget 20 = .ok (.iinc 1 1, 3) := by decide +kernel
theorem dX4_forget_23 : decode cX4_forget 23 = .ok (.goto (-21), 3) := by decide +kernel
theorem dX4_forget_26 : decode cX4_forget 26 = .ok (.return_, 1) := by decide +kernel
theorem dX4_learnedInAll_0 : decode cX4_learnedInAll 0 = .ok (.iconst 0, 1) := by decide +kernel
theorem dX4_learnedInAll_1 : decode cX4_learnedInAll 1 = .ok (.istore_n 1, 1) := by decide +kernel
theorem dX4_learnedInAll_2 : decode cX4_learnedInAll 2 = .ok (.iconst 0, 1) := by decide +kernel
theorem dX4_learnedInAll_3 : decode cX4_learnedInAll 3 = .ok (.istore_n 2, 1) := by decide +kernel
theorem dX4_learnedInAll_4 : decode cX4_learnedInAll 4 = .ok (.iload_n 2, 1) := by decide +kernel
theorem dX4_learnedInAll_5 : decode cX4_learnedInAll 5 = .ok (.aload_n 0, 1) := by decide +kernel
theorem dX4_learnedInAll_6 : decode cX4_learnedInAll 6 = .ok (.getfield 19, 3) := by decide +kernel
theorem dX4_learnedInAll_9 : decode cX4_learnedInAll 9 = .ok (.arraylength, 1) := by decide +kernel
theorem dX4_learnedInAll_10 : decode cX4_learnedInAll 10 = .ok (.if_icmp .ge 21, 3) := by decide +kernel
theorem dX4_learnedInAll_13 : decode cX4_learnedInAll 13 = .ok (.iload_n 1, 1) := by decide +kernel
theorem dX4_learnedInAll_14 : decode cX4_learnedInAll 14 = .ok (.aload_n 0, 1) := by decide +kernel
theorem dX4_learnedInAll_15 : decode cX4_learnedInAll 15 = .ok (.getfield 19, 3) := by decide +kernel
theorem dX4_learnedInAll_18 : decode cX4_learnedInAll 18 = .ok (.iload_n 2, 1) := by decide +kernel
theorem dX4_learnedInAll_19 : decode cX4_learnedInAll 19 = .ok (.aaload, 1) := by decide +kernel
theorem dX4_learnedInAll_20 : decode cX4_learnedInAll 20 = .ok (.getfield 54, 3) := by decide +kernel
theorem dX4_learnedInAll_23 : decode cX4_learnedInAll 23 = .ok (.iadd, 1) := by decide +kernel
theorem dX4_learnedInAll_24 : decode cX4_learnedInAll 24 = .ok (.istore_n 1, 1) := by decide +kernel
theorem dX4_learnedInAll_25 : decode cX4_learnedInAll 25 = .ok (.iinc 2 1, 3) := by decide +kernel
theorem dX4_learnedInAll_28 : decode cX4_learnedInAll 28 = .ok (.goto (-24), 3) := by decide +kernel
theorem dX4_learnedInAll_31 : decode cX4_learnedInAll 31 = .ok (.iload_n 1, 1) := by decide +kernel
theorem dX4_learnedInAll_32 : decode cX4_learnedInAll 32 = .ok (.ireturn, 1) := by decide +kernel
theorem dX4_costOf_0 : decode cX4_costOf 0 = .ok (.iconst 0, 1) := by decide +kernel
theorem dX4_costOf_1 : decode cX4_costOf 1 = .ok (.istore_n 3, 1) := by decide +kernel
theorem dX4_costOf_2 : decode cX4_costOf 2 = .ok (.iconst 0, 1) := by decide +kernel
theorem dX4_costOf_3 : decode cX4_costOf 3 = .ok (.istore 4, 2) := by decide +kernel
theorem dX4_costOf_5 : decode cX4_costOf 5 = .ok (.iload 4, 2) := by decide +kernel
theorem dX4_costOf_7 : decode cX4_costOf 7 = .ok (.aload_n 0, 1) := by decide +kernel
theorem dX4_costOf_8 : decode cX4_costOf 8 = .ok (.getfield 19, 3) := by decide +kernel
theorem dX4_costOf_11 : decode cX4_costOf 11 = .ok (.arraylength, 1) := by decide +kernel
theorem dX4_costOf_12 : decode cX4_costOf 12 = .ok (.if_icmp .ge 35, 3) := by decide +kernel
theorem dX4_costOf_15 : decode cX4_costOf 15 = .ok (.iload_n 2, 1) := by decide +kernel
theorem dX4_costOf_16 : decode cX4_costOf 16 = .ok (.iload 4, 2) := by decide +kernel
theorem dX4_costOf_18 : decode cX4_costOf 18 = .ok (.invokestatic 43, 3) := by decide +kernel
theorem dX4_costOf_21 : decode cX4_costOf 21 = .ok (.ifCond .eq 20, 3) := by decide +kernel
theorem dX4_costOf_24 : decode cX4_costOf 24 = .ok (.aload_n 0, 1) := by decide +kernel
theorem dX4_costOf_25 : decode cX4_costOf 25 = .ok (.getfield 19, 3) := by decide +kernel
theorem dX4_costOf_28 : decode cX4_costOf 28 = .ok (.iload 4, 2) := by decide +kernel
theorem dX4_costOf_30 : decode cX4_costOf 30 = .ok (.aaload, 1) := by decide +kernel
theorem dX4_costOf_31 : decode cX4_costOf 31 = .ok (.iload_n 1, 1) := by decide +kernel
theorem dX4_costOf_32 : decode cX4_costOf 32 = .ok (.invokevirtual 57, 3) := by decide +kernel
theorem dX4_costOf_35 : decode cX4_costOf 35 = .ok (.ifCond .ne 6, 3) := by decide +kernel
theorem dX4_costOf_38 : decode cX4_costOf 38 = .ok (.iinc 3 1, 3) := by decide +kernel
theorem dX4_costOf_41 : decode cX4_costOf 41 = .ok (.iinc 4 1, 3) := by decide +kernel
theorem dX4_costOf_44 : decode cX4_costOf 44 = .ok (.goto (-39), 3) := by decide +kernel
theorem dX4_costOf_47 : decode cX4_costOf 47 = .ok (.iload_n 3, 1) := by decide +kernel
theorem dX4_costOf_48 : decode cX4_costOf 48 = .ok (.ireturn, 1) := by decide +kernel
theorem dX4_wouldFindUnread_0 : decode cX4_wouldFindUnread 0 = .ok (.iconst 0, 1) := by decide +kernel
theorem dX4_wouldFindUnread_1 : decode cX4_wouldFindUnread 1 = .ok (.istore 4, 2) := by decide +kernel
theorem dX4_wouldFindUnread_3 : decode cX4_wouldFindUnread 3 = .ok (.iload 4, 2) := by decide +kernel
theorem dX4_wouldFindUnread_5 : decode cX4_wouldFindUnread 5 = .ok (.aload_n 0, 1) := by decide +kernel
theorem dX4_wouldFindUnread_6 : decode cX4_wouldFindUnread 6 = .ok (.getfield 11, 3) := by decide +kernel
theorem dX4_wouldFindUnread_9 : decode cX4_wouldFindUnread 9 = .ok (.arraylength, 1) := by decide +kernel
theorem dX4_wouldFindUnread_10 : decode cX4_wouldFindUnread 10 = .ok (.if_icmp .ge 33, 3) := by decide +kernel
theorem dX4_wouldFindUnread_13 : decode cX4_wouldFindUnread 13 = .ok (.aload_n 0, 1) := by decide +kernel
theorem dX4_wouldFindUnread_14 : decode cX4_wouldFindUnread 14 = .ok (.iload_n 3, 1) := by decide +kernel
theorem dX4_wouldFindUnread_15 : decode cX4_wouldFindUnread 15 = .ok (.iload 4, 2) := by decide +kernel
theorem dX4_wouldFindUnread_17 : decode cX4_wouldFindUnread 17 = .ok (.invokevirtual 61, 3) := by decide +kernel
theorem dX4_wouldFindUnread_20 : decode cX4_wouldFindUnread 20 = .ok (.iconst 2, 1) := by decide +kernel
theorem dX4_wouldFindUnread_21 : decode cX4_wouldFindUnread 21 = .ok (.if_icmp .eq 16, 3) := by decide +kernel
theorem dX4_wouldFindUnread_24 : decode cX4_wouldFindUnread 24 = .ok (.aload_n 0, 1) := by decide +kernel
theorem dX4_wouldFindUnread_25 : decode cX4_wouldFindUnread 25 = .ok (.iload 4, 2) := by decide +kernel
theorem dX4_wouldFindUnread_27 : decode cX4_wouldFindUnread 27 = .ok (.iload_n 1, 1) := by decide +kernel
theorem dX4_wouldFindUnread_28 : decode cX4_wouldFindUnread 28 = .ok (.iload_n 2, 1) := by decide +kernel
theorem dX4_wouldFindUnread_29 : decode cX4_wouldFindUnread 29 = .ok (.invokevirtual 65, 3) := by decide +kernel
theorem dX4_wouldFindUnread_32 : decode cX4_wouldFindUnread 32 = .ok (.ifCond .eq 5, 3) := by decide +kernel
theorem dX4_wouldFindUnread_35 : decode cX4_wouldFindUnread 35 = .ok (.iconst 1, 1) := by decide +kernel
theorem dX4_wouldFindUnread_36 : decode cX4_wouldFindUnread 36 = .ok (.ireturn, 1) := by decide +kernel
theorem dX4_wouldFindUnread_37 : decode cX4_wouldFindUnread 37 = .ok (.iinc 4 1, 3) := by decide +kernel
theorem dX4_wouldFindUnread_40 : decode cX4_wouldFindUnread 40 = .ok (.goto (-37), 3) := by decide +kernel
theorem dX4_wouldFindUnread_43 : decode cX4_wouldFindUnread 43 = .ok (.iconst 0, 1) := by decide +kernel
theorem dX4_wouldFindUnread_44 : decode cX4_wouldFindUnread 44 = .ok (.ireturn, 1) := by decide +kernel
theorem dX4_wouldFind_0 : decode cX4_wouldFind 0 = .ok (.iconst 0, 1) := by decide +kernel
theorem dX4_wouldFind_1 : decode cX4_wouldFind 1 = .ok (.istore 4, 2) := by decide +kernel
theorem dX4_wouldFind_3 : decode cX4_wouldFind 3 = .ok (.iload 4, 2) := by decide +kernel
theorem dX4_wouldFind_5 : decode cX4_wouldFind 5 = .ok (.aload_n 0, 1) := by decide +kernel
theorem dX4_wouldFind_6 : decode cX4_wouldFind 6 = .ok (.getfield 19, 3) := by decide +kernel
theorem dX4_wouldFind_9 : decode cX4_wouldFind 9 = .ok (.arraylength, 1) := by decide +kernel
theorem dX4_wouldFind_10 : decode cX4_wouldFind 10 = .ok (.if_icmp .ge 37, 3) := by decide +kernel
theorem dX4_wouldFind_13 : decode cX4_wouldFind 13 = .ok (.iload_n 3, 1) := by decide +kernel
theorem dX4_wouldFind_14 : decode cX4_wouldFind 14 = .ok (.iload 4, 2) := by decide +kernel
theorem dX4_wouldFind_16 : decode cX4_wouldFind 16 = .ok (.invokestatic 43, 3) := by decide +kernel
theorem dX4_wouldFind_19 : decode cX4_wouldFind 19 = .ok (.ifCond .eq 22, 3) := by decide +kernel
theorem dX4_wouldFind_22 : decode cX4_wouldFind 22 = .ok (.aload_n 0, 1) := by decide +kernel
theorem dX4_wouldFind_23 : decode cX4_wouldFind 23 = .ok (.getfield 19, 3) := by decide +kernel
theorem dX4_wouldFind_26 : decode cX4_wouldFind 26 = .ok (.iload 4, 2) := by decide +kernel
theorem dX4_wouldFind_28 : decode cX4_wouldFind 28 = .ok (.aaload, 1) := by decide +kernel
theorem dX4_wouldFind_29 : decode cX4_wouldFind 29 = .ok (.iconst 1, 1) := by decide +kernel
theorem dX4_wouldFind_30 : decode cX4_wouldFind 30 = .ok (.iload_n 1, 1) := by decide +kernel
theorem dX4_wouldFind_31 : decode cX4_wouldFind 31 = .ok (.ishl, 1) := by decide +kernel
theorem dX4_wouldFind_32 : decode cX4_wouldFind 32 = .ok (.iload_n 2, 1) := by decide +kernel
theorem dX4_wouldFind_33 : decode cX4_wouldFind 33 = .ok (.invokevirtual 69, 3) := by decide +kernel
theorem dX4_wouldFind_36 : decode cX4_wouldFind 36 = .ok (.ifCond .eq 5, 3) := by decide +kernel
theorem dX4_wouldFind_39 : decode cX4_wouldFind 39 = .ok (.iconst 1, 1) := by decide +kernel
theorem dX4_wouldFind_40 : decode cX4_wouldFind 40 = .ok (.ireturn, 1) := by decide +kernel
theorem dX4_wouldFind_41 : decode cX4_wouldFind 41 = .ok (.iinc 4 1, 3) := by decide +kernel
theorem dX4_wouldFind_44 : decode cX4_wouldFind 44 = .ok (.goto (-41), 3) := by decide +kernel
theorem dX4_wouldFind_47 : decode cX4_wouldFind 47 = .ok (.iconst 0, 1) := by decide +kernel
theorem dX4_wouldFind_48 : decode cX4_wouldFind 48 = .ok (.ireturn, 1) := by decide +kernel
theorem dX5_init_0 : decode cX5_init 0 = .ok (.aload_n 0, 1) := by decide +kernel
theorem dX5_init_1 : decode cX5_init 1 = .ok (.invokespecial 3, 3) := by decide +kernel
theorem dX5_init_4 : decode cX5_init 4 = .ok (.aload_n 0, 1) := by decide +kernel
theorem dX5_init_5 : decode cX5_init 5 = .ok (.iload_n 1, 1) := by decide +kernel
theorem dX5_init_6 : decode cX5_init 6 = .ok (.putfield 9, 3) := by decide +kernel
theorem dX5_init_9 : decode cX5_init 9 = .ok (.aload_n 0, 1) := by decide +kernel
theorem dX5_init_10 : decode cX5_init 10 = .ok (.iload_n 2, 1) := by decide +kernel
theorem dX5_init_11 : decode cX5_init 11 = .ok (.putfield 15, 3) := by decide +kernel
theorem dX5_init_14 : decode cX5_init 14 = .ok (.aload_n 0, 1) := by decide +kernel
theorem dX5_init_15 : decode cX5_init 15 = .ok (.iload_n 3, 1) := by decide +kernel
theorem dX5_init_16 : decode cX5_init 16 = .ok (.putfield 18, 3) := by decide +kernel
theorem dX5_init_19 : decode cX5_init 19 = .ok (.return_, 1) := by decide +kernel
theorem dX5_in_0 : decode cX5_in 0 = .ok (.aload_n 0, 1) := by decide +kernel
theorem dX5_in_1 : decode cX5_in 1 = .ok (.getfield 15, 3) := by decide +kernel
theorem dX5_in_4 : decode cX5_in 4 = .ok (.iload_n 1, 1) := by decide +kernel
theorem dX5_in_5 : decode cX5_in 5 = .ok (.if_icmp .gt 18, 3) := by decide +kernel
theorem dX5_in_8 : decode cX5_in 8 = .ok (.iload_n 1, 1) := by decide +kernel
theorem dX5_in_9 : decode cX5_in 9 = .ok (.aload_n 0, 1) := by decide +kernel
theorem dX5_in_10 : decode cX5_in 10 = .ok (.getfield 18, 3) := by decide +kernel
theorem dX5_in_13 : decode cX5_in 13 = .ok (.if_icmp .gt 10, 3) := by decide +kernel
theorem dX5_in_16 : decode cX5_in 16 = .ok (.aload_n 0, 1) := by decide +kernel
theorem dX5_in_17 : decode cX5_in 17 = .ok (.getfield 9, 3) := by decide +kernel
theorem dX5_in_20 : decode cX5_in 20 = .ok (.goto 4, 3) := by decide +kernel
theorem dX5_in_23 : decode cX5_in 23 = .ok (.iconst 0, 1) := by decide +kernel
theorem dX5_in_24 : decode cX5_in 24 = .ok (.ireturn, 1) := by decide +kernel
theorem dX6_init_0 : decode cX6_init 0 = .ok (.aload_n 0, 1) := by decide +kernel
theorem dX6_init_1 : decode cX6_init 1 = .ok (.invokespecial 1, 3) := by decide +kernel
theorem dX6_init_4 : decode cX6_init 4 = .ok (.aload_n 0, 1) := by decide +kernel
theorem dX6_init_5 : decode cX6_init 5 = .ok (.new 7, 3) := by decide +kernel
theorem dX6_init_8 : decode cX6_init 8 = .ok (.dup, 1) := by decide +kernel
theorem dX6_init_9 : decode cX6_init 9 = .ok (.invokespecial 9, 3) := by decide +kernel
theorem dX6_init_12 : decode cX6_init 12 = .ok (.putfield 10, 3) := by decide +kernel
theorem dX6_init_15 : decode cX6_init 15 = .ok (.aload_n 0, 1) := by decide +kernel
theorem dX6_init_16 : decode cX6_init 16 = .ok (.new 7, 3) := by decide +kernel
theorem dX6_init_19 : decode cX6_init 19 = .ok (.dup, 1) := by decide +kernel
theorem dX6_init_20 : decode cX6_init 20 = .ok (.invokespecial 9, 3) := by decide +kernel
theorem dX6_init_23 : decode cX6_init 23 = .ok (.putfield 16, 3) := by decide +kernel
theorem dX6_init_26 : decode cX6_init 26 = .ok (.aload_n 0, 1) := by decide +kernel
theorem dX6_init_27 : decode cX6_init 27 = .ok (.new 7, 3) := by decide +kernel
theorem dX6_init_30 : decode cX6_init 30 = .ok (.dup, 1) := by decide +kernel
theorem dX6_init_31 : decode cX6_init 31 = .ok (.invokespecial 9, 3) := by decide +kernel
theorem dX6_init_34 : decode cX6_init 34 = .ok (.putfield 19, 3) := by decide +kernel
theorem dX6_init_37 : decode cX6_init 37 = .ok (.aload_n 0, 1) := by decide +kernel
theorem dX6_init_38 : decode cX6_init 38 = .ok (.new 22, 3) := by decide +kernel
theorem dX6_init_41 : decode cX6_init 41 = .ok (.dup, 1) := by decide +kernel
theorem dX6_init_42 : decode cX6_init 42 = .ok (.invokespecial 24, 3) := by decide +kernel
theorem dX6_init_45 : decode cX6_init 45 = .ok (.putfield 25, 3) := by decide +kernel
theorem dX6_init_48 : decode cX6_init 48 = .ok (.aload_n 0, 1) := by decide +kernel
theorem dX6_init_49 : decode cX6_init 49 = .ok (.new 29, 3) := by decide +kernel
theorem dX6_init_52 : decode cX6_init 52 = .ok (.dup, 1) := by decide +kernel
theorem dX6_init_53 : decode cX6_init 53 = .ok (.invokespecial 31, 3) := by decide +kernel
theorem dX6_init_56 : decode cX6_init 56 = .ok (.putfield 32, 3) := by decide +kernel
theorem dX6_init_59 : decode cX6_init 59 = .ok (.return_, 1) := by decide +kernel
theorem dX6_file_0 : decode cX6_file 0 = .ok (.iload_n 1, 1) := by decide +kernel
theorem dX6_file_1 : decode cX6_file 1 = .ok (.iconst 0, 1) := by decide +kernel
theorem dX6_file_2 : decode cX6_file 2 = .ok (.sipush 255, 3) := by decide +kernel
theorem dX6_file_5 : decode cX6_file 5 = .ok (.invokestatic 36, 3) := by decide +kernel
theorem dX6_file_8 : decode cX6_file 8 = .ok (.aload_n 0, 1) := by decide +kernel
theorem dX6_file_9 : decode cX6_file 9 = .ok (.getfield 10, 3) := by decide +kernel
theorem dX6_file_12 : decode cX6_file 12 = .ok (.invokevirtual 40, 3) := by decide +kernel
theorem dX6_file_15 : decode cX6_file 15 = .ok (.bipush 16, 2) := by decide +kernel
theorem dX6_file_17 : decode cX6_file 17 = .ok (.if_icmp .lt 13, 3) := by decide +kernel
theorem dX6_file_20 : decode cX6_file 20 = .ok (.new 44, 3) := by decide +kernel
theorem dX6_file_23 : decode cX6_file 23 = .ok (.dup, 1) := by decide +kernel
theorem dX6_file_24 : decode cX6_file 24 = .ok (.ldc 46, 2) := by decide +kernel
theorem dX6_file_26 : decode cX6_file 26 = .ok (.invokespecial 48, 3) := by decide +kernel
theorem dX6_file_29 : decode cX6_file 29 = .ok (.athrow, 1) := by decide +kernel
theorem dX6_file_30 : decode cX6_file 30 = .ok (.aload_n 0, 1) := by decide +kernel
theorem dX6_file_31 : decode cX6_file 31 = .ok (.getfield 10, 3) := by decide +kernel
theorem dX6_file_34 : decode cX6_file 34 = .ok (.new 51, 3) := by decide +kernel
theorem dX6_file_37 : decode cX6_file 37 = .ok (.dup, 1) := by decide +kernel
theorem dX6_file_38 : decode cX6_file 38 = .ok (.iload_n 1, 1) := by decide +kernel
theorem dX6_file_39 : decode cX6_file 39 = .ok (.invokespecial 53, 3) := by decide +kernel
theorem dX6_file_42 : decode cX6_file 42 = .ok (.invokevirtual 56, 3) := by decide +kernel
theorem dX6_file_45 : decode cX6_file 45 = .ok (.pop, 1) := by decide +kernel
theorem dX6_file_46 : decode cX6_file 46 = .ok (.aload_n 0, 1) := by decide +kernel
theorem dX6_file_47 : decode cX6_file 47 = .ok (.getfield 10, 3) := by decide +kernel
theorem dX6_file_50 : decode cX6_file 50 = .ok (.invokevirtual 40, 3) := by decide +kernel
theorem dX6_file_53 : decode cX6_file 53 = .ok (.iconst 1, 1) := by decide +kernel
theorem dX6_file_54 : decode cX6_file 54 = .ok (.isub, 1) := by decide +kernel
theorem dX6_file_55 : decode cX6_file 55 = .ok (.ireturn, 1) := by decide +kernel
theorem dX6_change_0 : decode cX6_change 0 = .ok (.aload_n 0, 1) := by decide +kernel
theorem dX6_change_1 : decode cX6_change 1 = .ok (.iload_n 1, 1) := by decide +kernel
theorem dX6_change_2 : decode cX6_change 2 = .ok (.invokevirtual 60, 3) := by decide +kernel
theorem dX6_change_5 : decode cX6_change 5 = .ok (.astore_n 3, 1) := by decide +kernel
theorem dX6_change_6 : decode cX6_change 6 = .ok (.iload_n 2, 1) := by decide +kernel
theorem dX6_change_7 : decode cX6_change 7 = .ok (.iconst 0, 1) := by decide +kernel
theorem dX6_change_8 : decode cX6_change 8 = .ok (.sipush 255, 3) := by decide +kernel
theorem dX6_change_11 : decode cX6_change 11 = .ok (.invokestatic 36, 3) := by decide +kernel
theorem dX6_change_14 : decode cX6_change 14 = .ok (.aload_n 3, 1) := by decide +kernel
theorem dX6_change_15 : decode cX6_change 15 = .ok (.iload_n 2, 1) := by decide +kernel
theorem dX6_change_16 : decode cX6_change 16 = .ok (.putfield 64, 3) := by decide +kernel
theorem dX6_change_19 : decode cX6_change 19 = .ok (.iconst 0, 1) := by decide +kernel
theorem dX6_change_20 : decode cX6_change 20 = .ok (.istore 4, 2) := by decide +kernel
theorem dX6_change_22 : decode cX6_change 22 = .ok (.iconst 0, 1) := by decide +kernel
theorem dX6_change_23 : decode cX6_change 23 = .ok (.istore 5, 2) := by decide +kernel
theorem dX6_change_25 : decode cX6_change 25 = .ok (.iload 5, 2) := by decide +kernel
theorem dX6_change_27 : decode cX6_change 27 = .ok (.aload_n 0, 1) := by decide +kernel
theorem dX6_change_28 : decode cX6_change 28 = .ok (.getfield 16, 3) := by decide +kernel
theorem dX6_change_31 : decode cX6_change 31 = .ok (.invokevirtual 40, 3) := by decide +kernel
theorem dX6_change_34 : decode cX6_change 34 = .ok (.if_icmp .ge 31, 3) := by decide +kernel
theorem dX6_change_37 : decode cX6_change 37 = .ok (.iload 4, 2) := by decide +kernel
theorem dX6_change_39 : decode cX6_change 39 = .ok (.aload_n 0, 1) := by decide +kernel
theorem dX6_change_40 : decode cX6_change 40 = .ok (.aload_n 0, 1) := by decide +kernel
theorem dX6_change_41 : decode cX6_change 41 = .ok (.getfield 16, 3) := by decide +kernel
theorem dX6_change_44 : decode cX6_change 44 = .ok (.iload 5, 2) := by decide +kernel
theorem dX6_change_46 : decode cX6_change 46 = .ok (.invokevirtual 68, 3) := by decide +kernel
theorem dX6_change_49 : decode cX6_change 49 = .ok (.checkcast 72, 3) := by decide +kernel
theorem dX6_change_52 : decode cX6_change 52 = .ok (.iload_n 1, 1) := by decide +kernel
theorem dX6_change_53 : decode cX6_change 53 = .ok (.invokevirtual 74, 3) := by decide +kernel
theorem dX6_change_56 : decode cX6_change 56 = .ok (.iadd, 1) := by decide +kernel
theorem dX6_change_57 : decode cX6_change 57 = .ok (.istore 4, 2) := by decide +kernel
theorem dX6_change_59 : decode cX6_change 59 = .ok (.iinc 5 1, 3) := by decide +kernel
theorem dX6_change_62 : decode cX6_change 62 = .ok (.goto (-37), 3) := by decide +kernel
theorem dX6_change_65 : decode cX6_change 65 = .ok (.iload 4, 2) := by decide +kernel
theorem dX6_change_67 : decode cX6_change 67 = .ok (.ireturn, 1) := by decide +kernel
theorem dX6_party_0 : decode cX6_party 0 = .ok (.iload_n 1, 1) := by decide +kernel
theorem dX6_party_1 : decode cX6_party 1 = .ok (.iconst 0, 1) := by decide +kernel
theorem dX6_party_2 : decode cX6_party 2 = .ok (.sipush 128, 3) := by decide +kernel
theorem dX6_party_5 : decode cX6_party 5 = .ok (.invokestatic 36, 3) := by decide +kernel
theorem dX6_party_8 : decode cX6_party 8 = .ok (.aload_n 0, 1) := by decide +kernel
theorem dX6_party_9 : decode cX6_party 9 = .ok (.getfield 16, 3) := by decide +kernel
theorem dX6_party_12 : decode cX6_party 12 = .ok (.invokevirtual 40, 3) := by decide +kernel
theorem dX6_party_15 : decode cX6_party 15 = .ok (.bipush 6, 2) := by decide +kernel
theorem dX6_party_17 : decode cX6_party 17 = .ok (.if_icmp .lt 13, 3) := by decide +kernel
theorem dX6_party_20 : decode cX6_party 20 = .ok (.new 44, 3) := by decide +kernel
theorem dX6_party_23 : decode cX6_party 23 = .ok (.dup, 1) := by decide +kernel
theorem dX6_party_24 : decode cX6_party 24 = .ok (.ldc 78, 2) := by decide +kernel
theorem dX6_party_26 : decode cX6_party 26 = .ok (.invokespecial 48, 3) := by decide +kernel
theorem dX6_party_29 : decode cX6_party 29 = .ok (.athrow, 1) := by decide +kernel
theorem dX6_party_30 : decode cX6_party 30 = .ok (.aload_n 0, 1) := by decide +kernel
theorem dX6_party_31 : decode cX6_party 31 = .ok (.getfield 16, 3) := by decide +kernel
theorem dX6_party_34 : decode cX6_party 34 = .ok (.invokevirtual 40, 3) := by decide +kernel
theorem dX6_party_37 : decode cX6_party 37 = .ok (.istore_n 2, 1) := by decide +kernel
theorem dX6_party_38 : decode cX6_party 38 = .ok (.aload_n 0, 1) := by decide +kernel
theorem dX6_party_39 : decode cX6_party 39 = .ok (.getfield 16, 3) := by decide +kernel
theorem dX6_party_42 : decode cX6_party 42 = .ok (.new 72, 3) := by decide +kernel
theorem dX6_party_45 : decode cX6_party 45 = .ok (.dup, 1) := by decide +kernel
theorem dX6_party_46 : decode cX6_party 46 = .ok (.iload_n 2, 1) := by decide +kernel
theorem dX6_party_47 : decode cX6_party 47 = .ok (.iload_n 1, 1) := by decide +kernel
theorem dX6_party_48 : decode cX6_party 48 = .ok (.invokespecial 80, 3) := by decide +kernel
theorem dX6_party_51 : decode cX6_party 51 = .ok (.invokevirtual 56, 3) := by decide +kernel
theorem dX6_party_54 : decode cX6_party 54 = .ok (.pop, 1) := by decide +kernel
theorem dX6_party_55 : decode cX6_party 55 = .ok (.iload_n 2, 1) := by decide +kernel
theorem dX6_party_56 : decode cX6_party 56 = .ok (.ireturn, 1) := by decide +kernel
theorem dX6_budget_0 : decode cX6_budget 0 = .ok (.aload_n 0, 1) := by decide +kernel
theorem dX6_budget_1 : decode cX6_budget 1 = .ok (.iload_n 1, 1) := by decide +kernel
theorem dX6_budget_2 : decode cX6_budget 2 = .ok (.invokevirtual 83, 3) := by decide +kernel
theorem dX6_budget_5 : decode cX6_budget 5 = .ok (.astore_n 3, 1) := by decide +kernel
theorem dX6_budget_6 : decode cX6_budget 6 = .ok (.iload_n 2, 1) := by decide +kernel
theorem dX6_budget_7 : decode cX6_budget 7 = .ok (.iconst 0, 1) := by decide +kernel
theorem dX6_budget_8 : decode cX6_budget 8 = .ok (.sipush 128, 3) := by decide +kernel
theorem dX6_budget_11 : decode cX6_budget 11 = .ok (.invokestatic 36, 3) := by decide +kernel
theorem dX6_budget_14 : decode cX6_budget 14 = .ok (.aload_n 3, 1) := by decide +kernel
theorem dX6_budget_15 : decode cX6_budget 15 = .ok (.getfield 87, 3) := by decide +kernel
theorem dX6_budget_18 : decode cX6_budget 18 = .ok (.istore 4, 2) := by decide +kernel
theorem dX6_budget_20 : decode cX6_budget 20 = .ok (.aload_n 3, 1) := by decide +kernel
theorem dX6_budget_21 : decode cX6_budget 21 = .ok (.iload_n 2, 1) := by decide +kernel
theorem dX6_budget_22 : decode cX6_budget 22 = .ok (.putfield 87, 3) := by decide +kernel
theorem dX6_budget_25 : decode cX6_budget 25 = .ok (.iload 4, 2) := by decide +kernel
theorem dX6_budget_27 : decode cX6_budget 27 = .ok (.ireturn, 1) := by decide +kernel
theorem dX6_right_0 : decode cX6_right 0 = .ok (.aload_n 0, 1) := by decide +kernel
theorem dX6_right_1 : decode cX6_right 1 = .ok (.iload_n 1, 1) := by decide +kernel
theorem dX6_right_2 : decode cX6_right 2 = .ok (.invokevirtual 83, 3) := by decide +kernel
theorem dX6_right_5 : decode cX6_right 5 = .ok (.astore 6, 2) := by decide +kernel
theorem dX6_right_7 : decode cX6_right 7 = .ok (.aload_n 0, 1) := by decide +kernel
theorem dX6_right_8 : decode cX6_right 8 = .ok (.iload_n 2, 1) := by decide +kernel
theorem dX6_right_9 : decode cX6_right 9 = .ok (.invokevirtual 90, 3) := by decide +kernel
theorem dX6_right_12 : decode cX6_right 12 = .ok (.iload_n 3, 1) := by decide +kernel
theorem dX6_right_13 : decode cX6_right 13 = .ok (.iconst 1, 1) := by decide +kernel
theorem dX6_right_14 : decode cX6_right 14 = .ok (.iconst 2, 1) := by decide +kernel
theorem dX6_right_15 : decode cX6_right 15 = .ok (.invokestatic 36, 3) := by decide +kernel
theorem dX6_right_18 : decode cX6_right 18 = .ok (.iload 4, 2) := by decide +kernel
theorem dX6_right_20 : decode cX6_right 20 = .ok (.iconst 0, 1) := by decide +kernel
theorem dX6_right_21 : decode cX6_right 21 = .ok (.sipush 5000, 3) := by decide +kernel
theorem dX6_right_24 : decode cX6_right 24 = .ok (.invokestatic 36, 3) := by decide +kernel
theorem dX6_right_27 : decode cX6_right 27 = .ok (.iload 5, 2) := by decide +kernel
theorem dX6_right_29 : decode cX6_right 29 = .ok (.iload 4, 2) := by decide +kernel
theorem dX6_right_31 : decode cX6_right 31 = .ok (.sipush 5000, 3) := by decide +kernel
theorem dX6_right_34 : decode cX6_right 34 = .ok (.invokestatic 36, 3) := by decide +kernel
theorem dX6_right_37 : decode cX6_right 37 = .ok (.aload 6, 2) := by decide +kernel
theorem dX6_right_39 : decode cX6_right 39 = .ok (.iload_n 2, 1) := by decide +kernel
theorem dX6_right_40 : decode cX6_right 40 = .ok (.new 93, 3) := by decide +kernel
theorem dX6_right_43 : decode cX6_right 43 = .ok (.dup, 1) := by decide +kernel
theorem dX6_right_44 : decode cX6_right 44 = .ok (.iload_n 3, 1) := by decide +kernel
theorem dX6_right_45 : decode cX6_right 45 = .ok (.iload 4, 2) := by decide +kernel
theorem dX6_right_47 : decode cX6_right 47 = .ok (.iload 5, 2) := by decide +kernel
theorem dX6_right_49 : decode cX6_right 49 = .ok (.invokespecial 95, 3) := by decide +kernel
theorem dX6_right_52 : decode cX6_right 52 = .ok (.invokevirtual 97, 3) := by decide +kernel
theorem dX6_right_55 : decode cX6_right 55 = .ok (.return_, 1) := by decide +kernel
theorem dX6_takeBack_0 : decode cX6_takeBack 0 = .ok (.aload_n 0, 1) := by decide +kernel
theorem dX6_takeBack_1 : decode cX6_takeBack 1 = .ok (.iload_n 1, 1) := by decide +kernel
theorem dX6_takeBack_2 : decode cX6_takeBack 2 = .ok (.invokevirtual 83, 3) := by decide +kernel
theorem dX6_takeBack_5 : decode cX6_takeBack 5 = .ok (.astore_n 3, 1) := by decide +kernel
theorem dX6_takeBack_6 : decode cX6_takeBack 6 = .ok (.aload_n 0, 1) := by decide +kernel
theorem dX6_takeBack_7 : decode cX6_takeBack 7 = .ok (.iload_n 2, 1) := by decide +kernel
theorem dX6_takeBack_8 : decode cX6_takeBack 8 = .ok (.invokevirtual 90, 3) := by decide +kernel
theorem dX6_takeBack_11 : decode cX6_takeBack 11 = .ok (.aload_n 3, 1) := by decide +kernel
theorem dX6_takeBack_12 : decode cX6_takeBack 12 = .ok (.iload_n 2, 1) := by decide +kernel
theorem dX6_takeBack_13 : decode cX6_takeBack 13 = .ok (.invokevirtual 101, 3) := by decide +kernel
theorem dX6_takeBack_16 : decode cX6_takeBack 16 = .ok (.ifnonnull 5, 3) := by decide +kernel
theorem dX6_takeBack_19 : decode cX6_takeBack 19 = .ok (.iconst 0, 1) := by decide +kernel
theorem dX6_takeBack_20 : decode cX6_takeBack 20 = .ok (.ireturn, 1) := by decide +kernel
theorem dX6_takeBack_21 : decode cX6_takeBack 21 = .ok (.aload_n 3, 1) := by decide +kernel
theorem dX6_takeBack_22 : decode cX6_takeBack 22 = .ok (.iload_n 2, 1) := by decide +kernel
theorem dX6_takeBack_23 : decode cX6_takeBack 23 = .ok (.aconst_null, 1) := by decide +kernel
theorem dX6_takeBack_24 : decode cX6_takeBack 24 = .ok (.invokevirtual 97, 3) := by decide +kernel
theorem dX6_takeBack_27 : decode cX6_takeBack 27 = .ok (.aload_n 0, 1) := by decide +kernel
theorem dX6_takeBack_28 : decode cX6_takeBack 28 = .ok (.aload_n 3, 1) := by decide +kernel
theorem dX6_takeBack_29 : decode cX6_takeBack 29 = .ok (.iload_n 2, 1) := by decide +kernel
theorem dX6_takeBack_30 : decode cX6_takeBack 30 = .ok (.invokevirtual 74, 3) := by decide +kernel
theorem dX6_takeBack_33 : decode cX6_takeBack 33 = .ok (.ireturn, 1) := by decide +kernel
theorem dX6_seal_0 : decode cX6_seal 0 = .ok (.aload_n 0, 1) := by decide +kernel
theorem dX6_seal_1 : decode cX6_seal 1 = .ok (.iload_n 1, 1) := by decide +kernel
theorem dX6_seal_2 : decode cX6_seal 2 = .ok (.invokevirtual 60, 3) := by decide +kernel
theorem dX6_seal_5 : decode cX6_seal 5 = .ok (.astore_n 3, 1) := by decide +kernel
theorem dX6_seal_6 : decode cX6_seal 6 = .ok (.iload_n 2, 1) := by decide +kernel
theorem dX6_seal_7 : decode cX6_seal 7 = .ok (.iconst 0, 1) := by decide +kernel
theorem dX6_seal_8 : decode cX6_seal 8 = .ok (.sipush 5000, 3) := by decide +kernel
theorem dX6_seal_11 : decode cX6_seal 11 = .ok (.invokestatic 36, 3) := by decide +kernel
theorem dX6_seal_14 : decode cX6_seal 14 = .ok (.aload_n 3, 1) := by decide +kernel
theorem dX6_seal_15 : decode cX6_seal 15 = .ok (.iload_n 2, 1) := by decide +kernel
theorem dX6_seal_16 : decode cX6_seal 16 = .ok (.putfield 105, 3) := by decide +kernel
theorem dX6_seal_19 : decode cX6_seal 19 = .ok (.return_, 1) := by decide +kernel
theorem dX6_pass_0 : decode cX6_pass 0 = .ok (.iload_n 1, 1) := by decide +kernel
theorem dX6_pass_1 : decode cX6_pass 1 = .ok (.iconst 1, 1) := by decide +kernel
theorem dX6_pass_2 : decode cX6_pass 2 = .ok (.sipush 500, 3) := by decide +kernel
theorem dX6_pass_5 : decode cX6_pass 5 = .ok (.invokestatic 36, 3) := by decide +kernel
theorem dX6_pass_8 : decode cX6_pass 8 = .ok (.aload_n 0, 1) := by decide +kernel
theorem dX6_pass_9 : decode cX6_pass 9 = .ok (.getfield 108, 3) := by decide +kernel
theorem dX6_pass_12 : decode cX6_pass 12 = .ok (.iload_n 1, 1) := by decide +kernel
theorem dX6_pass_13 : decode cX6_pass 13 = .ok (.iadd, 1) := by decide +kernel
theorem dX6_pass_14 : decode cX6_pass 14 = .ok (.sipush 5000, 3) := by decide +kernel
theorem dX6_pass_17 : decode cX6_pass 17 = .ok (.if_icmp .le 13, 3) := by decide +kernel
theorem dX6_pass_20 : decode cX6_pass 20 = .ok (.new 44, 3) := by decide +kernel
theorem dX6_pass_23 : decode cX6_pass 23 = .ok (.dup, 1) := by decide +kernel
theorem dX6_pass_24 : decode cX6_pass 24 = .ok (.ldc 111, 2) := by decide +kernel
theorem dX6_pass_26 : decode cX6_pass 26 = .ok (.invokespecial 48, 3) := by decide +kernel
theorem dX6_pass_29 : decode cX6_pass 29 = .ok (.athrow, 1) := by decide +kernel
theorem dX6_pass_30 : decode cX6_pass 30 = .ok (.aload_n 0, 1) := by decide +kernel
theorem dX6_pass_31 : decode cX6_pass 31 = .ok (.dup, 1) := by decide +kernel
theorem dX6_pass_32 : decode cX6_pass 32 = .ok (.getfield 108, 3) := by decide +kernel
theorem dX6_pass_35 : decode cX6_pass 35 = .ok (.iload_n 1, 1) := by decide +kernel
theorem dX6_pass_36 : decode cX6_pass 36 = .ok (.iadd, 1) := by decide +kernel
theorem dX6_pass_37 : decode cX6_pass 37 = .ok (.putfield 108, 3) := by decide +kernel
theorem dX6_pass_40 : decode cX6_pass 40 = .ok (.aload_n 0, 1) := by decide +kernel
theorem dX6_pass_41 : decode cX6_pass 41 = .ok (.getfield 108, 3) := by decide +kernel
theorem dX6_pass_44 : decode cX6_pass 44 = .ok (.ireturn, 1) := by decide +kernel
theorem dX6_ask_0 : decode cX6_ask 0 = .ok (.aload_n 0, 1) := by decide +kernel
theorem dX6_ask_1 : decode cX6_ask 1 = .ok (.iload_n 1, 1) := by decide +kernel
theorem dX6_ask_2 : decode cX6_ask 2 = .ok (.invokevirtual 83, 3) := by decide +kernel
theorem dX6_ask_5 : decode cX6_ask 5 = .ok (.astore 4, 2) := by decide +kernel
theorem dX6_ask_7 : decode cX6_ask 7 = .ok (.aload_n 0, 1) := by decide +kernel
theorem dX6_ask_8 : decode cX6_ask 8 = .ok (.iload_n 2, 1) := by decide +kernel
theorem dX6_ask_9 : decode cX6_ask 9 = .ok (.iload_n 3, 1) := by decide +kernel
theorem dX6_ask_10 : decode cX6_ask 10 = .ok (.invokevirtual 113, 3) := by decide +kernel
theorem dX6_ask_13 : decode cX6_ask 13 = .ok (.aload_n 0, 1) := by decide +kernel
theorem dX6_ask_14 : decode cX6_ask 14 = .ok (.getfield 19, 3) := by decide +kernel
theorem dX6_ask_17 : decode cX6_ask 17 = .ok (.invokevirtual 40, 3) := by decide +kernel
theorem dX6_ask_20 : decode cX6_ask 20 = .ok (.sipush 150, 3) := by decide +kernel
theorem dX6_ask_23 : decode cX6_ask 23 = .ok (.if_icmp .lt 13, 3) := by decide +kernel
theorem dX6_ask_26 : decode cX6_ask 26 = .ok (.new 44, 3) := by decide +kernel
theorem dX6_ask_29 : decode cX6_ask 29 = .ok (.dup, 1) := by decide +kernel
theorem dX6_ask_30 : decode cX6_ask 30 = .ok (.ldc 116, 2) := by decide +kernel
theorem dX6_ask_32 : decode cX6_ask 32 = .ok (.invokespecial 48, 3) := by decide +kernel
theorem dX6_ask_35 : decode cX6_ask 35 = .ok (.athrow, 1) := by decide +kernel
theorem dX6_ask_36 : decode cX6_ask 36 = .ok (.aload_n 0, 1) := by decide +kernel
theorem dX6_ask_37 : decode cX6_ask 37 = .ok (.aload 4, 2) := by decide +kernel
theorem dX6_ask_39 : decode cX6_ask 39 = .ok (.iload_n 2, 1) := by decide +kernel
theorem dX6_ask_40 : decode cX6_ask 40 = .ok (.iload_n 3, 1) := by decide +kernel
theorem dX6_ask_41 : decode cX6_ask 41 = .ok (.invokevirtual 118, 3) := by decide +kernel
theorem dX6_ask_44 : decode cX6_ask 44 = .ok (.istore 5, 2) := by decide +kernel
theorem dX6_ask_46 : decode cX6_ask 46 = .ok (.aload 4, 2) := by decide +kernel
theorem dX6_ask_48 : decode cX6_ask 48 = .ok (.iload 5, 2) := by decide +kernel
theorem dX6_ask_50 : decode cX6_ask 50 = .ok (.invokevirtual 122, 3) := by decide +kernel
theorem dX6_ask_53 : decode cX6_ask 53 = .ok (.iload 5, 2) := by decide +kernel
theorem dX6_ask_55 : decode cX6_ask 55 = .ok (.ifCond .eq 6, 3) := by decide +kernel
theorem dX6_ask_58 : decode cX6_ask 58 = .ok (.iload 5, 2) := by decide +kernel
theorem dX6_ask_60 : decode cX6_ask 60 = .ok (.ireturn, 1) := by decide +kernel
theorem dX6_ask_61 : decode cX6_ask 61 = .ok (.aload_n 0, 1) := by decide +kernel
theorem dX6_ask_62 : decode cX6_ask 62 = .ok (.iload_n 2, 1) := by decide +kernel
theorem dX6_ask_63 : decode cX6_ask 63 = .ok (.iload_n 3, 1) := by decide +kernel
theorem dX6_ask_64 : decode cX6_ask 64 = .ok (.invokevirtual 125, 3) := by decide +kernel
theorem dX6_ask_67 : decode cX6_ask 67 = .ok (.istore 6, 2) := by decide +kernel
theorem dX6_ask_69 : decode cX6_ask 69 = .ok (.aload_n 0, 1) := by decide +kernel
theorem dX6_ask_70 : decode cX6_ask 70 = .ok (.getfield 19, 3) := by decide +kernel
theorem dX6_ask_73 : decode cX6_ask 73 = .ok (.new 129, 3) := by decide +kernel
theorem dX6_ask_76 : decode cX6_ask 76 = .ok (.dup, 1) := by decide +kernel
theorem dX6_ask_77 : decode cX6_ask 77 = .ok (.aload 4, 2) := by decide +kernel
theorem dX6_ask_79 : decode cX6_ask 79 = .ok (.getfield 131, 3) := by decide +kernel
theorem dX6_ask_82 : decode cX6_ask 82 = .ok (.iload_n 2, 1) := by decide +kernel
theorem dX6_ask_83 : decode cX6_ask 83 = .ok (.iload_n 3, 1) := by decide +kernel
theorem dX6_ask_84 : decode cX6_ask 84 = .ok (.iload 6, 2) := by decide +kernel
theorem dX6_ask_86 : decode cX6_ask 86 = .ok (.aload_n 0, 1) := by decide +kernel
theorem dX6_ask_87 : decode cX6_ask 87 = .ok (.getfield 108, 3) := by decide +kernel
theorem dX6_ask_90 : decode cX6_ask 90 = .ok (.invokespecial 134, 3) := by decide +kernel
theorem dX6_ask_93 : decode cX6_ask 93 = .ok (.invokevirtual 56, 3) := by decide +kernel
theorem dX6_ask_96 : decode cX6_ask 96 = .ok (.pop, 1) := by decide +kernel
theorem dX6_ask_97 : decode cX6_ask 97 = .ok (.aload 4, 2) := by decide +kernel
theorem dX6_ask_99 : decode cX6_ask 99 = .ok (.iload_n 2, 1) := by decide +kernel
theorem dX6_ask_100 : decode cX6_ask 100 = .ok (.iload_n 3, 1) := by decide +kernel
theorem dX6_ask_101 : decode cX6_ask 101 = .ok (.invokevirtual 137, 3) := by decide +kernel
theorem dX6_ask_104 : decode cX6_ask 104 = .ok (.iload 6, 2) := by decide +kernel
theorem dX6_ask_106 : decode cX6_ask 106 = .ok (.ireturn, 1) := by decide +kernel
theorem dX6_cost_0 : decode cX6_cost 0 = .ok (.aload_n 0, 1) := by decide +kernel
theorem dX6_cost_1 : decode cX6_cost 1 = .ok (.iload_n 1, 1) := by decide +kernel
theorem dX6_cost_2 : decode cX6_cost 2 = .ok (.invokevirtual 83, 3) := by decide +kernel
theorem dX6_cost_5 : decode cX6_cost 5 = .ok (.astore 4, 2) := by decide +kernel
theorem dX6_cost_7 : decode cX6_cost 7 = .ok (.aload_n 0, 1) := by decide +kernel
theorem dX6_cost_8 : decode cX6_cost 8 = .ok (.iload_n 2, 1) := by decide +kernel
theorem dX6_cost_9 : decode cX6_cost 9 = .ok (.iload_n 3, 1) := by decide +kernel
theorem dX6_cost_10 : decode cX6_cost 10 = .ok (.invokevirtual 113, 3) := by decide +kernel
theorem dX6_cost_13 : decode cX6_cost 13 = .ok (.aload 4, 2) := by decide +kernel
theorem dX6_cost_15 : decode cX6_cost 15 = .ok (.iload_n 2, 1) := by decide +kernel
theorem dX6_cost_16 : decode cX6_cost 16 = .ok (.iload_n 3, 1) := by decide +kernel
theorem dX6_cost_17 : decode cX6_cost 17 = .ok (.invokevirtual 140, 3) := by decide +kernel
theorem dX6_cost_20 : decode cX6_cost 20 = .ok (.ireturn, 1) := by decide +kernel
theorem dX6_answer_0 : decode cX6_answer 0 = .ok (.iload_n 1, 1) := by decide +kernel
theorem dX6_answer_1 : decode cX6_answer 1 = .ok (.ifCond .lt 14, 3) := by decide +kernel
theorem dX6_answer_4 : decode cX6_answer 4 = .ok (.iload_n 1, 1) := by decide +kernel
theorem dX6_answer_5 : decode cX6_answer 5 = .ok (.aload_n 0, 1) := by decide +kernel
theorem dX6_answer_6 : decode cX6_answer 6 = .ok (.getfield 19, 3) := by decide +kernel
theorem dX6_answer_9 : decode cX6_answer 9 = .ok (.invokevirtual 40, 3) := by decide +kernel
theorem dX6_answer_12 : decode cX6_answer 12 = .ok (.if_icmp .lt 13, 3) := by decide +kernel
theorem dX6_answer_15 : decode cX6_answer 15 = .ok (.new 143, 3) := by decide +kernel
theorem dX6_answer_18 : decode cX6_answer 18 = .ok (.dup, 1) := by decide +kernel
theorem dX6_answer_19 : decode cX6_answer 19 = .ok (.ldc 145, 2) := by decide +kernel
theorem dX6_answer_21 : decode cX6_answer 21 = .ok (.invokespecial 147, 3) := by decide +kernel
theorem dX6_answer_24 : decode cX6_answer 24 = .ok (.athrow, 1) := by decide +kernel
theorem dX6_answer_25 : decode cX6_answer 25 = .ok (.iload_n 2, 1) := by decide +kernel
theorem dX6_answer_26 : decode cX6_answer 26 = .ok (.iconst 0, 1) := by decide +kernel
theorem dX6_answer_27 : decode cX6_answer 27 = .ok (.iconst 5, 1) := by decide +kernel
theorem dX6_answer_28 : decode cX6_answer 28 = .ok (.invokestatic 36, 3) := by decide +kernel
theorem dX6_answer_31 : decode cX6_answer 31 = .ok (.aload_n 0, 1) := by decide +kernel
theorem dX6_answer_32 : decode cX6_answer 32 = .ok (.getfield 19, 3) := by decide +kernel
theorem dX6_answer_35 : decode cX6_answer 35 = .ok (.iload_n 1, 1) := by decide +kernel
theorem dX6_answer_36 : decode cX6_answer 36 = .ok (.invokevirtual 68, 3) := by decide +kernel
theorem dX6_answer_39 : decode cX6_answer 39 = .ok (.checkcast 129, 3) := by decide +kernel
theorem dX6_answer_42 : decode cX6_answer 42 = .ok (.iload_n 2, 1) := by decide +kernel
theorem dX6_answer_43 : decode cX6_answer 43 = .ok (.invokevirtual 148, 3) := by decide +kernel
theorem dX6_answer_46 : decode cX6_answer 46 = .ok (.ireturn, 1) := by decide +kernel
theorem dX6_spent_0 : decode cX6_spent 0 = .ok (.aload_n 0, 1) := by decide +kernel
theorem dX6_spent_1 : decode cX6_spent 1 = .ok (.iload_n 1, 1) := by decide +kernel
theorem dX6_spent_2 : decode cX6_spent 2 = .ok (.invokevirtual 83, 3) := by decide +kernel
theorem dX6_spent_5 : decode cX6_spent 5 = .ok (.invokevirtual 152, 3) := by decide +kernel
theorem dX6_spent_8 : decode cX6_spent 8 = .ok (.ireturn, 1) := by decide +kernel
theorem dX6_spentAnew_0 : decode cX6_spentAnew 0 = .ok (.aload_n 0, 1) := by decide +kernel
theorem dX6_spentAnew_1 : decode cX6_spentAnew 1 = .ok (.iload_n 1, 1) := by decide +kernel
theorem dX6_spentAnew_2 : decode cX6_spentAnew 2 = .ok (.invokevirtual 83, 3) := by decide +kernel
theorem dX6_spentAnew_5 : decode cX6_spentAnew 5 = .ok (.astore_n 2, 1) := by decide +kernel
theorem dX6_spentAnew_6 : decode cX6_spentAnew 6 = .ok (.iconst 0, 1) := by decide +kernel
theorem dX6_spentAnew_7 : decode cX6_spentAnew 7 = .ok (.istore_n 3, 1) := by decide +kernel
theorem dX6_spentAnew_8 : decode cX6_spentAnew 8 = .ok (.iconst 0, 1) := by decide +kernel
theorem dX6_spentAnew_9 : decode cX6_spentAnew 9 = .ok (.istore 4, 2) := by decide +kernel
theorem dX6_spentAnew_11 : decode cX6_spentAnew 11 = .ok (.iload 4, 2) := by decide +kernel
theorem dX6_spentAnew_13 : decode cX6_spentAnew 13 = .ok (.bipush 8, 2) := by decide +kernel
theorem dX6_spentAnew_15 : decode cX6_spentAnew 15 = .ok (.if_icmp .ge 22, 3) := by decide +kernel
theorem dX6_spentAnew_18 : decode cX6_spentAnew 18 = .ok (.iload_n 3, 1) := by decide +kernel
theorem dX6_spentAnew_19 : decode cX6_spentAnew 19 = .ok (.aload_n 0, 1) := by decide +kernel
theorem dX6_spentAnew_20 : decode cX6_spentAnew 20 = .ok (.aload_n 2, 1) := by decide +kernel
theorem dX6_spentAnew_21 : decode cX6_spentAnew 21 = .ok (.iload 4, 2) := by decide +kernel
theorem dX6_spentAnew_23 : decode cX6_spentAnew 23 = .ok (.invokevirtual 155, 3) := by decide +kernel
theorem dX6_spentAnew_26 : decode cX6_spentAnew 26 = .ok (.invokestatic 158, 3) := by decide +kernel
theorem dX6_spentAnew_29 : decode cX6_spentAnew 29 = .ok (.iadd, 1) := by decide +kernel
theorem dX6_spentAnew_30 : decode cX6_spentAnew 30 = .ok (.istore_n 3, 1) := by decide +kernel
theorem dX6_spentAnew_31 : decode cX6_spentAnew 31 = .ok (.iinc 4 1, 3) := by decide +kernel
theorem dX6_spentAnew_34 : decode cX6_spentAnew 34 = .ok (.goto (-23), 3) := by decide +kernel
theorem dX6_spentAnew_37 : decode cX6_spentAnew 37 = .ok (.iload_n 3, 1) := by decide +kernel
theorem dX6_spentAnew_38 : decode cX6_spentAnew 38 = .ok (.ireturn, 1) := by decide +kernel
theorem dX6_finds_0 : decode cX6_finds 0 = .ok (.aload_n 0, 1) := by decide +kernel
theorem dX6_finds_1 : decode cX6_finds 1 = .ok (.iload_n 1, 1) := by decide +kernel
theorem dX6_finds_2 : decode cX6_finds 2 = .ok (.invokevirtual 83, 3) := by decide +kernel
theorem dX6_finds_5 : decode cX6_finds 5 = .ok (.astore_n 3, 1) := by decide +kernel
theorem dX6_finds_6 : decode cX6_finds 6 = .ok (.aload_n 0, 1) := by decide +kernel
theorem dX6_finds_7 : decode cX6_finds 7 = .ok (.iload_n 2, 1) := by decide +kernel
theorem dX6_finds_8 : decode cX6_finds 8 = .ok (.invokevirtual 90, 3) := by decide +kernel
theorem dX6_finds_11 : decode cX6_finds 11 = .ok (.iconst 0, 1) := by decide +kernel
theorem dX6_finds_12 : decode cX6_finds 12 = .ok (.istore 4, 2) := by decide +kernel
theorem dX6_finds_14 : decode cX6_finds 14 = .ok (.iconst 0, 1) := by decide +kernel
theorem dX6_finds_15 : decode cX6_finds 15 = .ok (.istore 5, 2) := by decide +kernel
theorem dX6_finds_17 : decode cX6_finds 17 = .ok (.iload 5, 2) := by decide +kernel
theorem dX6_finds_19 : decode cX6_finds 19 = .ok (.aload_n 3, 1) := by decide +kernel
theorem dX6_finds_20 : decode cX6_finds 20 = .ok (.getfield 161, 3) := by decide +kernel
theorem dX6_finds_23 : decode cX6_finds 23 = .ok (.arraylength, 1) := by decide +kernel
theorem dX6_finds_24 : decode cX6_finds 24 = .ok (.if_icmp .ge 34, 3) := by decide +kernel
theorem dX6_finds_27 : decode cX6_finds 27 = .ok (.aload_n 3, 1) := by decide +kernel
theorem dX6_finds_28 : decode cX6_finds 28 = .ok (.getfield 161, 3) := by decide +kernel
theorem dX6_finds_31 : decode cX6_finds 31 = .ok (.iload 5, 2) := by decide +kernel
theorem dX6_finds_33 : decode cX6_finds 33 = .ok (.aaload, 1) := by decide +kernel
theorem dX6_finds_34 : decode cX6_finds 34 = .ok (.iconst 1, 1) := by decide +kernel
theorem dX6_finds_35 : decode cX6_finds 35 = .ok (.iload_n 2, 1) := by decide +kernel
theorem dX6_finds_36 : decode cX6_finds 36 = .ok (.ishl, 1) := by decide +kernel
theorem dX6_finds_37 : decode cX6_finds 37 = .ok (.invokevirtual 165, 3) := by decide +kernel
theorem dX6_finds_40 : decode cX6_finds 40 = .ok (.ifCond .eq 12, 3) := by decide +kernel
theorem dX6_finds_43 : decode cX6_finds 43 = .ok (.iload 4, 2) := by decide +kernel
theorem dX6_finds_45 : decode cX6_finds 45 = .ok (.iconst 1, 1) := by decide +kernel
theorem dX6_finds_46 : decode cX6_finds 46 = .ok (.iload 5, 2) := by decide +kernel
theorem dX6_finds_48 : decode cX6_finds 48 = .ok (.ishl, 1) := by decide +kernel
theorem dX6_finds_49 : decode cX6_finds 49 = .ok (.ior, 1) := by decide +kernel
theorem dX6_finds_50 : decode cX6_finds 50 = .ok (.istore 4, 2) := by decide +kernel
theorem dX6_finds_52 : decode cX6_finds 52 = .ok (.iinc 5 1, 3) := by decide +kernel
theorem dX6_finds_55 : decode cX6_finds 55 = .ok (.goto (-38), 3) := by decide +kernel
theorem dX6_finds_58 : decode cX6_finds 58 = .ok (.iload 4, 2) := by decide +kernel
theorem dX6_finds_60 : decode cX6_finds 60 = .ok (.ireturn, 1) := by decide +kernel
theorem dX6_together_0 : decode cX6_together 0 = .ok (.aload_n 0, 1) := by decide +kernel
theorem dX6_together_1 : decode cX6_together 1 = .ok (.iload_n 2, 1) := by decide +kernel
theorem dX6_together_2 : decode cX6_together 2 = .ok (.invokevirtual 90, 3) := by decide +kernel
theorem dX6_together_5 : decode cX6_together 5 = .ok (.iload_n 1, 1) := by decide +kernel
theorem dX6_together_6 : decode cX6_together 6 = .ok (.iconst 0, 1) := by decide +kernel
theorem dX6_together_7 : decode cX6_together 7 = .ok (.iconst 1, 1) := by decide +kernel
theorem dX6_together_8 : decode cX6_together 8 = .ok (.aload_n 0, 1) := by decide +kernel
theorem dX6_together_9 : decode cX6_together 9 = .ok (.getfield 16, 3) := by decide +kernel
theorem dX6_together_12 : decode cX6_together 12 = .ok (.invokevirtual 40, 3) := by decide +kernel
theorem dX6_together_15 : decode cX6_together 15 = .ok (.ishl, 1) := by decide +kernel
theorem dX6_together_16 : decode cX6_together 16 = .ok (.iconst 1, 1) := by decide +kernel
theorem dX6_together_17 : decode cX6_together 17 = .ok (.isub, 1) := by decide +kernel
theorem dX6_together_18 : decode cX6_together 18 = .ok (.invokestatic 36, 3) := by decide +kernel
theorem dX6_together_21 : decode cX6_together 21 = .ok (.iconst 0, 1) := by decide +kernel
theorem dX6_together_22 : decode cX6_together 22 = .ok (.istore_n 3, 1) := by decide +kernel
theorem dX6_together_23 : decode cX6_together 23 = .ok (.iconst 0, 1) := by decide +kernel
theorem dX6_together_24 : decode cX6_together 24 = .ok (.istore 4, 2) := by decide +kernel
theorem dX6_together_26 : decode cX6_together 26 = .ok (.iload 4, 2) := by decide +kernel
theorem dX6_together_28 : decode cX6_together 28 = .ok (.bipush 8, 2) := by decide +kernel
theorem dX6_together_30 : decode cX6_together 30 = .ok (.if_icmp .ge 36, 3) := by decide +kernel
theorem dX6_together_33 : decode cX6_together 33 = .ok (.aload_n 0, 1) := by decide +kernel
theorem dX6_together_34 : decode cX6_together 34 = .ok (.iload_n 1, 1) := by decide +kernel
theorem dX6_together_35 : decode cX6_together 35 = .ok (.iload 4, 2) := by decide +kernel
theorem dX6_together_37 : decode cX6_together 37 = .ok (.invokevirtual 169, 3) := by decide +kernel
theorem dX6_together_40 : decode cX6_together 40 = .ok (.aload_n 0, 1) := by decide +kernel
theorem dX6_together_41 : decode cX6_together 41 = .ok (.getfield 25, 3) := by decide +kernel
theorem dX6_together_44 : decode cX6_together 44 = .ok (.iconst 1, 1) := by decide +kernel
theorem dX6_together_45 : decode cX6_together 45 = .ok (.iload_n 2, 1) := by decide +kernel
theorem dX6_together_46 : decode cX6_together 46 = .ok (.ishl, 1) := by decide +kernel
theorem dX6_together_47 : decode cX6_together 47 = .ok (.invokevirtual 165, 3) := by decide +kernel
theorem dX6_together_50 : decode cX6_together 50 = .ok (.ifCond .eq 10, 3) := by decide +kernel
theorem dX6_together_53 : decode cX6_together 53 = .ok (.iload_n 3, 1) := by decide +kernel
theorem dX6_together_54 : decode cX6_together 54 = .ok (.iconst 1, 1) := by decide +kernel
theorem dX6_together_55 : decode cX6_together 55 = .ok (.iload 4, 2) := by decide +kernel
theorem dX6_together_57 : decode cX6_together 57 = .ok (.ishl, 1) := by decide +kernel
theorem dX6_together_58 : decode cX6_together 58 = .ok (.ior, 1) := by decide +kernel
theorem dX6_together_59 : decode cX6_together 59 = .ok (.istore_n 3, 1) := by decide +kernel
theorem dX6_together_60 : decode cX6_together 60 = .ok (.iinc 4 1, 3) := by decide +kernel
theorem dX6_together_63 : decode cX6_together 63 = .ok (.goto (-37), 3) := by decide +kernel
theorem dX6_together_66 : decode cX6_together 66 = .ok (.iload_n 3, 1) := by decide +kernel
theorem dX6_together_67 : decode cX6_together 67 = .ok (.ireturn, 1) := by decide +kernel
theorem dX6_rightTo_0 : decode cX6_rightTo 0 = .ok (.aload_n 0, 1) := by decide +kernel
theorem dX6_rightTo_1 : decode cX6_rightTo 1 = .ok (.iload_n 1, 1) := by decide +kernel
theorem dX6_rightTo_2 : decode cX6_rightTo 2 = .ok (.invokevirtual 83, 3) := by decide +kernel
theorem dX6_rightTo_5 : decode cX6_rightTo 5 = .ok (.astore_n 3, 1) := by decide +kernel
theorem dX6_rightTo_6 : decode cX6_rightTo 6 = .ok (.aload_n 0, 1) := by decide +kernel
theorem dX6_rightTo_7 : decode cX6_rightTo 7 = .ok (.iload_n 2, 1) := by decide +kernel
theorem dX6_rightTo_8 : decode cX6_rightTo 8 = .ok (.invokevirtual 90, 3) := by decide +kernel
theorem dX6_rightTo_11 : decode cX6_rightTo 11 = .ok (.aload_n 3, 1) := by decide +kernel
theorem dX6_rightTo_12 : decode cX6_rightTo 12 = .ok (.aload_n 0, 1) := by decide +kernel
theorem dX6_rightTo_13 : decode cX6_rightTo 13 = .ok (.getfield 108, 3) := by decide +kernel
theorem dX6_rightTo_16 : decode cX6_rightTo 16 = .ok (.iload_n 2, 1) := by decide +kernel
theorem dX6_rightTo_17 : decode cX6_rightTo 17 = .ok (.invokevirtual 172, 3) := by decide +kernel
theorem dX6_rightTo_20 : decode cX6_rightTo 20 = .ok (.ireturn, 1) := by decide +kernel
theorem dX6_isSealed_0 : decode cX6_isSealed 0 = .ok (.aload_n 0, 1) := by decide +kernel
theorem dX6_isSealed_1 : decode cX6_isSealed 1 = .ok (.iload_n 1, 1) := by decide +kernel
theorem dX6_isSealed_2 : decode cX6_isSealed 2 = .ok (.invokevirtual 60, 3) := by decide +kernel
theorem dX6_isSealed_5 : decode cX6_isSealed 5 = .ok (.aload_n 0, 1) := by decide +kernel
theorem dX6_isSealed_6 : decode cX6_isSealed 6 = .ok (.getfield 108, 3) := by decide +kernel
theorem dX6_isSealed_9 : decode cX6_isSealed 9 = .ok (.invokevirtual 175, 3) := by decide +kernel
theorem dX6_isSealed_12 : decode cX6_isSealed 12 = .ok (.ireturn, 1) := by decide +kernel
theorem dX6_count_0 : decode cX6_count 0 = .ok (.aload_n 0, 1) := by decide +kernel
theorem dX6_count_1 : decode cX6_count 1 = .ok (.iload_n 1, 1) := by decide +kernel
theorem dX6_count_2 : decode cX6_count 2 = .ok (.invokevirtual 83, 3) := by decide +kernel
theorem dX6_count_5 : decode cX6_count 5 = .ok (.astore_n 3, 1) := by decide +kernel
theorem dX6_count_6 : decode cX6_count 6 = .ok (.iload_n 2, 1) := by decide +kernel
theorem dX6_count_7 : decode cX6_count 7 = .ok (.iconst 0, 1) := by decide +kernel
theorem dX6_count_8 : decode cX6_count 8 = .ok (.iconst 5, 1) := by decide +kernel
theorem dX6_count_9 : decode cX6_count 9 = .ok (.invokestatic 36, 3) := by decide +kernel
theorem dX6_count_12 : decode cX6_count 12 = .ok (.iload_n 2, 1) := by decide +kernel
theorem dX6_count_13 : decode cX6_count 13 = .ok (.iconst 5, 1) := by decide +kernel
theorem dX6_count_14 : decode cX6_count 14 = .ok (.if_icmp .ne 11, 3) := by decide +kernel
theorem dX6_count_17 : decode cX6_count 17 = .ok (.aload_n 0, 1) := by decide +kernel
theorem dX6_count_18 : decode cX6_count 18 = .ok (.aload_n 3, 1) := by decide +kernel
theorem dX6_count_19 : decode cX6_count 19 = .ok (.invokevirtual 178, 3) := by decide +kernel
theorem dX6_count_22 : decode cX6_count 22 = .ok (.goto 8, 3) := by decide +kernel
theorem dX6_count_25 : decode cX6_count 25 = .ok (.aload_n 3, 1) := by decide +kernel
theorem dX6_count_26 : decode cX6_count 26 = .ok (.iload_n 2, 1) := by decide +kernel
theorem dX6_count_27 : decode cX6_count 27 = .ok (.invokevirtual 182, 3) := by decide +kernel
theorem dX6_count_30 : decode cX6_count 30 = .ok (.ireturn, 1) := by decide +kernel
theorem dX6_partyAt_0 : decode cX6_partyAt 0 = .ok (.iload_n 1, 1) := by decide +kernel
theorem dX6_partyAt_1 : decode cX6_partyAt 1 = .ok (.ifCond .lt 14, 3) := by decide +kernel
theorem dX6_partyAt_4 : decode cX6_partyAt 4 = .ok (.iload_n 1, 1) := by decide +kernel
theorem dX6_partyAt_5 : decode cX6_partyAt 5 = .ok (.aload_n 0, 1) := by decide +kernel
theorem dX6_partyAt_6 : decode cX6_partyAt 6 = .ok (.getfield 16, 3) := by decide +kernel
theorem dX6_partyAt_9 : decode cX6_partyAt 9 = .ok (.invokevirtual 40, 3) := by decide +kernel
theorem dX6_partyAt_12 : decode cX6_partyAt 12 = .ok (.if_icmp .lt 13, 3) := by decide +kernel
theorem dX6_partyAt_15 : decode cX6_partyAt 15 = .ok (.new 143, 3) := by decide +kernel
theorem dX6_partyAt_18 : decode cX6_partyAt 18 = .ok (.dup, 1) := by decide +kernel
theorem dX6_partyAt_19 : decode cX6_partyAt 19 = .ok (.ldc 185, 2) := by decide +kernel
theorem dX6_partyAt_21 : decode cX6_partyAt 21 = .ok (.invokespecial 147, 3) := by decide +kernel
theorem dX6_partyAt_24 : decode cX6_partyAt 24 = .ok (.athrow, 1) := by decide +kernel
theorem dX6_partyAt_25 : decode cX6_partyAt 25 = .ok (.aload_n 0, 1) := by decide +kernel
theorem dX6_partyAt_26 : decode cX6_partyAt 26 = .ok (.getfield 16, 3) := by decide +kernel
theorem dX6_partyAt_29 : decode cX6_partyAt 29 = .ok (.iload_n 1, 1) := by decide +kernel
theorem dX6_partyAt_30 : decode cX6_partyAt 30 = .ok (.invokevirtual 68, 3) := by decide +kernel
theorem dX6_partyAt_33 : decode cX6_partyAt 33 = .ok (.checkcast 72, 3) := by decide +kernel
theorem dX6_partyAt_36 : decode cX6_partyAt 36 = .ok (.areturn, 1) := by decide +kernel
theorem dX6_fileAt_0 : decode cX6_fileAt 0 = .ok (.aload_n 0, 1) := by decide +kernel
theorem dX6_fileAt_1 : decode cX6_fileAt 1 = .ok (.iload_n 1, 1) := by decide +kernel
theorem dX6_fileAt_2 : decode cX6_fileAt 2 = .ok (.invokevirtual 90, 3) := by decide +kernel
theorem dX6_fileAt_5 : decode cX6_fileAt 5 = .ok (.aload_n 0, 1) := by decide +kernel
theorem dX6_fileAt_6 : decode cX6_fileAt 6 = .ok (.getfield 10, 3) := by decide +kernel
theorem dX6_fileAt_9 : decode cX6_fileAt 9 = .ok (.iload_n 1, 1) := by decide +kernel
theorem dX6_fileAt_10 : decode cX6_fileAt 10 = .ok (.invokevirtual 68, 3) := by decide +kernel
theorem dX6_fileAt_13 : decode cX6_fileAt 13 = .ok (.checkcast 51, 3) := by decide +kernel
theorem dX6_fileAt_16 : decode cX6_fileAt 16 = .ok (.areturn, 1) := by decide +kernel
theorem dX6_requireFile_0 : decode cX6_requireFile 0 = .ok (.iload_n 1, 1) := by decide +kernel
theorem dX6_requireFile_1 : decode cX6_requireFile 1 = .ok (.ifCond .lt 14, 3) := by decide +kernel
theorem dX6_requireFile_4 : decode cX6_requireFile 4 = .ok (.iload_n 1, 1) := by decide +kernel
theorem dX6_requireFile_5 : decode cX6_requireFile 5 = .ok (.aload_n 0, 1) := by decide +kernel
theorem dX6_requireFile_6 : decode cX6_requireFile 6 = .ok (.getfield 10, 3) := by decide +kernel
theorem dX6_requireFile_9 : decode cX6_requireFile 9 = .ok (.invokevirtual 40, 3) := by decide +kernel
theorem dX6_requireFile_12 : decode cX6_requireFile 12 = .ok (.if_icmp .lt 13, 3) := by decide +kernel
theorem dX6_requireFile_15 : decode cX6_requireFile 15 = .ok (.new 143, 3) := by decide +kernel
theorem dX6_requireFile_18 : decode cX6_requireFile 18 = .ok (.dup, 1) := by decide +kernel
theorem dX6_requireFile_19 : decode cX6_requireFile 19 = .ok (.ldc 187, 2) := by decide +kernel
theorem dX6_requireFile_21 : decode cX6_requireFile 21 = .ok (.invokespecial 147, 3) := by decide +kernel
theorem dX6_requireFile_24 : decode cX6_requireFile 24 = .ok (.athrow, 1) := by decide +kernel
theorem dX6_requireFile_25 : decode cX6_requireFile 25 = .ok (.return_, 1) := by decide +kernel
theorem dX6_requireRange_0 : decode cX6_requireRange 0 = .ok (.iload_n 0, 1) := by decide +kernel
theorem dX6_requireRange_1 : decode cX6_requireRange 1 = .ok (.iload_n 1, 1) := by decide +kernel
theorem dX6_requireRange_2 : decode cX6_requireRange 2 = .ok (.if_icmp .lt 8, 3) := by decide +kernel
theorem dX6_requireRange_5 : decode cX6_requireRange 5 = .ok (.iload_n 0, 1) := by decide +kernel
theorem dX6_requireRange_6 : decode cX6_requireRange 6 = .ok (.iload_n 2, 1) := by decide +kernel
theorem dX6_requireRange_7 : decode cX6_requireRange 7 = .ok (.if_icmp .le 13, 3) := by decide +kernel
theorem dX6_requireRange_10 : decode cX6_requireRange 10 = .ok (.new 189, 3) := by decide +kernel
theorem dX6_requireRange_13 : decode cX6_requireRange 13 = .ok (.dup, 1) := by decide +kernel
theorem dX6_requireRange_14 : decode cX6_requireRange 14 = .ok (.ldc 191, 2) := by decide +kernel
theorem dX6_requireRange_16 : decode cX6_requireRange 16 = .ok (.invokespecial 193, 3) := by decide +kernel
theorem dX6_requireRange_19 : decode cX6_requireRange 19 = .ok (.athrow, 1) := by decide +kernel
theorem dX6_requireRange_20 : decode cX6_requireRange 20 = .ok (.return_, 1) := by decide +kernel
theorem dX6_requireQuestion_0 : decode cX6_requireQuestion 0 = .ok (.iload_n 1, 1) := by decide +kernel
theorem dX6_requireQuestion_1 : decode cX6_requireQuestion 1 = .ok (.iconst 1, 1) := by decide +kernel
theorem dX6_requireQuestion_2 : decode cX6_requireQuestion 2 = .ok (.iconst 1, 1) := by decide +kernel
theorem dX6_requireQuestion_3 : decode cX6_requireQuestion 3 = .ok (.aload_n 0, 1) := by decide +kernel
theorem dX6_requireQuestion_4 : decode cX6_requireQuestion 4 = .ok (.getfield 10, 3) := by decide +kernel
theorem dX6_requireQuestion_7 : decode cX6_requireQuestion 7 = .ok (.invokevirtual 40, 3) := by decide +kernel
theorem dX6_requireQuestion_10 : decode cX6_requireQuestion 10 = .ok (.ishl, 1) := by decide +kernel
theorem dX6_requireQuestion_11 : decode cX6_requireQuestion 11 = .ok (.iconst 1, 1) := by decide +kernel
theorem dX6_requireQuestion_12 : decode cX6_requireQuestion 12 = .ok (.isub, 1) := by decide +kernel
theorem dX6_requireQuestion_13 : decode cX6_requireQuestion 13 = .ok (.invokestatic 36, 3) := by decide +kernel
theorem dX6_requireQuestion_16 : decode cX6_requireQuestion 16 = .ok (.iload_n 2, 1) := by decide +kernel
theorem dX6_requireQuestion_17 : decode cX6_requireQuestion 17 = .ok (.iconst (-1), 1) := by decide +kernel
theorem dX6_requireQuestion_18 : decode cX6_requireQuestion 18 = .ok (.bipush 7, 2) := by decide +kernel
theorem dX6_requireQuestion_20 : decode cX6_requireQuestion 20 = .ok (.invokestatic 36, 3) := by decide +kernel
theorem dX6_requireQuestion_23 : decode cX6_requireQuestion 23 = .ok (.return_, 1) := by decide +kernel
theorem dX6_holds_0 : decode cX6_holds 0 = .ok (.iload_n 0, 1) := by decide +kernel
theorem dX6_holds_1 : decode cX6_holds 1 = .ok (.iload_n 1, 1) := by decide +kernel
theorem dX6_holds_2 : decode cX6_holds 2 = .ok (.ishr, 1) := by decide +kernel
theorem dX6_holds_3 : decode cX6_holds 3 = .ok (.iconst 1, 1) := by decide +kernel
theorem dX6_holds_4 : decode cX6_holds 4 = .ok (.iand, 1) := by decide +kernel
theorem dX6_holds_5 : decode cX6_holds 5 = .ok (.ifCond .eq 7, 3) := by decide +kernel
theorem dX6_holds_8 : decode cX6_holds 8 = .ok (.iconst 1, 1) := by decide +kernel
theorem dX6_holds_9 : decode cX6_holds 9 = .ok (.goto 4, 3) := by decide +kernel
theorem dX6_holds_12 : decode cX6_holds 12 = .ok (.iconst 0, 1) := by decide +kernel
theorem dX6_holds_13 : decode cX6_holds 13 = .ok (.ireturn, 1) := by decide +kernel
theorem dX6_covers_0 : decode cX6_covers 0 = .ok (.iload_n 0, 1) := by decide +kernel
theorem dX6_covers_1 : decode cX6_covers 1 = .ok (.iconst (-1), 1) := by decide +kernel
theorem dX6_covers_2 : decode cX6_covers 2 = .ok (.if_icmp .eq 8, 3) := by decide +kernel
theorem dX6_covers_5 : decode cX6_covers 5 = .ok (.iload_n 0, 1) := by decide +kernel
theorem dX6_covers_6 : decode cX6_covers 6 = .ok (.iload_n 1, 1) := by decide +kernel
theorem dX6_covers_7 : decode cX6_covers 7 = .ok (.if_icmp .ne 7, 3) := by decide +kernel
theorem dX6_covers_10 : decode cX6_covers 10 = .ok (.iconst 1, 1) := by decide +kernel
theorem dX6_covers_11 : decode cX6_covers 11 = .ok (.goto 4, 3) := by decide +kernel
theorem dX6_covers_14 : decode cX6_covers 14 = .ok (.iconst 0, 1) := by decide +kernel
theorem dX6_covers_15 : decode cX6_covers 15 = .ok (.ireturn, 1) := by decide +kernel
theorem dX6_refusalOf_0 : decode cX6_refusalOf 0 = .ok (.aload_n 0, 1) := by decide +kernel
theorem dX6_refusalOf_1 : decode cX6_refusalOf 1 = .ok (.aload_n 1, 1) := by decide +kernel
theorem dX6_refusalOf_2 : decode cX6_refusalOf 2 = .ok (.iload_n 2, 1) := by decide +kernel
theorem dX6_refusalOf_3 : decode cX6_refusalOf 3 = .ok (.invokevirtual 194, 3) := by decide +kernel
theorem dX6_refusalOf_6 : decode cX6_refusalOf 6 = .ok (.ifCond .eq 5, 3) := by decide +kernel
theorem dX6_refusalOf_9 : decode cX6_refusalOf 9 = .ok (.iconst (-1), 1) := by decide +kernel
theorem dX6_refusalOf_10 : decode cX6_refusalOf 10 = .ok (.ireturn, 1) := by decide +kernel
theorem dX6_refusalOf_11 : decode cX6_refusalOf 11 = .ok (.aload_n 0, 1) := by decide +kernel
theorem dX6_refusalOf_12 : decode cX6_refusalOf 12 = .ok (.iload_n 2, 1) := by decide +kernel
theorem dX6_refusalOf_13 : decode cX6_refusalOf 13 = .ok (.invokevirtual 198, 3) := by decide +kernel
theorem dX6_refusalOf_16 : decode cX6_refusalOf 16 = .ok (.ifCond .eq 6, 3) := by decide +kernel
theorem dX6_refusalOf_19 : decode cX6_refusalOf 19 = .ok (.bipush (-2), 2) := by decide +kernel
theorem dX6_refusalOf_21 : decode cX6_refusalOf 21 = .ok (.ireturn, 1) := by decide +kernel
theorem dX6_refusalOf_22 : decode cX6_refusalOf 22 = .ok (.aload_n 1, 1) := by decide +kernel
theorem dX6_refusalOf_23 : decode cX6_refusalOf 23 = .ok (.iload_n 2, 1) := by decide +kernel
theorem dX6_refusalOf_24 : decode cX6_refusalOf 24 = .ok (.iload_n 3, 1) := by decide +kernel
theorem dX6_refusalOf_25 : decode cX6_refusalOf 25 = .ok (.aload_n 0, 1) := by decide +kernel
theorem dX6_refusalOf_26 : decode cX6_refusalOf 26 = .ok (.getfield 108, 3) := by decide +kernel
theorem dX6_refusalOf_29 : decode cX6_refusalOf 29 = .ok (.invokevirtual 201, 3) := by decide +kernel
theorem dX6_refusalOf_32 : decode cX6_refusalOf 32 = .ok (.ifCond .eq 6, 3) := by decide +kernel
theorem dX6_refusalOf_35 : decode cX6_refusalOf 35 = .ok (.bipush (-3), 2) := by decide +kernel
theorem dX6_refusalOf_37 : decode cX6_refusalOf 37 = .ok (.ireturn, 1) := by decide +kernel
theorem dX6_refusalOf_38 : decode cX6_refusalOf 38 = .ok (.aload_n 1, 1) := by decide +kernel
theorem dX6_refusalOf_39 : decode cX6_refusalOf 39 = .ok (.invokevirtual 152, 3) := by decide +kernel
theorem dX6_refusalOf_42 : decode cX6_refusalOf 42 = .ok (.aload_n 1, 1) := by decide +kernel
theorem dX6_refusalOf_43 : decode cX6_refusalOf 43 = .ok (.iload_n 2, 1) := by decide +kernel
theorem dX6_refusalOf_44 : decode cX6_refusalOf 44 = .ok (.iload_n 3, 1) := by decide +kernel
theorem dX6_refusalOf_45 : decode cX6_refusalOf 45 = .ok (.invokevirtual 140, 3) := by decide +kernel
theorem dX6_refusalOf_48 : decode cX6_refusalOf 48 = .ok (.iadd, 1) := by decide +kernel
theorem dX6_refusalOf_49 : decode cX6_refusalOf 49 = .ok (.aload_n 1, 1) := by decide +kernel
theorem dX6_refusalOf_50 : decode cX6_refusalOf 50 = .ok (.getfield 87, 3) := by decide +kernel
theorem dX6_refusalOf_53 : decode cX6_refusalOf 53 = .ok (.if_icmp .le 6, 3) := by decide +kernel
theorem dX6_refusalOf_56 : decode cX6_refusalOf 56 = .ok (.bipush (-4), 2) := by decide +kernel
theorem dX6_refusalOf_58 : decode cX6_refusalOf 58 = .ok (.ireturn, 1) := by decide +kernel
theorem dX6_refusalOf_59 : decode cX6_refusalOf 59 = .ok (.iconst 0, 1) := by decide +kernel
theorem dX6_refusalOf_60 : decode cX6_refusalOf 60 = .ok (.ireturn, 1) := by decide +kernel
theorem dX6_lacksRight_0 : decode cX6_lacksRight 0 = .ok (.iconst 0, 1) := by decide +kernel
theorem dX6_lacksRight_1 : decode cX6_lacksRight 1 = .ok (.istore_n 3, 1) := by decide +kernel
theorem dX6_lacksRight_2 : decode cX6_lacksRight 2 = .ok (.iload_n 3, 1) := by decide +kernel
theorem dX6_lacksRight_3 : decode cX6_lacksRight 3 = .ok (.aload_n 0, 1) := by decide +kernel
theorem dX6_lacksRight_4 : decode cX6_lacksRight 4 = .ok (.getfield 10, 3) := by decide +kernel
theorem dX6_lacksRight_7 : decode cX6_lacksRight 7 = .ok (.invokevirtual 40, 3) := by decide +kernel
theorem dX6_lacksRight_10 : decode cX6_lacksRight 10 = .ok (.if_icmp .ge 31, 3) := by decide +kernel
theorem dX6_lacksRight_13 : decode cX6_lacksRight 13 = .ok (.iload_n 2, 1) := by decide +kernel
theorem dX6_lacksRight_14 : decode cX6_lacksRight 14 = .ok (.iload_n 3, 1) := by decide +kernel
theorem dX6_lacksRight_15 : decode cX6_lacksRight 15 = .ok (.invokestatic 205, 3) := by decide +kernel
theorem dX6_lacksRight_18 : decode cX6_lacksRight 18 = .ok (.ifCond .eq 17, 3) := by decide +kernel
theorem dX6_lacksRight_21 : decode cX6_lacksRight 21 = .ok (.aload_n 1, 1) := by decide +kernel
theorem dX6_lacksRight_22 : decode cX6_lacksRight 22 = .ok (.aload_n 0, 1) := by decide +kernel
theorem dX6_lacksRight_23 : decode cX6_lacksRight 23 = .ok (.getfield 108, 3) := by decide +kernel
theorem dX6_lacksRight_26 : decode cX6_lacksRight 26 = .ok (.iload_n 3, 1) := by decide +kernel
theorem dX6_lacksRight_27 : decode cX6_lacksRight 27 = .ok (.invokevirtual 172, 3) := by decide +kernel
theorem dX6_lacksRight_30 : decode cX6_lacksRight 30 = .ok (.ifCond .ne 5, 3) := by decide +kernel
theorem dX6_lacksRight_33 : decode cX6_lacksRight 33 = .ok (.iconst 1, 1) := by decide +kernel
theorem dX6_lacksRight_34 : decode cX6_lacksRight 34 = .ok (.ireturn, 1) := by decide +kernel
theorem dX6_lacksRight_35 : decode cX6_lacksRight 35 = .ok (.iinc 3 1, 3) := by decide +kernel
theorem dX6_lacksRight_38 : decode cX6_lacksRight 38 = .ok (.goto (-36), 3) := by decide +kernel
theorem dX6_lacksRight_41 : decode cX6_lacksRight 41 = .ok (.iconst 0, 1) := by decide +kernel
theorem dX6_lacksRight_42 : decode cX6_lacksRight 42 = .ok (.ireturn, 1) := by decide +kernel
theorem dX6_hasSealed_0 : decode cX6_hasSealed 0 = .ok (.iconst 0, 1) := by decide +kernel
theorem dX6_hasSealed_1 : decode cX6_hasSealed 1 = .ok (.istore_n 2, 1) := by decide +kernel
theorem dX6_hasSealed_2 : decode cX6_hasSealed 2 = .ok (.iload_n 2, 1) := by decide +kernel
theorem dX6_hasSealed_3 : decode cX6_hasSealed 3 = .ok (.aload_n 0, 1) := by decide +kernel
theorem dX6_hasSealed_4 : decode cX6_hasSealed 4 = .ok (.getfield 10, 3) := by decide +kernel
theorem dX6_hasSealed_7 : decode cX6_hasSealed 7 = .ok (.invokevirtual 40, 3) := by decide +kernel
theorem dX6_hasSealed_10 : decode cX6_hasSealed 10 = .ok (.if_icmp .ge 40, 3) := by decide +kernel
theorem dX6_hasSealed_13 : decode cX6_hasSealed 13 = .ok (.iload_n 1, 1) := by decide +kernel
theorem dX6_hasSealed_14 : decode cX6_hasSealed 14 = .ok (.iload_n 2, 1) := by decide +kernel
theorem dX6_hasSealed_15 : decode cX6_hasSealed 15 = .ok (.invokestatic 205, 3) := by decide +kernel
theorem dX6_hasSealed_18 : decode cX6_hasSealed 18 = .ok (.ifCond .eq 26, 3) := by decide +kernel
theorem dX6_hasSealed_21 : decode cX6_hasSealed 21 = .ok (.aload_n 0, 1) := by decide +kernel
theorem dX6_hasSealed_22 : decode cX6_hasSealed 22 = .ok (.getfield 10, 3) := by decide +kernel
theorem dX6_hasSealed_25 : decode cX6_hasSealed 25 = .ok (.iload_n 2, 1) := by decide +kernel
theorem dX6_hasSealed_26 : decode cX6_hasSealed 26 = .ok (.invokevirtual 68, 3) := by decide +kernel
theorem dX6_hasSealed_29 : decode cX6_hasSealed 29 = .ok (.checkcast 51, 3) := by decide +kernel
theorem dX6_hasSealed_32 : decode cX6_hasSealed 32 = .ok (.aload_n 0, 1) := by decide +kernel
theorem dX6_hasSealed_33 : decode cX6_hasSealed 33 = .ok (.getfield 108, 3) := by decide +kernel
theorem dX6_hasSealed_36 : decode cX6_hasSealed 36 = .ok (.invokevirtual 175, 3) := by decide +kernel
theorem dX6_hasSealed_39 : decode cX6_hasSealed 39 = .ok (.ifCond .eq 5, 3) := by decide +kernel
theorem dX6_hasSealed_42 : decode cX6_hasSealed 42 = .ok (.iconst 1, 1) := by decide +kernel
theorem dX6_hasSealed_43 : decode cX6_hasSealed 43 = .ok (.ireturn, 1) := by decide +kernel
theorem dX6_hasSealed_44 : decode cX6_hasSealed 44 = .ok (.iinc 2 1, 3) := by decide +kernel
theorem dX6_hasSealed_47 : decode cX6_hasSealed 47 = .ok (.goto (-45), 3) := by decide +kernel
theorem dX6_hasSealed_50 : decode cX6_hasSealed 50 = .ok (.iconst 0, 1) := by decide +kernel
theorem dX6_hasSealed_51 : decode cX6_hasSealed 51 = .ok (.ireturn, 1) := by decide +kernel
theorem dX6_sumOf_0 : decode cX6_sumOf 0 = .ok (.iconst 0, 1) := by decide +kernel
theorem dX6_sumOf_1 : decode cX6_sumOf 1 = .ok (.istore_n 3, 1) := by decide +kernel
theorem dX6_sumOf_2 : decode cX6_sumOf 2 = .ok (.iconst 0, 1) := by decide +kernel
theorem dX6_sumOf_3 : decode cX6_sumOf 3 = .ok (.istore 4, 2) := by decide +kernel
theorem dX6_sumOf_5 : decode cX6_sumOf 5 = .ok (.iload 4, 2) := by decide +kernel
theorem dX6_sumOf_7 : decode cX6_sumOf 7 = .ok (.aload_n 0, 1) := by decide +kernel
theorem dX6_sumOf_8 : decode cX6_sumOf 8 = .ok (.getfield 10, 3) := by decide +kernel
theorem dX6_sumOf_11 : decode cX6_sumOf 11 = .ok (.invokevirtual 40, 3) := by decide +kernel
theorem dX6_sumOf_14 : decode cX6_sumOf 14 = .ok (.if_icmp .ge 36, 3) := by decide +kernel
theorem dX6_sumOf_17 : decode cX6_sumOf 17 = .ok (.iload_n 1, 1) := by decide +kernel
theorem dX6_sumOf_18 : decode cX6_sumOf 18 = .ok (.iload 4, 2) := by decide +kernel
theorem dX6_sumOf_20 : decode cX6_sumOf 20 = .ok (.invokestatic 205, 3) := by decide +kernel
theorem dX6_sumOf_23 : decode cX6_sumOf 23 = .ok (.ifCond .eq 21, 3) := by decide +kernel
theorem dX6_sumOf_26 : decode cX6_sumOf 26 = .ok (.iload_n 3, 1) := by decide +kernel
theorem dX6_sumOf_27 : decode cX6_sumOf 27 = .ok (.aload_n 0, 1) := by decide +kernel
theorem dX6_sumOf_28 : decode cX6_sumOf 28 = .ok (.getfield 10, 3) := by decide +kernel
theorem dX6_sumOf_31 : decode cX6_sumOf 31 = .ok (.iload 4, 2) := by decide +kernel
theorem dX6_sumOf_33 : decode cX6_sumOf 33 = .ok (.invokevirtual 68, 3) := by decide +kernel
theorem dX6_sumOf_36 : decode cX6_sumOf 36 = .ok (.checkcast 51, 3) := by decide +kernel
theorem dX6_sumOf_39 : decode cX6_sumOf 39 = .ok (.getfield 64, 3) := by decide +kernel
theorem dX6_sumOf_42 : decode cX6_sumOf 42 = .ok (.ixor, 1) := by decide +kernel
theorem dX6_sumOf_43 : decode cX6_sumOf 43 = .ok (.istore_n 3, 1) := by decide +kernel
theorem dX6_sumOf_44 : decode cX6_sumOf 44 = .ok (.iinc 4 1, 3) := by decide +kernel
theorem dX6_sumOf_47 : decode cX6_sumOf 47 = .ok (.goto (-42), 3) := by decide +kernel
theorem dX6_sumOf_50 : decode cX6_sumOf 50 = .ok (.iload_n 2, 1) := by decide +kernel
theorem dX6_sumOf_51 : decode cX6_sumOf 51 = .ok (.iconst (-1), 1) := by decide +kernel
theorem dX6_sumOf_52 : decode cX6_sumOf 52 = .ok (.if_icmp .ne 7, 3) := by decide +kernel
theorem dX6_sumOf_55 : decode cX6_sumOf 55 = .ok (.iload_n 3, 1) := by decide +kernel
theorem dX6_sumOf_56 : decode cX6_sumOf 56 = .ok (.goto 8, 3) := by decide +kernel
theorem dX6_sumOf_59 : decode cX6_sumOf 59 = .ok (.iload_n 3, 1) := by decide +kernel
theorem dX6_sumOf_60 : decode cX6_sumOf 60 = .ok (.iload_n 2, 1) := by decide +kernel
theorem dX6_sumOf_61 : decode cX6_sumOf 61 = .ok (.ishr, 1) := by decide +kernel
theorem dX6_sumOf_62 : decode cX6_sumOf 62 = .ok (.iconst 1, 1) := by decide +kernel
theorem dX6_sumOf_63 : decode cX6_sumOf 63 = .ok (.iand, 1) := by decide +kernel
theorem dX6_sumOf_64 : decode cX6_sumOf 64 = .ok (.ireturn, 1) := by decide +kernel
theorem dX6_recall_0 : decode cX6_recall 0 = .ok (.iconst 0, 1) := by decide +kernel
theorem dX6_recall_1 : decode cX6_recall 1 = .ok (.istore_n 3, 1) := by decide +kernel
theorem dX6_recall_2 : decode cX6_recall 2 = .ok (.iconst 0, 1) := by decide +kernel
theorem dX6_recall_3 : decode cX6_recall 3 = .ok (.istore 4, 2) := by decide +kernel
theorem dX6_recall_5 : decode cX6_recall 5 = .ok (.iload 4, 2) := by decide +kernel
theorem dX6_recall_7 : decode cX6_recall 7 = .ok (.aload_n 0, 1) := by decide +kernel
theorem dX6_recall_8 : decode cX6_recall 8 = .ok (.getfield 19, 3) := by decide +kernel
theorem dX6_recall_11 : decode cX6_recall 11 = .ok (.invokevirtual 40, 3) := by decide +kernel
theorem dX6_recall_14 : decode cX6_recall 14 = .ok (.if_icmp .ge 53, 3) := by decide +kernel
theorem dX6_recall_17 : decode cX6_recall 17 = .ok (.aload_n 0, 1) := by decide +kernel
theorem dX6_recall_18 : decode cX6_recall 18 = .ok (.getfield 19, 3) := by decide +kernel
theorem dX6_recall_21 : decode cX6_recall 21 = .ok (.iload 4, 2) := by decide +kernel
theorem dX6_recall_23 : decode cX6_recall 23 = .ok (.invokevirtual 68, 3) := by decide +kernel
theorem dX6_recall_26 : decode cX6_recall 26 = .ok (.checkcast 129, 3) := by decide +kernel
theorem dX6_recall_29 : decode cX6_recall 29 = .ok (.astore 5, 2) := by decide +kernel
theorem dX6_recall_31 : decode cX6_recall 31 = .ok (.aload 5, 2) := by decide +kernel
theorem dX6_recall_33 : decode cX6_recall 33 = .ok (.aload_n 1, 1) := by decide +kernel
theorem dX6_recall_34 : decode cX6_recall 34 = .ok (.invokevirtual 209, 3) := by decide +kernel
theorem dX6_recall_37 : decode cX6_recall 37 = .ok (.ifCond .eq 24, 3) := by decide +kernel
theorem dX6_recall_40 : decode cX6_recall 40 = .ok (.aload 5, 2) := by decide +kernel
theorem dX6_recall_42 : decode cX6_recall 42 = .ok (.getfield 213, 3) := by decide +kernel
theorem dX6_recall_45 : decode cX6_recall 45 = .ok (.iload_n 2, 1) := by decide +kernel
theorem dX6_recall_46 : decode cX6_recall 46 = .ok (.invokestatic 205, 3) := by decide +kernel
theorem dX6_recall_49 : decode cX6_recall 49 = .ok (.ifCond .eq 12, 3) := by decide +kernel
theorem dX6_recall_52 : decode cX6_recall 52 = .ok (.aload 5, 2) := by decide +kernel
theorem dX6_recall_54 : decode cX6_recall 54 = .ok (.iconst 1, 1) := by decide +kernel
theorem dX6_recall_55 : decode cX6_recall 55 = .ok (.putfield 216, 3) := by decide +kernel
theorem dX6_recall_58 : decode cX6_recall 58 = .ok (.iinc 3 1, 3) := by decide +kernel
theorem dX6_recall_61 : decode cX6_recall 61 = .ok (.iinc 4 1, 3) := by decide +kernel
theorem dX6_recall_64 : decode cX6_recall 64 = .ok (.goto (-59), 3) := by decide +kernel
theorem dX6_recall_67 : decode cX6_recall 67 = .ok (.iload_n 3, 1) := by decide +kernel
theorem dX6_recall_68 : decode cX6_recall 68 = .ok (.ifCond .le 8, 3) := by decide +kernel
theorem dX6_recall_71 : decode cX6_recall 71 = .ok (.aload_n 0, 1) := by decide +kernel
theorem dX6_recall_72 : decode cX6_recall 72 = .ok (.aload_n 1, 1) := by decide +kernel
theorem dX6_recall_73 : decode cX6_recall 73 = .ok (.invokevirtual 220, 3) := by decide +kernel
theorem dX6_recall_76 : decode cX6_recall 76 = .ok (.iload_n 3, 1) := by decide +kernel
theorem dX6_recall_77 : decode cX6_recall 77 = .ok (.ireturn, 1) := by decide +kernel
theorem dX6_learnAnew_0 : decode cX6_learnAnew 0 = .ok (.aload_n 1, 1) := by decide +kernel
theorem dX6_learnAnew_1 : decode cX6_learnAnew 1 = .ok (.invokevirtual 224, 3) := by decide +kernel
theorem dX6_learnAnew_4 : decode cX6_learnAnew 4 = .ok (.iconst 0, 1) := by decide +kernel
theorem dX6_learnAnew_5 : decode cX6_learnAnew 5 = .ok (.istore_n 2, 1) := by decide +kernel
theorem dX6_learnAnew_6 : decode cX6_learnAnew 6 = .ok (.iload_n 2, 1) := by decide +kernel
theorem dX6_learnAnew_7 : decode cX6_learnAnew 7 = .ok (.aload_n 0, 1) := by decide +kernel
theorem dX6_learnAnew_8 : decode cX6_learnAnew 8 = .ok (.getfield 19, 3) := by decide +kernel
theorem dX6_learnAnew_11 : decode cX6_learnAnew 11 = .ok (.invokevirtual 40, 3) := by decide +kernel
theorem dX6_learnAnew_14 : decode cX6_learnAnew 14 = .ok (.if_icmp .ge 41, 3) := by decide +kernel
theorem dX6_learnAnew_17 : decode cX6_learnAnew 17 = .ok (.aload_n 0, 1) := by decide +kernel
theorem dX6_learnAnew_18 : decode cX6_learnAnew 18 = .ok (.getfield 19, 3) := by decide +kernel
theorem dX6_learnAnew_21 : decode cX6_learnAnew 21 = .ok (.iload_n 2, 1) := by decide +kernel
theorem dX6_learnAnew_22 : decode cX6_learnAnew 22 = .ok (.invokevirtual 68, 3) := by decide +kernel
theorem dX6_learnAnew_25 : decode cX6_learnAnew 25 = .ok (.checkcast 129, 3) := by decide +kernel
theorem dX6_learnAnew_28 : decode cX6_learnAnew 28 = .ok (.astore_n 3, 1) := by decide +kernel
theorem dX6_learnAnew_29 : decode cX6_learnAnew 29 = .ok (.aload_n 3, 1) := by decide +kernel
theorem dX6_learnAnew_30 : decode cX6_learnAnew 30 = .ok (.aload_n 1, 1) := by decide +kernel
theorem dX6_learnAnew_31 : decode cX6_learnAnew 31 = .ok (.invokevirtual 209, 3) := by decide +kernel
theorem dX6_learnAnew_34 : decode cX6_learnAnew 34 = .ok (.ifCond .eq 15, 3) := by decide +kernel
theorem dX6_learnAnew_37 : decode cX6_learnAnew 37 = .ok (.aload_n 1, 1) := by decide +kernel
theorem dX6_learnAnew_38 : decode cX6_learnAnew 38 = .ok (.aload_n 3, 1) := by decide +kernel
theorem dX6_learnAnew_39 : decode cX6_learnAnew 39 = .ok (.getfield 213, 3) := by decide +kernel
theorem dX6_learnAnew_42 : decode cX6_learnAnew 42 = .ok (.aload_n 3, 1) := by decide +kernel
theorem dX6_learnAnew_43 : decode cX6_learnAnew 43 = .ok (.getfield 227, 3) := by decide +kernel
theorem dX6_learnAnew_46 : decode cX6_learnAnew 46 = .ok (.invokevirtual 137, 3) := by decide +kernel
theorem dX6_learnAnew_49 : decode cX6_learnAnew 49 = .ok (.iinc 2 1, 3) := by decide +kernel
theorem dX6_learnAnew_52 : decode cX6_learnAnew 52 = .ok (.goto (-46), 3) := by decide +kernel
theorem dX6_learnAnew_55 : decode cX6_learnAnew 55 = .ok (.return_, 1) := by decide +kernel
theorem dX6_countStanding_0 : decode cX6_countStanding 0 = .ok (.iconst 0, 1) := by decide +kernel
theorem dX6_countStanding_1 : decode cX6_countStanding 1 = .ok (.istore_n 2, 1) := by decide +kernel
theorem dX6_countStanding_2 : decode cX6_countStanding 2 = .ok (.iconst 0, 1) := by decide +kernel
theorem dX6_countStanding_3 : decode cX6_countStanding 3 = .ok (.istore_n 3, 1) := by decide +kernel
theorem dX6_countStanding_4 : decode cX6_countStanding 4 = .ok (.iload_n 3, 1) := by decide +kernel
theorem dX6_countStanding_5 : decode cX6_countStanding 5 = .ok (.aload_n 0, 1) := by decide +kernel
theorem dX6_countStanding_6 : decode cX6_countStanding 6 = .ok (.getfield 19, 3) := by decide +kernel
theorem dX6_countStanding_9 : decode cX6_countStanding 9 = .ok (.invokevirtual 40, 3) := by decide +kernel
theorem dX6_countStanding_12 : decode cX6_countStanding 12 = .ok (.if_icmp .ge 30, 3) := by decide +kernel
theorem dX6_countStanding_15 : decode cX6_countStanding 15 = .ok (.aload_n 0, 1) := by decide +kernel
theorem dX6_countStanding_16 : decode cX6_countStanding 16 = .ok (.getfield 19, 3) := by decide +kernel
theorem dX6_countStanding_19 : decode cX6_countStanding 19 = .ok (.iload_n 3, 1) := by decide +kernel
theorem dX6_countStanding_20 : decode cX6_countStanding 20 = .ok (.invokevirtual 68, 3) := by decide +kernel
theorem dX6_countStanding_23 : decode cX6_countStanding 23 = .ok (.checkcast 129, 3) := by decide +kernel
theorem dX6_countStanding_26 : decode cX6_countStanding 26 = .ok (.aload_n 1, 1) := by decide +kernel
theorem dX6_countStanding_27 : decode cX6_countStanding 27 = .ok (.invokevirtual 209, 3) := by decide +kernel
theorem dX6_countStanding_30 : decode cX6_countStanding 30 = .ok (.ifCond .eq 6, 3) := by decide +kernel
theorem dX6_countStanding_33 : decode cX6_countStanding 33 = .ok (.iinc 2 1, 3) := by decide +kernel
theorem dX6_countStanding_36 : decode cX6_countStanding 36 = .ok (.iinc 3 1, 3) := by decide +kernel
theorem dX6_countStanding_39 : decode cX6_countStanding 39 = .ok (.goto (-35), 3) := by decide +kernel
theorem dX6_countStanding_42 : decode cX6_countStanding 42 = .ok (.iload_n 2, 1) := by decide +kernel
theorem dX6_countStanding_43 : decode cX6_countStanding 43 = .ok (.ireturn, 1) := by decide +kernel
theorem dX6_countKnownSets_0 : decode cX6_countKnownSets 0 = .ok (.aload_n 0, 1) := by decide +kernel
theorem dX6_countKnownSets_1 : decode cX6_countKnownSets 1 = .ok (.getfield 32, 3) := by decide +kernel
theorem dX6_countKnownSets_4 : decode cX6_countKnownSets 4 = .ok (.aload_n 0, 1) := by decide +kernel
theorem dX6_countKnownSets_5 : decode cX6_countKnownSets 5 = .ok (.getfield 10, 3) := by decide +kernel
theorem dX6_countKnownSets_8 : decode cX6_countKnownSets 8 = .ok (.invokevirtual 40, 3) := by decide +kernel
theorem dX6_countKnownSets_11 : decode cX6_countKnownSets 11 = .ok (.invokevirtual 230, 3) := by decide +kernel
theorem dX6_countKnownSets_14 : decode cX6_countKnownSets 14 = .ok (.iconst 0, 1) := by decide +kernel
theorem dX6_countKnownSets_15 : decode cX6_countKnownSets 15 = .ok (.istore_n 3, 1) := by decide +kernel
theorem dX6_countKnownSets_16 : decode cX6_countKnownSets 16 = .ok (.iload_n 3, 1) := by decide +kernel
theorem dX6_countKnownSets_17 : decode cX6_countKnownSets 17 = .ok (.aload_n 0, 1) := by decide +kernel
theorem dX6_countKnownSets_18 : decode cX6_countKnownSets 18 = .ok (.getfield 19, 3) := by decide +kernel
theorem dX6_countKnownSets_21 : decode cX6_countKnownSets 21 = .ok (.invokevirtual 40, 3) := by decide +kernel
theorem dX6_countKnownSets_24 : decode cX6_countKnownSets 24 = .ok (.if_icmp .ge 55, 3) := by decide +kernel
theorem dX6_countKnownSets_27 : decode cX6_countKnownSets 27 = .ok (.aload_n 0, 1) := by decide +kernel
theorem dX6_countKnownSets_28 : decode cX6_countKnownSets 28 = .ok (.getfield 19, 3) := by decide +kernel
theorem dX6_countKnownSets_31 : decode cX6_countKnownSets 31 = .ok (.iload_n 3, 1) := by decide +kernel
theorem dX6_countKnownSets_32 : decode cX6_countKnownSets 32 = .ok (.invokevirtual 68, 3) := by decide +kernel
theorem dX6_countKnownSets_35 : decode cX6_countKnownSets 35 = .ok (.checkcast 129, 3) := by decide +kernel
theorem dX6_countKnownSets_38 : decode cX6_countKnownSets 38 = .ok (.astore 4, 2) := by decide +kernel
theorem dX6_countKnownSets_40 : decode cX6_countKnownSets 40 = .ok (.aload 4, 2) := by decide +kernel
theorem dX6_countKnownSets_42 : decode cX6_countKnownSets 42 = .ok (.aload_n 1, 1) := by decide +kernel
theorem dX6_countKnownSets_43 : decode cX6_countKnownSets 43 = .ok (.invokevirtual 209, 3) := by decide +kernel
theorem dX6_countKnownSets_46 : decode cX6_countKnownSets 46 = .ok (.ifCond .eq 27, 3) := by decide +kernel
theorem dX6_countKnownSets_49 : decode cX6_countKnownSets 49 = .ok (.aload 4, 2) := by decide +kernel
theorem dX6_countKnownSets_51 : decode cX6_countKnownSets 51 = .ok (.getfield 227, 3) := by decide +kernel
theorem dX6_countKnownSets_54 : decode cX6_countKnownSets 54 = .ok (.iload_n 2, 1) := by decide +kernel
theorem dX6_countKnownSets_55 : decode cX6_countKnownSets 55 = .ok (.invokestatic 233, 3) := by decide +kernel
theorem dX6_countKnownSets_58 : decode cX6_countKnownSets 58 = .ok (.ifCond .eq 15, 3) := by decide +kernel
theorem dX6_countKnownSets_61 : decode cX6_countKnownSets 61 = .ok (.aload_n 0, 1) := by decide +kernel
theorem dX6_countKnownSets_62 : decode cX6_countKnownSets 62 = .ok (.getfield 32, 3) := by decide +kernel
theorem dX6_countKnownSets_65 : decode cX6_countKnownSets 65 = .ok (.aload 4, 2) := by decide +kernel
theorem dX6_countKnownSets_67 : decode cX6_countKnownSets 67 = .ok (.getfield 213, 3) := by decide +kernel
theorem dX6_countKnownSets_70 : decode cX6_countKnownSets 70 = .ok (.invokevirtual 236, 3) := by decide +kernel
theorem dX6_countKnownSets_73 : decode cX6_countKnownSets 73 = .ok (.iinc 3 1, 3) := by decide +kernel
theorem dX6_countKnownSets_76 : decode cX6_countKnownSets 76 = .ok (.goto (-60), 3) := by decide +kernel
theorem dX6_countKnownSets_79 : decode cX6_countKnownSets 79 = .ok (.aload_n 0, 1) := by decide +kernel
theorem dX6_countKnownSets_80 : decode cX6_countKnownSets 80 = .ok (.getfield 32, 3) := by decide +kernel
theorem dX6_countKnownSets_83 : decode cX6_countKnownSets 83 = .ok (.invokevirtual 238, 3) := by decide +kernel
theorem dX6_countKnownSets_86 : decode cX6_countKnownSets 86 = .ok (.ireturn, 1) := by decide +kernel
theorem dX6_generatorsOf_0 : decode cX6_generatorsOf 0 = .ok (.iconst 0, 1) := by decide +kernel
theorem dX6_generatorsOf_1 : decode cX6_generatorsOf 1 = .ok (.istore_n 1, 1) := by decide +kernel
theorem dX6_generatorsOf_2 : decode cX6_generatorsOf 2 = .ok (.iload_n 0, 1) := by decide +kernel
theorem dX6_generatorsOf_3 : decode cX6_generatorsOf 3 = .ok (.istore_n 2, 1) := by decide +kernel
theorem dX6_generatorsOf_4 : decode cX6_generatorsOf 4 = .ok (.iload_n 2, 1) := by decide +kernel
theorem dX6_generatorsOf_5 : decode cX6_generatorsOf 5 = .ok (.iconst 1, 1) := by decide +kernel
theorem dX6_generatorsOf_6 : decode cX6_generatorsOf 6 = .ok (.if_icmp .le 13, 3) := by decide +kernel
theorem dX6_generatorsOf_9 : decode cX6_generatorsOf 9 = .ok (.iinc 1 1, 3) := by decide +kernel
theorem dX6_generatorsOf_12 : decode cX6_generatorsOf 12 = .ok (.iload_n 2, 1) := by decide +kernel
theorem dX6_generatorsOf_13 : decode cX6_generatorsOf 13 = .ok (.iconst 1, 1) := by decide +kernel
theorem dX6_generatorsOf_14 : decode cX6_generatorsOf 14 = .ok (.ishr, 1) := by decide +kernel
theorem dX6_generatorsOf_15 : decode cX6_generatorsOf 15 = .ok (.istore_n 2, 1) := by decide +kernel
theorem dX6_generatorsOf_16 : decode cX6_generatorsOf 16 = .ok (.goto (-12), 3) := by decide +kernel
theorem dX6_generatorsOf_19 : decode cX6_generatorsOf 19 = .ok (.iload_n 1, 1) := by decide +kernel
theorem dX6_generatorsOf_20 : decode cX6_generatorsOf 20 = .ok (.ireturn, 1) := by decide +kernel
theorem dX6_shareKnowledge_0 : decode cX6_shareKnowledge 0 = .ok (.aload_n 0, 1) := by decide +kernel
theorem dX6_shareKnowledge_1 : decode cX6_shareKnowledge 1 = .ok (.getfield 25, 3) := by decide +kernel
theorem dX6_shareKnowledge_4 : decode cX6_shareKnowledge 4 = .ok (.invokevirtual 241, 3) := by decide +kernel
theorem dX6_shareKnowledge_7 : decode cX6_shareKnowledge 7 = .ok (.iconst 0, 1) := by decide +kernel
theorem dX6_shareKnowledge_8 : decode cX6_shareKnowledge 8 = .ok (.istore_n 3, 1) := by decide +kernel
theorem dX6_shareKnowledge_9 : decode cX6_shareKnowledge 9 = .ok (.iload_n 3, 1) := by decide +kernel
theorem dX6_shareKnowledge_10 : decode cX6_shareKnowledge 10 = .ok (.aload_n 0, 1) := by decide +kernel
theorem dX6_shareKnowledge_11 : decode cX6_shareKnowledge 11 = .ok (.getfield 16, 3) := by decide +kernel
theorem dX6_shareKnowledge_14 : decode cX6_shareKnowledge 14 = .ok (.invokevirtual 40, 3) := by decide +kernel
theorem dX6_shareKnowledge_17 : decode cX6_shareKnowledge 17 = .ok (.if_icmp .ge 54, 3) := by decide +kernel
theorem dX6_shareKnowledge_20 : decode cX6_shareKnowledge 20 = .ok (.aload_n 0, 1) := by decide +kernel
theorem dX6_shareKnowledge_21 : decode cX6_shareKnowledge 21 = .ok (.getfield 16, 3) := by decide +kernel
theorem dX6_shareKnowledge_24 : decode cX6_shareKnowledge 24 = .ok (.iload_n 3, 1) := by decide +kernel
theorem dX6_shareKnowledge_25 : decode cX6_shareKnowledge 25 = .ok (.invokevirtual 68, 3) := by decide +kernel
theorem dX6_shareKnowledge_28 : decode cX6_shareKnowledge 28 = .ok (.checkcast 72, 3) := by decide +kernel
theorem dX6_shareKnowledge_31 : decode cX6_shareKnowledge 31 = .ok (.astore 4, 2) := by decide +kernel
theorem dX6_shareKnowledge_33 : decode cX6_shareKnowledge 33 = .ok (.iload_n 1, 1) := by decide +kernel
theorem dX6_shareKnowledge_34 : decode cX6_shareKnowledge 34 = .ok (.iload_n 3, 1) := by decide +kernel
theorem dX6_shareKnowledge_35 : decode cX6_shareKnowledge 35 = .ok (.invokestatic 205, 3) := by decide +kernel
theorem dX6_shareKnowledge_38 : decode cX6_shareKnowledge 38 = .ok (.ifCond .eq 27, 3) := by decide +kernel
theorem dX6_shareKnowledge_41 : decode cX6_shareKnowledge 41 = .ok (.iload_n 2, 1) := by decide +kernel
theorem dX6_shareKnowledge_42 : decode cX6_shareKnowledge 42 = .ok (.aload 4, 2) := by decide +kernel
theorem dX6_shareKnowledge_44 : decode cX6_shareKnowledge 44 = .ok (.getfield 161, 3) := by decide +kernel
theorem dX6_shareKnowledge_47 : decode cX6_shareKnowledge 47 = .ok (.arraylength, 1) := by decide +kernel
theorem dX6_shareKnowledge_48 : decode cX6_shareKnowledge 48 = .ok (.if_icmp .ge 17, 3) := by decide +kernel
theorem dX6_shareKnowledge_51 : decode cX6_shareKnowledge 51 = .ok (.aload_n 0, 1) := by decide +kernel
theorem dX6_shareKnowledge_52 : decode cX6_shareKnowledge 52 = .ok (.getfield 25, 3) := by decide +kernel
theorem dX6_shareKnowledge_55 : decode cX6_shareKnowledge 55 = .ok (.aload 4, 2) := by decide +kernel
theorem dX6_shareKnowledge_57 : decode cX6_shareKnowledge 57 = .ok (.getfield 161, 3) := by decide +kernel
theorem dX6_shareKnowledge_60 : decode cX6_shareKnowledge 60 = .ok (.iload_n 2, 1) := by decide +kernel
theorem dX6_shareKnowledge_61 : decode cX6_shareKnowledge 61 = .ok (.aaload, 1) := by decide +kernel
theorem dX6_shareKnowledge_62 : decode cX6_shareKnowledge 62 = .ok (.invokevirtual 242, 3) := by decide +kernel
theorem dX6_shareKnowledge_65 : decode cX6_shareKnowledge 65 = .ok (.iinc 3 1, 3) := by decide +kernel
theorem dX6_shareKnowledge_68 : decode cX6_shareKnowledge 68 = .ok (.goto (-59), 3) := by decide +kernel
theorem dX6_shareKnowledge_71 : decode cX6_shareKnowledge 71 = .ok (.return_, 1) := by decide +kernel
theorem dJ13_bitCount_95d88_0 : decode cJ13_bitCount_95d88 0 = .ok (.lload_n 0, 1) := by decide +kernel
theorem dJ13_bitCount_95d88_1 : decode cJ13_bitCount_95d88 1 = .ok (.lload_n 0, 1) := by decide +kernel
theorem dJ13_bitCount_95d88_2 : decode cJ13_bitCount_95d88 2 = .ok (.iconst 1, 1) := by decide +kernel
theorem dJ13_bitCount_95d88_3 : decode cJ13_bitCount_95d88 3 = .ok (.lushr, 1) := by decide +kernel
theorem dJ13_bitCount_95d88_4 : decode cJ13_bitCount_95d88 4 = .ok (.ldc2_w 314, 3) := by decide +kernel
theorem dJ13_bitCount_95d88_7 : decode cJ13_bitCount_95d88 7 = .ok (.land, 1) := by decide +kernel
theorem dJ13_bitCount_95d88_8 : decode cJ13_bitCount_95d88 8 = .ok (.lsub, 1) := by decide +kernel
theorem dJ13_bitCount_95d88_9 : decode cJ13_bitCount_95d88 9 = .ok (.lstore_n 0, 1) := by decide +kernel
theorem dJ13_bitCount_95d88_10 : decode cJ13_bitCount_95d88 10 = .ok (.lload_n 0, 1) := by decide +kernel
theorem dJ13_bitCount_95d88_11 : decode cJ13_bitCount_95d88 11 = .ok (.ldc2_w 316, 3) := by decide +kernel
theorem dJ13_bitCount_95d88_14 : decode cJ13_bitCount_95d88 14 = .ok (.land, 1) := by decide +kernel
theorem dJ13_bitCount_95d88_15 : decode cJ13_bitCount_95d88 15 = .ok (.lload_n 0, 1) := by decide +kernel
theorem dJ13_bitCount_95d88_16 : decode cJ13_bitCount_95d88 16 = .ok (.iconst 2, 1) := by decide +kernel
theorem dJ13_bitCount_95d88_17 : decode cJ13_bitCount_95d88 17 = .ok (.lushr, 1) := by decide +kernel
theorem dJ13_bitCount_95d88_18 : decode cJ13_bitCount_95d88 18 = .ok (.ldc2_w 316, 3) := by decide +kernel
theorem dJ13_bitCount_95d88_21 : decode cJ13_bitCount_95d88 21 = .ok (.land, 1) := by decide +kernel
theorem dJ13_bitCount_95d88_22 : decode cJ13_bitCount_95d88 22 = .ok (.ladd, 1) := by decide +kernel
theorem dJ13_bitCount_95d88_23 : decode cJ13_bitCount_95d88 23 = .ok (.lstore_n 0, 1) := by decide +kernel
theorem dJ13_bitCount_95d88_24 : decode cJ13_bitCount_95d88 24 = .ok (.lload_n 0, 1) := by decide +kernel
theorem dJ13_bitCount_95d88_25 : decode cJ13_bitCount_95d88 25 = .ok (.lload_n 0, 1) := by decide +kernel
theorem dJ13_bitCount_95d88_26 : decode cJ13_bitCount_95d88 26 = .ok (.iconst 4, 1) := by decide +kernel
theorem dJ13_bitCount_95d88_27 : decode cJ13_bitCount_95d88 27 = .ok (.lushr, 1) := by decide +kernel
theorem dJ13_bitCount_95d88_28 : decode cJ13_bitCount_95d88 28 = .ok (.ladd, 1) := by decide +kernel
theorem dJ13_bitCount_95d88_29 : decode cJ13_bitCount_95d88 29 = .ok (.ldc2_w 318, 3) := by decide +kernel
theorem dJ13_bitCount_95d88_32 : decode cJ13_bitCount_95d88 32 = .ok (.land, 1) := by decide +kernel
theorem dJ13_bitCount_95d88_33 : decode cJ13_bitCount_95d88 33 = .ok (.lstore_n 0, 1) := by decide +kernel
theorem dJ13_bitCount_95d88_34 : decode cJ13_bitCount_95d88 34 = .ok (.lload_n 0, 1) := by decide +kernel
theorem dJ13_bitCount_95d88_35 : decode cJ13_bitCount_95d88 35 = .ok (.lload_n 0, 1) := by decide +kernel
theorem dJ13_bitCount_95d88_36 : decode cJ13_bitCount_95d88 36 = .ok (.bipush 8, 2) := by decide +kernel
theorem dJ13_bitCount_95d88_38 : decode cJ13_bitCount_95d88 38 = .ok (.lushr, 1) := by decide +kernel
theorem dJ13_bitCount_95d88_39 : decode cJ13_bitCount_95d88 39 = .ok (.ladd, 1) := by decide +kernel
theorem dJ13_bitCount_95d88_40 : decode cJ13_bitCount_95d88 40 = .ok (.lstore_n 0, 1) := by decide +kernel
theorem dJ13_bitCount_95d88_41 : decode cJ13_bitCount_95d88 41 = .ok (.lload_n 0, 1) := by decide +kernel
theorem dJ13_bitCount_95d88_42 : decode cJ13_bitCount_95d88 42 = .ok (.lload_n 0, 1) := by decide +kernel
theorem dJ13_bitCount_95d88_43 : decode cJ13_bitCount_95d88 43 = .ok (.bipush 16, 2) := by decide +kernel
theorem dJ13_bitCount_95d88_45 : decode cJ13_bitCount_95d88 45 = .ok (.lushr, 1) := by decide +kernel
theorem dJ13_bitCount_95d88_46 : decode cJ13_bitCount_95d88 46 = .ok (.ladd, 1) := by decide +kernel
theorem dJ13_bitCount_95d88_47 : decode cJ13_bitCount_95d88 47 = .ok (.lstore_n 0, 1) := by decide +kernel
theorem dJ13_bitCount_95d88_48 : decode cJ13_bitCount_95d88 48 = .ok (.lload_n 0, 1) := by decide +kernel
theorem dJ13_bitCount_95d88_49 : decode cJ13_bitCount_95d88 49 = .ok (.lload_n 0, 1) := by decide +kernel
theorem dJ13_bitCount_95d88_50 : decode cJ13_bitCount_95d88 50 = .ok (.bipush 32, 2) := by decide +kernel
theorem dJ13_bitCount_95d88_52 : decode cJ13_bitCount_95d88 52 = .ok (.lushr, 1) := by decide +kernel
theorem dJ13_bitCount_95d88_53 : decode cJ13_bitCount_95d88 53 = .ok (.ladd, 1) := by decide +kernel
theorem dJ13_bitCount_95d88_54 : decode cJ13_bitCount_95d88 54 = .ok (.lstore_n 0, 1) := by decide +kernel
theorem dJ13_bitCount_95d88_55 : decode cJ13_bitCount_95d88 55 = .ok (.lload_n 0, 1) := by decide +kernel
theorem dJ13_bitCount_95d88_56 : decode cJ13_bitCount_95d88 56 = .ok (.l2i, 1) := by decide +kernel
theorem dJ13_bitCount_95d88_57 : decode cJ13_bitCount_95d88 57 = .ok (.bipush 127, 2) := by decide +kernel
theorem dJ13_bitCount_95d88_59 : decode cJ13_bitCount_95d88 59 = .ok (.iand, 1) := by decide +kernel
theorem dJ13_bitCount_95d88_60 : decode cJ13_bitCount_95d88 60 = .ok (.ireturn, 1) := by decide +kernel
theorem dJ9_max_7cf53_0 : decode cJ9_max_7cf53 0 = .ok (.iload_n 0, 1) := by decide +kernel
theorem dJ9_max_7cf53_1 : decode cJ9_max_7cf53 1 = .ok (.iload_n 1, 1) := by decide +kernel
theorem dJ9_max_7cf53_2 : decode cJ9_max_7cf53 2 = .ok (.if_icmp .lt 7, 3) := by decide +kernel
theorem dJ9_max_7cf53_5 : decode cJ9_max_7cf53 5 = .ok (.iload_n 0, 1) := by decide +kernel
theorem dJ9_max_7cf53_6 : decode cJ9_max_7cf53 6 = .ok (.goto 4, 3) := by decide +kernel
theorem dJ9_max_7cf53_9 : decode cJ9_max_7cf53 9 = .ok (.iload_n 1, 1) := by decide +kernel
theorem dJ9_max_7cf53_10 : decode cJ9_max_7cf53 10 = .ok (.ireturn, 1) := by decide +kernel
theorem dJ9_min_7cf53_0 : decode cJ9_min_7cf53 0 = .ok (.iload_n 0, 1) := by decide +kernel
theorem dJ9_min_7cf53_1 : decode cJ9_min_7cf53 1 = .ok (.iload_n 1, 1) := by decide +kernel
theorem dJ9_min_7cf53_2 : decode cJ9_min_7cf53 2 = .ok (.if_icmp .gt 7, 3) := by decide +kernel
theorem dJ9_min_7cf53_5 : decode cJ9_min_7cf53 5 = .ok (.iload_n 0, 1) := by decide +kernel
theorem dJ9_min_7cf53_6 : decode cJ9_min_7cf53 6 = .ok (.goto 4, 3) := by decide +kernel
theorem dJ9_min_7cf53_9 : decode cJ9_min_7cf53 9 = .ok (.iload_n 1, 1) := by decide +kernel
theorem dJ9_min_7cf53_10 : decode cJ9_min_7cf53 10 = .ok (.ireturn, 1) := by decide +kernel
theorem dJxa1e45_init_da8c8_0 : decode cJxa1e45_init_da8c8 0 = .ok (.aload_n 0, 1) := by decide +kernel
theorem dJxa1e45_init_da8c8_1 : decode cJxa1e45_init_da8c8 1 = .ok (.invokespecial 1, 3) := by decide +kernel
theorem dJxa1e45_init_da8c8_4 : decode cJxa1e45_init_da8c8 4 = .ok (.return_, 1) := by decide +kernel
theorem dJxc12de_init_da8c8_0 : decode cJxc12de_init_da8c8 0 = .ok (.aload_n 0, 1) := by decide +kernel
theorem dJxc12de_init_da8c8_1 : decode cJxc12de_init_da8c8 1 = .ok (.invokespecial 1, 3) := by decide +kernel
theorem dJxc12de_init_da8c8_4 : decode cJxc12de_init_da8c8 4 = .ok (.aload_n 0, 1) := by decide +kernel
theorem dJxc12de_init_da8c8_5 : decode cJxc12de_init_da8c8 5 = .ok (.iconst 0, 1) := by decide +kernel
theorem dJxc12de_init_da8c8_6 : decode cJxc12de_init_da8c8 6 = .ok (.putfield 7, 3) := by decide +kernel
theorem dJxc12de_init_da8c8_9 : decode cJxc12de_init_da8c8 9 = .ok (.return_, 1) := by decide +kernel
theorem dJx4a65c_init_da8c8_0 : decode cJx4a65c_init_da8c8 0 = .ok (.aload_n 0, 1) := by decide +kernel
theorem dJx4a65c_init_da8c8_1 : decode cJx4a65c_init_da8c8 1 = .ok (.invokespecial 1, 3) := by decide +kernel
theorem dJx4a65c_init_da8c8_4 : decode cJx4a65c_init_da8c8 4 = .ok (.aload_n 0, 1) := by decide +kernel
theorem dJx4a65c_init_da8c8_5 : decode cJx4a65c_init_da8c8 5 = .ok (.getstatic 39, 3) := by decide +kernel
theorem dJx4a65c_init_da8c8_8 : decode cJx4a65c_init_da8c8 8 = .ok (.putfield 9, 3) := by decide +kernel
theorem dJx4a65c_init_da8c8_11 : decode cJx4a65c_init_da8c8 11 = .ok (.return_, 1) := by decide +kernel
theorem dJx4a65c_grow_92f84_0 : decode cJx4a65c_grow_92f84 0 = .ok (.aload_n 0, 1) := by decide +kernel
theorem dJx4a65c_grow_92f84_1 : decode cJx4a65c_grow_92f84 1 = .ok (.getfield 9, 3) := by decide +kernel
theorem dJx4a65c_grow_92f84_4 : decode cJx4a65c_grow_92f84 4 = .ok (.arraylength, 1) := by decide +kernel
theorem dJx4a65c_grow_92f84_5 : decode cJx4a65c_grow_92f84 5 = .ok (.istore_n 2, 1) := by decide +kernel
theorem dJx4a65c_grow_92f84_6 : decode cJx4a65c_grow_92f84 6 = .ok (.iload_n 2, 1) := by decide +kernel
theorem dJx4a65c_grow_92f84_7 : decode cJx4a65c_grow_92f84 7 = .ok (.ifCond .gt 13, 3) := by decide +kernel
theorem dJx4a65c_grow_92f84_10 : decode cJx4a65c_grow_92f84 10 = .ok (.aload_n 0, 1) := by decide +kernel
theorem dJx4a65c_grow_92f84_11 : decode cJx4a65c_grow_92f84 11 = .ok (.getfield 9, 3) := by decide +kernel
theorem dJx4a65c_grow_92f84_14 : decode cJx4a65c_grow_92f84 14 = .ok (.getstatic 39, 3) := by decide +kernel
theorem dJx4a65c_grow_92f84_17 : decode cJx4a65c_grow_92f84 17 = .ok (.if_acmp .eq 28, 3) := by decide +kernel
theorem dJx4a65c_grow_92f84_20 : decode cJx4a65c_grow_92f84 20 = .ok (.iload_n 2, 1) := by decide +kernel
theorem dJx4a65c_grow_92f84_21 : decode cJx4a65c_grow_92f84 21 = .ok (.iload_n 1, 1) := by decide +kernel
theorem dJx4a65c_grow_92f84_22 : decode cJx4a65c_grow_92f84 22 = .ok (.iload_n 2, 1) := by decide +kernel
theorem dJx4a65c_grow_92f84_23 : decode cJx4a65c_grow_92f84 23 = .ok (.isub, 1) := by decide +kernel
theorem dJx4a65c_grow_92f84_24 : decode cJx4a65c_grow_92f84 24 = .ok (.iload_n 2, 1) := by decide +kernel
theorem dJx4a65c_grow_92f84_25 : decode cJx4a65c_grow_92f84 25 = .ok (.iconst 1, 1) := by decide +kernel
theorem dJx4a65c_grow_92f84_26 : decode cJx4a65c_grow_92f84 26 = .ok (.ishr, 1) := by decide +kernel
theorem dJx4a65c_grow_92f84_27 : decode cJx4a65c_grow_92f84 27 = .ok (.invokestatic 73, 3) := by decide +kernel
theorem dJx4a65c_grow_92f84_30 : decode cJx4a65c_grow_92f84 30 = .ok (.istore_n 3, 1) := by decide +kernel
theorem dJx4a65c_grow_92f84_31 : decode cJx4a65c_grow_92f84 31 = .ok (.aload_n 0, 1) := by decide +kernel
theorem dJx4a65c_grow_92f84_32 : decode cJx4a65c_grow_92f84 32 = .ok (.aload_n 0, 1) := by decide +kernel
theorem dJx4a65c_grow_92f84_33 : decode cJx4a65c_grow_92f84 33 = .ok (.getfield 9, 3) := by decide +kernel
theorem dJx4a65c_grow_92f84_36 : decode cJx4a65c_grow_92f84 36 = .ok (.iload_n 3, 1) := by decide +kernel
theorem dJx4a65c_grow_92f84_37 : decode cJx4a65c_grow_92f84 37 = .ok (.invokestatic 66, 3) := by decide +kernel
theorem dJx4a65c_grow_92f84_40 : decode cJx4a65c_grow_92f84 40 = .ok (.dup_x1, 1) := by decide +kernel
theorem dJx4a65c_grow_92f84_41 : decode cJx4a65c_grow_92f84 41 = .ok (.putfield 9, 3) := by decide +kernel
theorem dJx4a65c_grow_92f84_44 : decode cJx4a65c_grow_92f84 44 = .ok (.areturn, 1) := by decide +kernel
theorem dJx4a65c_grow_92f84_45 : decode cJx4a65c_grow_92f84 45 = .ok (.aload_n 0, 1) := by decide +kernel
theorem dJx4a65c_grow_92f84_46 : decode cJx4a65c_grow_92f84 46 = .ok (.bipush 10, 2) := by decide +kernel
theorem dJx4a65c_grow_92f84_48 : decode cJx4a65c_grow_92f84 48 = .ok (.iload_n 1, 1) := by decide +kernel
theorem dJx4a65c_grow_92f84_49 : decode cJx4a65c_grow_92f84 49 = .ok (.invokestatic 79, 3) := by decide +kernel
theorem dJx4a65c_grow_92f84_52 : decode cJx4a65c_grow_92f84 52 = .ok (.anewarray 7, 3) := by decide +kernel
theorem dJx4a65c_grow_92f84_55 : decode cJx4a65c_grow_92f84 55 = .ok (.dup_x1, 1) := by decide +kernel
theorem dJx4a65c_grow_92f84_56 : decode cJx4a65c_grow_92f84 56 = .ok (.putfield 9, 3) := by decide +kernel
theorem dJx4a65c_grow_92f84_59 : decode cJx4a65c_grow_92f84 59 = .ok (.areturn, 1) := by decide +kernel
theorem dJx4a65c_grow_d5877_0 : decode cJx4a65c_grow_d5877 0 = .ok (.aload_n 0, 1) := by decide +kernel
theorem dJx4a65c_grow_d5877_1 : decode cJx4a65c_grow_d5877 1 = .ok (.aload_n 0, 1) := by decide +kernel
theorem dJx4a65c_grow_d5877_2 : decode cJx4a65c_grow_d5877 2 = .ok (.getfield 48, 3) := by decide +kernel
theorem dJx4a65c_grow_d5877_5 : decode cJx4a65c_grow_d5877 5 = .ok (.iconst 1, 1) := by decide +kernel
theorem dJx4a65c_grow_d5877_6 : decode cJx4a65c_grow_d5877 6 = .ok (.iadd, 1) := by decide +kernel
theorem dJx4a65c_grow_d5877_7 : decode cJx4a65c_grow_d5877 7 = .ok (.invokevirtual 69, 3) := by decide +kernel
theorem dJx4a65c_grow_d5877_10 : decode cJx4a65c_grow_d5877 10 = .ok (.areturn, 1) := by decide +kernel
theorem dJx4a65c_size_8abf5_0 : decode cJx4a65c_size_8abf5 0 = .ok (.aload_n 0, 1) := by decide +kernel
theorem dJx4a65c_size_8abf5_1 : decode cJx4a65c_size_8abf5 1 = .ok (.getfield 48, 3) := by decide +kernel
theorem dJx4a65c_size_8abf5_4 : decode cJx4a65c_size_8abf5 4 = .ok (.ireturn, 1) := by decide +kernel
theorem dJx4a65c_elementData_915e3_0 : decode cJx4a65c_elementData_915e3 0 = .ok (.aload_n 0, 1) := by decide +kernel
theorem dJx4a65c_elementData_915e3_1 : decode cJx4a65c_elementData_915e3 1 = .ok (.getfield 9, 3) := by decide +kernel
theorem dJx4a65c_elementData_915e3_4 : decode cJx4a65c_elementData_915e3 4 = .ok (.iload_n 1, 1) := by decide +kernel
theorem dJx4a65c_elementData_915e3_5 : decode cJx4a65c_elementData_915e3 5 = .ok (.aaload, 1) := by decide +kernel
theorem dJx4a65c_elementData_915e3_6 : decode cJx4a65c_elementData_915e3 6 = .ok (.areturn, 1) := by decide +kernel
theorem dJx4a65c_get_915e3_0 : decode cJx4a65c_get_915e3 0 = .ok (.iload_n 1, 1) := by decide +kernel
theorem dJx4a65c_get_915e3_1 : decode cJx4a65c_get_915e3 1 = .ok (.aload_n 0, 1) := by decide +kernel
theorem dJx4a65c_get_915e3_2 : decode cJx4a65c_get_915e3 2 = .ok (.getfield 48, 3) := by decide +kernel
theorem dJx4a65c_get_915e3_5 : decode cJx4a65c_get_915e3 5 = .ok (.invokestatic 118, 3) := by decide +kernel
theorem dJx4a65c_get_915e3_8 : decode cJx4a65c_get_915e3 8 = .ok (.pop, 1) := by decide +kernel
theorem dJx4a65c_get_915e3_9 : decode cJx4a65c_get_915e3 9 = .ok (.aload_n 0, 1) := by decide +kernel
theorem dJx4a65c_get_915e3_10 : decode cJx4a65c_get_915e3 10 = .ok (.iload_n 1, 1) := by decide +kernel
theorem dJx4a65c_get_915e3_11 : decode cJx4a65c_get_915e3 11 = .ok (.invokevirtual 123, 3) := by decide +kernel
theorem dJx4a65c_get_915e3_14 : decode cJx4a65c_get_915e3 14 = .ok (.areturn, 1) := by decide +kernel
theorem dJx4a65c_add_72be8_0 : decode cJx4a65c_add_72be8 0 = .ok (.iload_n 3, 1) := by decide +kernel
theorem dJx4a65c_add_72be8_1 : decode cJx4a65c_add_72be8 1 = .ok (.aload_n 2, 1) := by decide +kernel
theorem dJx4a65c_add_72be8_2 : decode cJx4a65c_add_72be8 2 = .ok (.arraylength, 1) := by decide +kernel
theorem dJx4a65c_add_72be8_3 : decode cJx4a65c_add_72be8 3 = .ok (.if_icmp .ne 8, 3) := by decide +kernel
theorem dJx4a65c_add_72be8_6 : decode cJx4a65c_add_72be8 6 = .ok (.aload_n 0, 1) := by decide +kernel
theorem dJx4a65c_add_72be8_7 : decode cJx4a65c_add_72be8 7 = .ok (.invokevirtual 129, 3) := by decide +kernel
theorem dJx4a65c_add_72be8_10 : decode cJx4a65c_add_72be8 10 = .ok (.astore_n 2, 1) := by decide +kernel
theorem dJx4a65c_add_72be8_11 : decode cJx4a65c_add_72be8 11 = .ok (.aload_n 2, 1) := by decide +kernel
theorem dJx4a65c_add_72be8_12 : decode cJx4a65c_add_72be8 12 = .ok (.iload_n 3, 1) := by decide +kernel
theorem dJx4a65c_add_72be8_13 : decode cJx4a65c_add_72be8 13 = .ok (.aload_n 1, 1) := by decide +kernel
theorem dJx4a65c_add_72be8_14 : decode cJx4a65c_add_72be8 14 = .ok (.aastore, 1) := by decide +kernel
theorem dJx4a65c_add_72be8_15 : decode cJx4a65c_add_72be8 15 = .ok (.aload_n 0, 1) := by decide +kernel
theorem dJx4a65c_add_72be8_16 : decode cJx4a65c_add_72be8 16 = .ok (.iload_n 3, 1) := by decide +kernel
theorem dJx4a65c_add_72be8_17 : decode cJx4a65c_add_72be8 17 = .ok (.iconst 1, 1) := by decide +kernel
theorem dJx4a65c_add_72be8_18 : decode cJx4a65c_add_72be8 18 = .ok (.iadd, 1) := by decide +kernel
theorem dJx4a65c_add_72be8_19 : decode cJx4a65c_add_72be8 19 = .ok (.putfield 48, 3) := by decide +kernel
theorem dJx4a65c_add_72be8_22 : decode cJx4a65c_add_72be8 22 = .ok (.return_, 1) := by decide +kernel
theorem dJx4a65c_add_9ea2d_0 : decode cJx4a65c_add_9ea2d 0 = .ok (.aload_n 0, 1) := by decide +kernel
theorem dJx4a65c_add_9ea2d_1 : decode cJx4a65c_add_9ea2d 1 = .ok (.dup, 1) := by decide +kernel
theorem dJx4a65c_add_9ea2d_2 : decode cJx4a65c_add_9ea2d 2 = .ok (.getfield 63, 3) := by decide +kernel
theorem dJx4a65c_add_9ea2d_5 : decode cJx4a65c_add_9ea2d 5 = .ok (.iconst 1, 1) := by decide +kernel
theorem dJx4a65c_add_9ea2d_6 : decode cJx4a65c_add_9ea2d 6 = .ok (.iadd, 1) := by decide +kernel
theorem dJx4a65c_add_9ea2d_7 : decode cJx4a65c_add_9ea2d 7 = .ok (.putfield 63, 3) := by decide +kernel
theorem dJx4a65c_add_9ea2d_10 : decode cJx4a65c_add_9ea2d 10 = .ok (.aload_n 0, 1) := by decide +kernel
theorem dJx4a65c_add_9ea2d_11 : decode cJx4a65c_add_9ea2d 11 = .ok (.aload_n 1, 1) := by decide +kernel
theorem dJx4a65c_add_9ea2d_12 : decode cJx4a65c_add_9ea2d 12 = .ok (.aload_n 0, 1) := by decide +kernel
theorem dJx4a65c_add_9ea2d_13 : decode cJx4a65c_add_9ea2d 13 = .ok (.getfield 9, 3) := by decide +kernel
theorem dJx4a65c_add_9ea2d_16 : decode cJx4a65c_add_9ea2d 16 = .ok (.aload_n 0, 1) := by decide +kernel
theorem dJx4a65c_add_9ea2d_17 : decode cJx4a65c_add_9ea2d 17 = .ok (.getfield 48, 3) := by decide +kernel
theorem dJx4a65c_add_9ea2d_20 : decode cJx4a65c_add_9ea2d 20 = .ok (.invokevirtual 131, 3) := by decide +kernel
theorem dJx4a65c_add_9ea2d_23 : decode cJx4a65c_add_9ea2d 23 = .ok (.iconst 1, 1) := by decide +kernel
theorem dJx4a65c_add_9ea2d_24 : decode cJx4a65c_add_9ea2d 24 = .ok (.ireturn, 1) := by decide +kernel
theorem dJ7_copyOf_1904c_0 : decode cJ7_copyOf_1904c 0 = .ok (.aload_n 0, 1) := by decide +kernel
theorem dJ7_copyOf_1904c_1 : decode cJ7_copyOf_1904c 1 = .ok (.iload_n 1, 1) := by decide +kernel
theorem dJ7_copyOf_1904c_2 : decode cJ7_copyOf_1904c 2 = .ok (.aload_n 0, 1) := by decide +kernel
theorem dJ7_copyOf_1904c_3 : decode cJ7_copyOf_1904c 3 = .ok (.invokevirtual 86, 3) := by decide +kernel
theorem dJ7_copyOf_1904c_6 : decode cJ7_copyOf_1904c 6 = .ok (.invokestatic 300, 3) := by decide +kernel
theorem dJ7_copyOf_1904c_9 : decode cJ7_copyOf_1904c 9 = .ok (.areturn, 1) := by decide +kernel
theorem dJ7_copyOf_6403c_0 : decode cJ7_copyOf_6403c 0 = .ok (.aload_n 2, 1) := by decide +kernel
theorem dJ7_copyOf_6403c_1 : decode cJ7_copyOf_6403c 1 = .ok (.ldc 110, 2) := by decide +kernel
theorem dJ7_copyOf_6403c_3 : decode cJ7_copyOf_6403c 3 = .ok (.if_acmp .ne 10, 3) := by decide +kernel
theorem dJ7_copyOf_6403c_6 : decode cJ7_copyOf_6403c 6 = .ok (.iload_n 1, 1) := by decide +kernel
theorem dJ7_copyOf_6403c_7 : decode cJ7_copyOf_6403c 7 = .ok (.anewarray 2, 3) := by decide +kernel
theorem dJ7_copyOf_6403c_10 : decode cJ7_copyOf_6403c 10 = .ok (.goto 14, 3) := by decide +kernel
theorem dJ7_copyOf_6403c_13 : decode cJ7_copyOf_6403c 13 = .ok (.aload_n 2, 1) := by decide +kernel
theorem dJ7_copyOf_6403c_14 : decode cJ7_copyOf_6403c 14 = .ok (.invokevirtual 90, 3) := by decide +kernel
theorem dJ7_copyOf_6403c_17 : decode cJ7_copyOf_6403c 17 = .ok (.iload_n 1, 1) := by decide +kernel
theorem dJ7_copyOf_6403c_18 : decode cJ7_copyOf_6403c 18 = .ok (.invokestatic 95, 3) := by decide +kernel
theorem dJ7_copyOf_6403c_21 : decode cJ7_copyOf_6403c 21 = .ok (.checkcast 110, 3) := by decide +kernel
theorem dJ7_copyOf_6403c_24 : decode cJ7_copyOf_6403c 24 = .ok (.astore_n 3, 1) := by decide +kernel
theorem dJ7_copyOf_6403c_25 : decode cJ7_copyOf_6403c 25 = .ok (.aload_n 0, 1) := by decide +kernel
theorem dJ7_copyOf_6403c_26 : decode cJ7_copyOf_6403c 26 = .ok (.iconst 0, 1) := by decide +kernel
theorem dJ7_copyOf_6403c_27 : decode cJ7_copyOf_6403c 27 = .ok (.aload_n 3, 1) := by decide +kernel
theorem dJ7_copyOf_6403c_28 : decode cJ7_copyOf_6403c 28 = .ok (.iconst 0, 1) := by decide +kernel
theorem dJ7_copyOf_6403c_29 : decode cJ7_copyOf_6403c 29 = .ok (.aload_n 0, 1) := by decide +kernel
theorem dJ7_copyOf_6403c_30 : decode cJ7_copyOf_6403c 30 = .ok (.arraylength, 1) := by decide +kernel
theorem dJ7_copyOf_6403c_31 : decode cJ7_copyOf_6403c 31 = .ok (.iload_n 1, 1) := by decide +kernel
theorem dJ7_copyOf_6403c_32 : decode cJ7_copyOf_6403c 32 = .ok (.invokestatic 304, 3) := by decide +kernel
theorem dJ7_copyOf_6403c_35 : decode cJ7_copyOf_6403c 35 = .ok (.invokestatic 150, 3) := by decide +kernel
theorem dJ7_copyOf_6403c_38 : decode cJ7_copyOf_6403c 38 = .ok (.aload_n 3, 1) := by decide +kernel
theorem dJ7_copyOf_6403c_39 : decode cJ7_copyOf_6403c 39 = .ok (.areturn, 1) := by decide +kernel
theorem dJ15_checkIndex_7cf53_0 : decode cJ15_checkIndex_7cf53 0 = .ok (.iload_n 0, 1) := by decide +kernel
theorem dJ15_checkIndex_7cf53_1 : decode cJ15_checkIndex_7cf53 1 = .ok (.iload_n 1, 1) := by decide +kernel
theorem dJ15_checkIndex_7cf53_2 : decode cJ15_checkIndex_7cf53 2 = .ok (.aconst_null, 1) := by decide +kernel
theorem dJ15_checkIndex_7cf53_3 : decode cJ15_checkIndex_7cf53 3 = .ok (.invokestatic 105, 3) := by decide +kernel
theorem dJ15_checkIndex_7cf53_6 : decode cJ15_checkIndex_7cf53 6 = .ok (.ireturn, 1) := by decide +kernel
theorem dJ8_newLength_cabcc_0 : decode cJ8_newLength_cabcc 0 = .ok (.iload_n 0, 1) := by decide +kernel
theorem dJ8_newLength_cabcc_1 : decode cJ8_newLength_cabcc 1 = .ok (.iload_n 1, 1) := by decide +kernel
theorem dJ8_newLength_cabcc_2 : decode cJ8_newLength_cabcc 2 = .ok (.iload_n 2, 1) := by decide +kernel
theorem dJ8_newLength_cabcc_3 : decode cJ8_newLength_cabcc 3 = .ok (.invokestatic 194, 3) := by decide +kernel
theorem dJ8_newLength_cabcc_6 : decode cJ8_newLength_cabcc 6 = .ok (.iadd, 1) := by decide +kernel
theorem dJ8_newLength_cabcc_7 : decode cJ8_newLength_cabcc 7 = .ok (.istore_n 3, 1) := by decide +kernel
theorem dJ8_newLength_cabcc_8 : decode cJ8_newLength_cabcc 8 = .ok (.iconst 0, 1) := by decide +kernel
theorem dJ8_newLength_cabcc_9 : decode cJ8_newLength_cabcc 9 = .ok (.iload_n 3, 1) := by decide +kernel
theorem dJ8_newLength_cabcc_10 : decode cJ8_newLength_cabcc 10 = .ok (.if_icmp .ge 11, 3) := by decide +kernel
theorem dJ8_newLength_cabcc_13 : decode cJ8_newLength_cabcc 13 = .ok (.iload_n 3, 1) := by decide +kernel
theorem dJ8_newLength_cabcc_14 : decode cJ8_newLength_cabcc 14 = .ok (.ldc 200, 2) := by decide +kernel
theorem dJ8_newLength_cabcc_16 : decode cJ8_newLength_cabcc 16 = .ok (.if_icmp .gt 5, 3) := by decide +kernel
theorem dJ8_newLength_cabcc_19 : decode cJ8_newLength_cabcc 19 = .ok (.iload_n 3, 1) := by decide +kernel
theorem dJ8_newLength_cabcc_20 : decode cJ8_newLength_cabcc 20 = .ok (.ireturn, 1) := by decide +kernel
theorem dJ8_newLength_cabcc_21 : decode cJ8_newLength_cabcc 21 = .ok (.iload_n 0, 1) := by decide +kernel
theorem dJ8_newLength_cabcc_22 : decode cJ8_newLength_cabcc 22 = .ok (.iload_n 1, 1) := by decide +kernel
theorem dJ8_newLength_cabcc_23 : decode cJ8_newLength_cabcc 23 = .ok (.invokestatic 201, 3) := by decide +kernel
theorem dJ8_newLength_cabcc_26 : decode cJ8_newLength_cabcc 26 = .ok (.ireturn, 1) := by decide +kernel
theorem dJ8_hugeLength_7cf53_0 : decode cJ8_hugeLength_7cf53 0 = .ok (.iload_n 0, 1) := by decide +kernel
theorem dJ8_hugeLength_7cf53_1 : decode cJ8_hugeLength_7cf53 1 = .ok (.iload_n 1, 1) := by decide +kernel
theorem dJ8_hugeLength_7cf53_2 : decode cJ8_hugeLength_7cf53 2 = .ok (.iadd, 1) := by decide +kernel
theorem dJ8_hugeLength_7cf53_3 : decode cJ8_hugeLength_7cf53 3 = .ok (.istore_n 2, 1) := by decide +kernel
theorem dJ8_hugeLength_7cf53_4 : decode cJ8_hugeLength_7cf53 4 = .ok (.iload_n 2, 1) := by decide +kernel
theorem dJ8_hugeLength_7cf53_5 : decode cJ8_hugeLength_7cf53 5 = .ok (.ifCond .ge 44, 3) := by decide +kernel
theorem dJ8_hugeLength_7cf53_8 : decode cJ8_hugeLength_7cf53 8 = .ok (.new 204, 3) := by decide +kernel
theorem dJ8_hugeLength_7cf53_11 : decode cJ8_hugeLength_7cf53 11 = .ok (.dup, 1) := by decide +kernel
theorem dJ8_hugeLength_7cf53_12 : decode cJ8_hugeLength_7cf53 12 = .ok (.new 89, 3) := by decide +kernel
theorem dJ8_hugeLength_7cf53_15 : decode cJ8_hugeLength_7cf53 15 = .ok (.dup, 1) := by decide +kernel
theorem dJ8_hugeLength_7cf53_16 : decode cJ8_hugeLength_7cf53 16 = .ok (.invokespecial 91, 3) := by decide +kernel
theorem dJ8_hugeLength_7cf53_19 : decode cJ8_hugeLength_7cf53 19 = .ok (.ldc 206, 2) := by decide +kernel
theorem dJ8_hugeLength_7cf53_21 : decode cJ8_hugeLength_7cf53 21 = .ok (.invokevirtual 94, 3) := by decide +kernel
theorem dJ8_hugeLength_7cf53_24 : decode cJ8_hugeLength_7cf53 24 = .ok (.iload_n 0, 1) := by decide +kernel
theorem dJ8_hugeLength_7cf53_25 : decode cJ8_hugeLength_7cf53 25 = .ok (.invokevirtual 98, 3) := by decide +kernel
theorem dJ8_hugeLength_7cf53_28 : decode cJ8_hugeLength_7cf53 28 = .ok (.ldc 208, 2) := by decide +kernel
theorem dJ8_hugeLength_7cf53_30 : decode cJ8_hugeLength_7cf53 30 = .ok (.invokevirtual 94, 3) := by decide +kernel
theorem dJ8_hugeLength_7cf53_33 : decode cJ8_hugeLength_7cf53 33 = .ok (.iload_n 1, 1) := by decide +kernel
theorem dJ8_hugeLength_7cf53_34 : decode cJ8_hugeLength_7cf53 34 = .ok (.invokevirtual 98, 3) := by decide +kernel
theorem dJ8_hugeLength_7cf53_37 : decode cJ8_hugeLength_7cf53 37 = .ok (.ldc 210, 2) := by decide +kernel
theorem dJ8_hugeLength_7cf53_39 : decode cJ8_hugeLength_7cf53 39 = .ok (.invokevirtual 94, 3) := by decide +kernel
theorem dJ8_hugeLength_7cf53_42 : decode cJ8_hugeLength_7cf53 42 = .ok (.invokevirtual 101, 3) := by decide +kernel
theorem dJ8_hugeLength_7cf53_45 : decode cJ8_hugeLength_7cf53 45 = .ok (.invokespecial 212, 3) := by decide +kernel
theorem dJ8_hugeLength_7cf53_48 : decode cJ8_hugeLength_7cf53 48 = .ok (.athrow, 1) := by decide +kernel
theorem dJ8_hugeLength_7cf53_49 : decode cJ8_hugeLength_7cf53 49 = .ok (.iload_n 2, 1) := by decide +kernel
theorem dJ8_hugeLength_7cf53_50 : decode cJ8_hugeLength_7cf53 50 = .ok (.ldc 200, 2) := by decide +kernel
theorem dJ8_hugeLength_7cf53_52 : decode cJ8_hugeLength_7cf53 52 = .ok (.if_icmp .gt 6, 3) := by decide +kernel
theorem dJ8_hugeLength_7cf53_55 : decode cJ8_hugeLength_7cf53 55 = .ok (.ldc 200, 2) := by decide +kernel
theorem dJ8_hugeLength_7cf53_57 : decode cJ8_hugeLength_7cf53 57 = .ok (.ireturn, 1) := by decide +kernel
theorem dJ8_hugeLength_7cf53_58 : decode cJ8_hugeLength_7cf53 58 = .ok (.iload_n 2, 1) := by decide +kernel
theorem dJ8_hugeLength_7cf53_59 : decode cJ8_hugeLength_7cf53 59 = .ok (.ireturn, 1) := by decide +kernel
theorem dJ3_checkIndex_8e157_0 : decode cJ3_checkIndex_8e157 0 = .ok (.iload_n 0, 1) := by decide +kernel
theorem dJ3_checkIndex_8e157_1 : decode cJ3_checkIndex_8e157 1 = .ok (.ifCond .lt 8, 3) := by decide +kernel
theorem dJ3_checkIndex_8e157_4 : decode cJ3_checkIndex_8e157 4 = .ok (.iload_n 0, 1) := by decide +kernel
theorem dJ3_checkIndex_8e157_5 : decode cJ3_checkIndex_8e157 5 = .ok (.iload_n 1, 1) := by decide +kernel
theorem dJ3_checkIndex_8e157_6 : decode cJ3_checkIndex_8e157 6 = .ok (.if_icmp .lt 10, 3) := by decide +kernel
theorem dJ3_checkIndex_8e157_9 : decode cJ3_checkIndex_8e157 9 = .ok (.aload_n 2, 1) := by decide +kernel
theorem dJ3_checkIndex_8e157_10 : decode cJ3_checkIndex_8e157 10 = .ok (.iload_n 0, 1) := by decide +kernel
theorem dJ3_checkIndex_8e157_11 : decode cJ3_checkIndex_8e157 11 = .ok (.iload_n 1, 1) := by decide +kernel
theorem dJ3_checkIndex_8e157_12 : decode cJ3_checkIndex_8e157 12 = .ok (.invokestatic 95, 3) := by decide +kernel
theorem dJ3_checkIndex_8e157_15 : decode cJ3_checkIndex_8e157 15 = .ok (.athrow, 1) := by decide +kernel
theorem dJ3_checkIndex_8e157_16 : decode cJ3_checkIndex_8e157 16 = .ok (.iload_n 0, 1) := by decide +kernel
theorem dJ3_checkIndex_8e157_17 : decode cJ3_checkIndex_8e157 17 = .ok (.ireturn, 1) := by decide +kernel
end
section
theorem dX7_init_0 : decode cX7_init 0 = .ok (.aload_n 0, 1) := by decide +kernel
theorem dX7_init_1 : decode cX7_init 1 = .ok (.invokespecial 1, 3) := by decide +kernel
theorem dX7_init_4 : decode cX7_init 4 = .ok (.aload_n 0, 1) := by decide +kernel
theorem dX7_init_5 : decode cX7_init 5 = .ok (.bipush 16, 2) := by decide +kernel
theorem dX7_init_7 : decode cX7_init 7 = .ok (.newarray .int, 2) := by decide +kernel
theorem dX7_init_9 : decode cX7_init 9 = .ok (.putfield 7, 3) := by decide +kernel
theorem dX7_init_12 : decode cX7_init 12 = .ok (.aload_n 0, 1) := by decide +kernel
theorem dX7_init_13 : decode cX7_init 13 = .ok (.bipush 16, 2) := by decide +kernel
theorem dX7_init_15 : decode cX7_init 15 = .ok (.newarray .int, 2) := by decide +kernel
theorem dX7_init_17 : decode cX7_init 17 = .ok (.dup, 1) := by decide +kernel
theorem dX7_init_18 : decode cX7_init 18 = .ok (.iconst 0, 1) := by decide +kernel
theorem dX7_init_19 : decode cX7_init 19 = .ok (.iconst (-1), 1) := by decide +kernel
theorem dX7_init_20 : decode cX7_init 20 = .ok (.iastore, 1) := by decide +kernel
theorem dX7_init_21 : decode cX7_init 21 = .ok (.dup, 1) := by decide +kernel
theorem dX7_init_22 : decode cX7_init 22 = .ok (.iconst 1, 1) := by decide +kernel
theorem dX7_init_23 : decode cX7_init 23 = .ok (.iconst (-1), 1) := by decide +kernel
theorem dX7_init_24 : decode cX7_init 24 = .ok (.iastore, 1) := by decide +kernel
theorem dX7_init_25 : decode cX7_init 25 = .ok (.dup, 1) := by decide +kernel
theorem dX7_init_26 : decode cX7_init 26 = .ok (.iconst 2, 1) := by decide +kernel
theorem dX7_init_27 : decode cX7_init 27 = .ok (.iconst (-1), 1) := by decide +kernel
theorem dX7_init_28 : decode cX7_init 28 = .ok (.iastore, 1) := by decide +kernel
theorem dX7_init_29 : decode cX7_init 29 = .ok (.dup, 1) := by decide +kernel
theorem dX7_init_30 : decode cX7_init 30 = .ok (.iconst 3, 1) := by decide +kernel
theorem dX7_init_31 : decode cX7_init 31 = .ok (.iconst (-1), 1) := by decide +kernel
theorem dX7_init_32 : decode cX7_init 32 = .ok (.iastore, 1) := by decide +kernel
theorem dX7_init_33 : decode cX7_init 33 = .ok (.dup, 1) := by decide +kernel
theorem dX7_init_34 : decode cX7_init 34 = .ok (.iconst 4, 1) := by decide +kernel
theorem dX7_init_35 : decode cX7_init 35 = .ok (.iconst (-1), 1) := by decide +kernel
theorem dX7_init_36 : decode cX7_init 36 = .ok (.iastore, 1) := by decide +kernel
theorem dX7_init_37 : decode cX7_init 37 = .ok (.dup, 1) := by decide +kernel
theorem dX7_init_38 : decode cX7_init 38 = .ok (.iconst 5, 1) := by decide +kernel
theorem dX7_init_39 : decode cX7_init 39 = .ok (.iconst (-1), 1) := by decide +kernel
theorem dX7_init_40 : decode cX7_init 40 = .ok (.iastore, 1) := by decide +kernel
theorem dX7_init_41 : decode cX7_init 41 = .ok (.dup, 1) := by decide +kernel
theorem dX7_init_42 : decode cX7_init 42 = .ok (.bipush 6, 2) := by decide +kernel
theorem dX7_init_44 : decode cX7_init 44 = .ok (.iconst (-1), 1) := by decide +kernel
theorem dX7_init_45 : decode cX7_init 45 = .ok (.iastore, 1) := by decide +kernel
theorem dX7_init_46 : decode cX7_init 46 = .ok (.dup, 1) := by decide +kernel
theorem dX7_init_47 : decode cX7_init 47 = .ok (.bipush 7, 2) := by decide +kernel
theorem dX7_init_49 : decode cX7_init 49 = .ok (.iconst (-1), 1) := by decide +kernel
theorem dX7_init_50 : decode cX7_init 50 = .ok (.iastore, 1) := by decide +kernel
theorem dX7_init_51 : decode cX7_init 51 = .ok (.dup, 1) := by decide +kernel
theorem dX7_init_52 : decode cX7_init 52 = .ok (.bipush 8, 2) := by decide +kernel
theorem dX7_init_54 : decode cX7_init 54 = .ok (.iconst (-1), 1) := by decide +kernel
theorem dX7_init_55 : decode cX7_init 55 = .ok (.iastore, 1) := by decide +kernel
theorem dX7_init_56 : decode cX7_init 56 = .ok (.dup, 1) := by decide +kernel
theorem dX7_init_57 : decode cX7_init 57 = .ok (.bipush 9, 2) := by decide +kernel
theorem dX7_init_59 : decode cX7_init 59 = .ok (.iconst (-1), 1) := by decide +kernel
theorem dX7_init_60 : decode cX7_init 60 = .ok (.iastore, 1) := by decide +kernel
theorem dX7_init_61 : decode cX7_init 61 = .ok (.dup, 1) := by decide +kernel
theorem dX7_init_62 : decode cX7_init 62 = .ok (.bipush 10, 2) := by decide +kernel
theorem dX7_init_64 : decode cX7_init 64 = .ok (.iconst (-1), 1) := by decide +kernel
theorem dX7_init_65 : decode cX7_init 65 = .ok (.iastore, 1) := by decide +kernel
theorem dX7_init_66 : decode cX7_init 66 = .ok (.dup, 1) := by decide +kernel
theorem dX7_init_67 : decode cX7_init 67 = .ok (.bipush 11, 2) := by decide +kernel
theorem dX7_init_69 : decode cX7_init 69 = .ok (.iconst (-1), 1) := by decide +kernel
theorem dX7_init_70 : decode cX7_init 70 = .ok (.iastore, 1) := by decide +kernel
theorem dX7_init_71 : decode cX7_init 71 = .ok (.dup, 1) := by decide +kernel
theorem dX7_init_72 : decode cX7_init 72 = .ok (.bipush 12, 2) := by decide +kernel
theorem dX7_init_74 : decode cX7_init 74 = .ok (.iconst (-1), 1) := by decide +kernel
theorem dX7_init_75 : decode cX7_init 75 = .ok (.iastore, 1) := by decide +kernel
theorem dX7_init_76 : decode cX7_init 76 = .ok (.dup, 1) := by decide +kernel
theorem dX7_init_77 : decode cX7_init 77 = .ok (.bipush 13, 2) := by decide +kernel
theorem dX7_init_79 : decode cX7_init 79 = .ok (.iconst (-1), 1) := by decide +kernel
theorem dX7_init_80 : decode cX7_init 80 = .ok (.iastore, 1) := by decide +kernel
theorem dX7_init_81 : decode cX7_init 81 = .ok (.dup, 1) := by decide +kernel
theorem dX7_init_82 : decode cX7_init 82 = .ok (.bipush 14, 2) := by decide +kernel
theorem dX7_init_84 : decode cX7_init 84 = .ok (.iconst (-1), 1) := by decide +kernel
theorem dX7_init_85 : decode cX7_init 85 = .ok (.iastore, 1) := by decide +kernel
theorem dX7_init_86 : decode cX7_init 86 = .ok (.dup, 1) := by decide +kernel
theorem dX7_init_87 : decode cX7_init 87 = .ok (.bipush 15, 2) := by decide +kernel
theorem dX7_init_89 : decode cX7_init 89 = .ok (.iconst (-1), 1) := by decide +kernel
theorem dX7_init_90 : decode cX7_init 90 = .ok (.iastore, 1) := by decide +kernel
theorem dX7_init_91 : decode cX7_init 91 = .ok (.putfield 13, 3) := by decide +kernel
theorem dX7_init_94 : decode cX7_init 94 = .ok (.aload_n 0, 1) := by decide +kernel
theorem dX7_init_95 : decode cX7_init 95 = .ok (.bipush 6, 2) := by decide +kernel
theorem dX7_init_97 : decode cX7_init 97 = .ok (.newarray .int, 2) := by decide +kernel
theorem dX7_init_99 : decode cX7_init 99 = .ok (.putfield 16, 3) := by decide +kernel
theorem dX7_init_102 : decode cX7_init 102 = .ok (.aload_n 0, 1) := by decide +kernel
theorem dX7_init_103 : decode cX7_init 103 = .ok (.bipush 96, 2) := by decide +kernel
theorem dX7_init_105 : decode cX7_init 105 = .ok (.newarray .int, 2) := by decide +kernel
theorem dX7_init_107 : decode cX7_init 107 = .ok (.putfield 19, 3) := by decide +kernel
theorem dX7_init_110 : decode cX7_init 110 = .ok (.aload_n 0, 1) := by decide +kernel
theorem dX7_init_111 : decode cX7_init 111 = .ok (.bipush 96, 2) := by decide +kernel
theorem dX7_init_113 : decode cX7_init 113 = .ok (.newarray .int, 2) := by decide +kernel
theorem dX7_init_115 : decode cX7_init 115 = .ok (.putfield 22, 3) := by decide +kernel
theorem dX7_init_118 : decode cX7_init 118 = .ok (.aload_n 0, 1) := by decide +kernel
theorem dX7_init_119 : decode cX7_init 119 = .ok (.bipush 96, 2) := by decide +kernel
theorem dX7_init_121 : decode cX7_init 121 = .ok (.newarray .int, 2) := by decide +kernel
theorem dX7_init_123 : decode cX7_init 123 = .ok (.putfield 25, 3) := by decide +kernel
theorem dX7_init_126 : decode cX7_init 126 = .ok (.aload_n 0, 1) := by decide +kernel
theorem dX7_init_127 : decode cX7_init 127 = .ok (.sipush 150, 3) := by decide +kernel
theorem dX7_init_130 : decode cX7_init 130 = .ok (.newarray .int, 2) := by decide +kernel
theorem dX7_init_132 : decode cX7_init 132 = .ok (.putfield 28, 3) := by decide +kernel
theorem dX7_init_135 : decode cX7_init 135 = .ok (.aload_n 0, 1) := by decide +kernel
theorem dX7_init_136 : decode cX7_init 136 = .ok (.sipush 150, 3) := by decide +kernel
theorem dX7_init_139 : decode cX7_init 139 = .ok (.newarray .int, 2) := by decide +kernel
theorem dX7_init_141 : decode cX7_init 141 = .ok (.putfield 31, 3) := by decide +kernel
theorem dX7_init_144 : decode cX7_init 144 = .ok (.aload_n 0, 1) := by decide +kernel
theorem dX7_init_145 : decode cX7_init 145 = .ok (.sipush 150, 3) := by decide +kernel
theorem dX7_init_148 : decode cX7_init 148 = .ok (.newarray .int, 2) := by decide +kernel
theorem dX7_init_150 : decode cX7_init 150 = .ok (.putfield 34, 3) := by decide +kernel
theorem dX7_init_153 : decode cX7_init 153 = .ok (.aload_n 0, 1) := by decide +kernel
theorem dX7_init_154 : decode cX7_init 154 = .ok (.sipush 150, 3) := by decide +kernel
theorem dX7_init_157 : decode cX7_init 157 = .ok (.newarray .int, 2) := by decide +kernel
theorem dX7_init_159 : decode cX7_init 159 = .ok (.putfield 37, 3) := by decide +kernel
theorem dX7_init_162 : decode cX7_init 162 = .ok (.aload_n 0, 1) := by decide +kernel
theorem dX7_init_163 : decode cX7_init 163 = .ok (.sipush 150, 3) := by decide +kernel
theorem dX7_init_166 : decode cX7_init 166 = .ok (.newarray .int, 2) := by decide +kernel
theorem dX7_init_168 : decode cX7_init 168 = .ok (.putfield 40, 3) := by decide +kernel
theorem dX7_init_171 : decode cX7_init 171 = .ok (.aload_n 0, 1) := by decide +kernel
theorem dX7_init_172 : decode cX7_init 172 = .ok (.sipush 150, 3) := by decide +kernel
theorem dX7_init_175 : decode cX7_init 175 = .ok (.newarray .boolean, 2) := by decide +kernel
theorem dX7_init_177 : decode cX7_init 177 = .ok (.putfield 43, 3) := by decide +kernel
theorem dX7_init_180 : decode cX7_init 180 = .ok (.aload_n 0, 1) := by decide +kernel
theorem dX7_init_181 : decode cX7_init 181 = .ok (.bipush 36, 2) := by decide +kernel
theorem dX7_init_183 : decode cX7_init 183 = .ok (.newarray .int, 2) := by decide +kernel
theorem dX7_init_185 : decode cX7_init 185 = .ok (.putfield 47, 3) := by decide +kernel
theorem dX7_init_188 : decode cX7_init 188 = .ok (.aload_n 0, 1) := by decide +kernel
theorem dX7_init_189 : decode cX7_init 189 = .ok (.bipush 16, 2) := by decide +kernel
theorem dX7_init_191 : decode cX7_init 191 = .ok (.newarray .int, 2) := by decide +kernel
theorem dX7_init_193 : decode cX7_init 193 = .ok (.putfield 50, 3) := by decide +kernel
theorem dX7_init_196 : decode cX7_init 196 = .ok (.return_, 1) := by decide +kernel
theorem dX7_thrown_0 : decode cX7_thrown 0 = .ok (.aload_n 0, 1) := by decide +kernel
theorem dX7_thrown_1 : decode cX7_thrown 1 = .ok (.getfield 53, 3) := by decide +kernel
theorem dX7_thrown_4 : decode cX7_thrown 4 = .ok (.ireturn, 1) := by decide +kernel
theorem dX7_goesWell_0 : decode cX7_goesWell 0 = .ok (.aload_n 0, 1) := by decide +kernel
theorem dX7_goesWell_1 : decode cX7_goesWell 1 = .ok (.iload_n 1, 1) := by decide +kernel
theorem dX7_goesWell_2 : decode cX7_goesWell 2 = .ok (.putfield 53, 3) := by decide +kernel
theorem dX7_goesWell_5 : decode cX7_goesWell 5 = .ok (.iload_n 1, 1) := by decide +kernel
theorem dX7_goesWell_6 : decode cX7_goesWell 6 = .ok (.ifCond .ne 7, 3) := by decide +kernel
theorem dX7_goesWell_9 : decode cX7_goesWell 9 = .ok (.iconst 1, 1) := by decide +kernel
theorem dX7_goesWell_10 : decode cX7_goesWell 10 = .ok (.goto 4, 3) := by decide +kernel
theorem dX7_goesWell_13 : decode cX7_goesWell 13 = .ok (.iconst 0, 1) := by decide +kernel
theorem dX7_goesWell_14 : decode cX7_goesWell 14 = .ok (.ireturn, 1) := by decide +kernel
theorem dX7_in_0 : decode cX7_in 0 = .ok (.iload_n 0, 1) := by decide +kernel
theorem dX7_in_1 : decode cX7_in 1 = .ok (.iload_n 1, 1) := by decide +kernel
theorem dX7_in_2 : decode cX7_in 2 = .ok (.if_icmp .lt 12, 3) := by decide +kernel
theorem dX7_in_5 : decode cX7_in 5 = .ok (.iload_n 0, 1) := by decide +kernel
theorem dX7_in_6 : decode cX7_in 6 = .ok (.iload_n 2, 1) := by decide +kernel
theorem dX7_in_7 : decode cX7_in 7 = .ok (.if_icmp .gt 7, 3) := by decide +kernel
theorem dX7_in_10 : decode cX7_in 10 = .ok (.iconst 1, 1) := by decide +kernel
theorem dX7_in_11 : decode cX7_in 11 = .ok (.goto 4, 3) := by decide +kernel
theorem dX7_in_14 : decode cX7_in 14 = .ok (.iconst 0, 1) := by decide +kernel
theorem dX7_in_15 : decode cX7_in 15 = .ok (.ireturn, 1) := by decide +kernel
theorem dX7_isFile_0 : decode cX7_isFile 0 = .ok (.iload_n 1, 1) := by decide +kernel
theorem dX7_isFile_1 : decode cX7_isFile 1 = .ok (.iconst 0, 1) := by decide +kernel
theorem dX7_isFile_2 : decode cX7_isFile 2 = .ok (.aload_n 0, 1) := by decide +kernel
theorem dX7_isFile_3 : decode cX7_isFile 3 = .ok (.getfield 57, 3) := by decide +kernel
theorem dX7_isFile_6 : decode cX7_isFile 6 = .ok (.iconst 1, 1) := by decide +kernel
theorem dX7_isFile_7 : decode cX7_isFile 7 = .ok (.isub, 1) := by decide +kernel
theorem dX7_isFile_8 : decode cX7_isFile 8 = .ok (.invokestatic 60, 3) := by decide +kernel
theorem dX7_isFile_11 : decode cX7_isFile 11 = .ok (.ireturn, 1) := by decide +kernel
theorem dX7_isParty_0 : decode cX7_isParty 0 = .ok (.iload_n 1, 1) := by decide +kernel
theorem dX7_isParty_1 : decode cX7_isParty 1 = .ok (.iconst 0, 1) := by decide +kernel
theorem dX7_isParty_2 : decode cX7_isParty 2 = .ok (.aload_n 0, 1) := by decide +kernel
theorem dX7_isParty_3 : decode cX7_isParty 3 = .ok (.getfield 64, 3) := by decide +kernel
theorem dX7_isParty_6 : decode cX7_isParty 6 = .ok (.iconst 1, 1) := by decide +kernel
theorem dX7_isParty_7 : decode cX7_isParty 7 = .ok (.isub, 1) := by decide +kernel
theorem dX7_isParty_8 : decode cX7_isParty 8 = .ok (.invokestatic 60, 3) := by decide +kernel
theorem dX7_isParty_11 : decode cX7_isParty 11 = .ok (.ireturn, 1) := by decide +kernel
theorem dX7_file_0 : decode cX7_file 0 = .ok (.iload_n 1, 1) := by decide +kernel
theorem dX7_file_1 : decode cX7_file 1 = .ok (.iconst 0, 1) := by decide +kernel
theorem dX7_file_2 : decode cX7_file 2 = .ok (.sipush 255, 3) := by decide +kernel
theorem dX7_file_5 : decode cX7_file 5 = .ok (.invokestatic 60, 3) := by decide +kernel
theorem dX7_file_8 : decode cX7_file 8 = .ok (.istore_n 2, 1) := by decide +kernel
theorem dX7_file_9 : decode cX7_file 9 = .ok (.aload_n 0, 1) := by decide +kernel
theorem dX7_file_10 : decode cX7_file 10 = .ok (.iload_n 2, 1) := by decide +kernel
theorem dX7_file_11 : decode cX7_file 11 = .ok (.ifCond .ne 7, 3) := by decide +kernel
theorem dX7_file_14 : decode cX7_file 14 = .ok (.iconst 1, 1) := by decide +kernel
theorem dX7_file_15 : decode cX7_file 15 = .ok (.goto 17, 3) := by decide +kernel
theorem dX7_file_18 : decode cX7_file 18 = .ok (.aload_n 0, 1) := by decide +kernel
theorem dX7_file_19 : decode cX7_file 19 = .ok (.getfield 57, 3) := by decide +kernel
theorem dX7_file_22 : decode cX7_file 22 = .ok (.bipush 16, 2) := by decide +kernel
theorem dX7_file_24 : decode cX7_file 24 = .ok (.if_icmp .ne 7, 3) := by decide +kernel
theorem dX7_file_27 : decode cX7_file 27 = .ok (.iconst 2, 1) := by decide +kernel
theorem dX7_file_28 : decode cX7_file 28 = .ok (.goto 4, 3) := by decide +kernel
theorem dX7_file_31 : decode cX7_file 31 = .ok (.iconst 0, 1) := by decide +kernel
theorem dX7_file_32 : decode cX7_file 32 = .ok (.invokevirtual 67, 3) := by decide +kernel
theorem dX7_file_35 : decode cX7_file 35 = .ok (.ifCond .ne 5, 3) := by decide +kernel
theorem dX7_file_38 : decode cX7_file 38 = .ok (.iconst 0, 1) := by decide +kernel
theorem dX7_file_39 : decode cX7_file 39 = .ok (.ireturn, 1) := by decide +kernel
theorem dX7_file_40 : decode cX7_file 40 = .ok (.aload_n 0, 1) := by decide +kernel
theorem dX7_file_41 : decode cX7_file 41 = .ok (.getfield 7, 3) := by decide +kernel
theorem dX7_file_44 : decode cX7_file 44 = .ok (.aload_n 0, 1) := by decide +kernel
theorem dX7_file_45 : decode cX7_file 45 = .ok (.getfield 57, 3) := by decide +kernel
theorem dX7_file_48 : decode cX7_file 48 = .ok (.iload_n 1, 1) := by decide +kernel
theorem dX7_file_49 : decode cX7_file 49 = .ok (.iastore, 1) := by decide +kernel
theorem dX7_file_50 : decode cX7_file 50 = .ok (.aload_n 0, 1) := by decide +kernel
theorem dX7_file_51 : decode cX7_file 51 = .ok (.dup, 1) := by decide +kernel
theorem dX7_file_52 : decode cX7_file 52 = .ok (.getfield 57, 3) := by decide +kernel
theorem dX7_file_55 : decode cX7_file 55 = .ok (.iconst 1, 1) := by decide +kernel
theorem dX7_file_56 : decode cX7_file 56 = .ok (.iadd, 1) := by decide +kernel
theorem dX7_file_57 : decode cX7_file 57 = .ok (.putfield 57, 3) := by decide +kernel
theorem dX7_file_60 : decode cX7_file 60 = .ok (.aload_n 0, 1) := by decide +kernel
theorem dX7_file_61 : decode cX7_file 61 = .ok (.getfield 57, 3) := by decide +kernel
theorem dX7_file_64 : decode cX7_file 64 = .ok (.iconst 1, 1) := by decide +kernel
theorem dX7_file_65 : decode cX7_file 65 = .ok (.isub, 1) := by decide +kernel
theorem dX7_file_66 : decode cX7_file 66 = .ok (.ireturn, 1) := by decide +kernel
theorem dX7_recall_0 : decode cX7_recall 0 = .ok (.iconst 0, 1) := by decide +kernel
theorem dX7_recall_1 : decode cX7_recall 1 = .ok (.istore_n 3, 1) := by decide +kernel
theorem dX7_recall_2 : decode cX7_recall 2 = .ok (.iconst 0, 1) := by decide +kernel
theorem dX7_recall_3 : decode cX7_recall 3 = .ok (.istore 4, 2) := by decide +kernel
theorem dX7_recall_5 : decode cX7_recall 5 = .ok (.iload 4, 2) := by decide +kernel
theorem dX7_recall_7 : decode cX7_recall 7 = .ok (.aload_n 0, 1) := by decide +kernel
theorem dX7_recall_8 : decode cX7_recall 8 = .ok (.getfield 71, 3) := by decide +kernel
theorem dX7_recall_11 : decode cX7_recall 11 = .ok (.if_icmp .ge 97, 3) := by decide +kernel
theorem dX7_recall_14 : decode cX7_recall 14 = .ok (.aload_n 0, 1) := by decide +kernel
theorem dX7_recall_15 : decode cX7_recall 15 = .ok (.getfield 43, 3) := by decide +kernel
theorem dX7_recall_18 : decode cX7_recall 18 = .ok (.iload 4, 2) := by decide +kernel
theorem dX7_recall_20 : decode cX7_recall 20 = .ok (.baload, 1) := by decide +kernel
theorem dX7_recall_21 : decode cX7_recall 21 = .ok (.ifCond .ne 38, 3) := by decide +kernel
theorem dX7_recall_24 : decode cX7_recall 24 = .ok (.aload_n 0, 1) := by decide +kernel
theorem dX7_recall_25 : decode cX7_recall 25 = .ok (.getfield 31, 3) := by decide +kernel
theorem dX7_recall_28 : decode cX7_recall 28 = .ok (.iload 4, 2) := by decide +kernel
theorem dX7_recall_30 : decode cX7_recall 30 = .ok (.iaload, 1) := by decide +kernel
theorem dX7_recall_31 : decode cX7_recall 31 = .ok (.iload_n 1, 1) := by decide +kernel
theorem dX7_recall_32 : decode cX7_recall 32 = .ok (.ishr, 1) := by decide +kernel
theorem dX7_recall_33 : decode cX7_recall 33 = .ok (.iconst 1, 1) := by decide +kernel
theorem dX7_recall_34 : decode cX7_recall 34 = .ok (.iand, 1) := by decide +kernel
theorem dX7_recall_35 : decode cX7_recall 35 = .ok (.iconst 1, 1) := by decide +kernel
theorem dX7_recall_36 : decode cX7_recall 36 = .ok (.if_icmp .ne 23, 3) := by decide +kernel
theorem dX7_recall_39 : decode cX7_recall 39 = .ok (.iload_n 2, 1) := by decide +kernel
theorem dX7_recall_40 : decode cX7_recall 40 = .ok (.iconst (-1), 1) := by decide +kernel
theorem dX7_recall_41 : decode cX7_recall 41 = .ok (.if_icmp .eq 14, 3) := by decide +kernel
theorem dX7_recall_44 : decode cX7_recall 44 = .ok (.aload_n 0, 1) := by decide +kernel
theorem dX7_recall_45 : decode cX7_recall 45 = .ok (.getfield 28, 3) := by decide +kernel
theorem dX7_recall_48 : decode cX7_recall 48 = .ok (.iload 4, 2) := by decide +kernel
theorem dX7_recall_50 : decode cX7_recall 50 = .ok (.iaload, 1) := by decide +kernel
theorem dX7_recall_51 : decode cX7_recall 51 = .ok (.iload_n 2, 1) := by decide +kernel
theorem dX7_recall_52 : decode cX7_recall 52 = .ok (.if_icmp .ne 7, 3) := by decide +kernel
theorem dX7_recall_55 : decode cX7_recall 55 = .ok (.iconst 1, 1) := by decide +kernel
theorem dX7_recall_56 : decode cX7_recall 56 = .ok (.goto 4, 3) := by decide +kernel
theorem dX7_recall_59 : decode cX7_recall 59 = .ok (.iconst 0, 1) := by decide +kernel
theorem dX7_recall_60 : decode cX7_recall 60 = .ok (.istore 5, 2) := by decide +kernel
theorem dX7_recall_62 : decode cX7_recall 62 = .ok (.aload_n 0, 1) := by decide +kernel
theorem dX7_recall_63 : decode cX7_recall 63 = .ok (.getfield 43, 3) := by decide +kernel
theorem dX7_recall_66 : decode cX7_recall 66 = .ok (.iload 4, 2) := by decide +kernel
theorem dX7_recall_68 : decode cX7_recall 68 = .ok (.aload_n 0, 1) := by decide +kernel
theorem dX7_recall_69 : decode cX7_recall 69 = .ok (.getfield 43, 3) := by decide +kernel
theorem dX7_recall_72 : decode cX7_recall 72 = .ok (.iload 4, 2) := by decide +kernel
theorem dX7_recall_74 : decode cX7_recall 74 = .ok (.baload, 1) := by decide +kernel
theorem dX7_recall_75 : decode cX7_recall 75 = .ok (.ifCond .ne 8, 3) := by decide +kernel
theorem dX7_recall_78 : decode cX7_recall 78 = .ok (.iload 5, 2) := by decide +kernel
theorem dX7_recall_80 : decode cX7_recall 80 = .ok (.ifCond .eq 7, 3) := by decide +kernel
theorem dX7_recall_83 : decode cX7_recall 83 = .ok (.iconst 1, 1) := by decide +kernel
theorem dX7_recall_84 : decode cX7_recall 84 = .ok (.goto 4, 3) := by decide +kernel
theorem dX7_recall_87 : decode cX7_recall 87 = .ok (.iconst 0, 1) := by decide +kernel
theorem dX7_recall_88 : decode cX7_recall 88 = .ok (.bastore, 1) := by decide +kernel
theorem dX7_recall_89 : decode cX7_recall 89 = .ok (.iload_n 3, 1) := by decide +kernel
theorem dX7_recall_90 : decode cX7_recall 90 = .ok (.iload 5, 2) := by decide +kernel
theorem dX7_recall_92 : decode cX7_recall 92 = .ok (.ifCond .eq 7, 3) := by decide +kernel
theorem dX7_recall_95 : decode cX7_recall 95 = .ok (.iconst 1, 1) := by decide +kernel
theorem dX7_recall_96 : decode cX7_recall 96 = .ok (.goto 4, 3) := by decide +kernel
theorem dX7_recall_99 : decode cX7_recall 99 = .ok (.iconst 0, 1) := by decide +kernel
theorem dX7_recall_100 : decode cX7_recall 100 = .ok (.iadd, 1) := by decide +kernel
theorem dX7_recall_101 : decode cX7_recall 101 = .ok (.istore_n 3, 1) := by decide +kernel
theorem dX7_recall_102 : decode cX7_recall 102 = .ok (.iinc 4 1, 3) := by decide +kernel
theorem dX7_recall_105 : decode cX7_recall 105 = .ok (.goto (-100), 3) := by decide +kernel
theorem dX7_recall_108 : decode cX7_recall 108 = .ok (.iload_n 3, 1) := by decide +kernel
theorem dX7_recall_109 : decode cX7_recall 109 = .ok (.ireturn, 1) := by decide +kernel
theorem dX7_change_0 : decode cX7_change 0 = .ok (.aload_n 0, 1) := by decide +kernel
theorem dX7_change_1 : decode cX7_change 1 = .ok (.iload_n 1, 1) := by decide +kernel
theorem dX7_change_2 : decode cX7_change 2 = .ok (.invokevirtual 74, 3) := by decide +kernel
theorem dX7_change_5 : decode cX7_change 5 = .ok (.istore_n 3, 1) := by decide +kernel
theorem dX7_change_6 : decode cX7_change 6 = .ok (.aload_n 0, 1) := by decide +kernel
theorem dX7_change_7 : decode cX7_change 7 = .ok (.iload_n 3, 1) := by decide +kernel
theorem dX7_change_8 : decode cX7_change 8 = .ok (.ifCond .ne 7, 3) := by decide +kernel
theorem dX7_change_11 : decode cX7_change 11 = .ok (.iconst 1, 1) := by decide +kernel
theorem dX7_change_12 : decode cX7_change 12 = .ok (.goto 19, 3) := by decide +kernel
theorem dX7_change_15 : decode cX7_change 15 = .ok (.iload_n 2, 1) := by decide +kernel
theorem dX7_change_16 : decode cX7_change 16 = .ok (.iconst 0, 1) := by decide +kernel
theorem dX7_change_17 : decode cX7_change 17 = .ok (.sipush 255, 3) := by decide +kernel
theorem dX7_change_20 : decode cX7_change 20 = .ok (.invokestatic 60, 3) := by decide +kernel
theorem dX7_change_23 : decode cX7_change 23 = .ok (.ifCond .eq 7, 3) := by decide +kernel
theorem dX7_change_26 : decode cX7_change 26 = .ok (.iconst 0, 1) := by decide +kernel
theorem dX7_change_27 : decode cX7_change 27 = .ok (.goto 4, 3) := by decide +kernel
theorem dX7_change_30 : decode cX7_change 30 = .ok (.iconst 2, 1) := by decide +kernel
theorem dX7_change_31 : decode cX7_change 31 = .ok (.invokevirtual 67, 3) := by decide +kernel
theorem dX7_change_34 : decode cX7_change 34 = .ok (.ifCond .ne 5, 3) := by decide +kernel
theorem dX7_change_37 : decode cX7_change 37 = .ok (.iconst 0, 1) := by decide +kernel
theorem dX7_change_38 : decode cX7_change 38 = .ok (.ireturn, 1) := by decide +kernel
theorem dX7_change_39 : decode cX7_change 39 = .ok (.aload_n 0, 1) := by decide +kernel
theorem dX7_change_40 : decode cX7_change 40 = .ok (.getfield 7, 3) := by decide +kernel
theorem dX7_change_43 : decode cX7_change 43 = .ok (.iload_n 1, 1) := by decide +kernel
theorem dX7_change_44 : decode cX7_change 44 = .ok (.iload_n 2, 1) := by decide +kernel
theorem dX7_change_45 : decode cX7_change 45 = .ok (.iastore, 1) := by decide +kernel
theorem dX7_change_46 : decode cX7_change 46 = .ok (.aload_n 0, 1) := by decide +kernel
theorem dX7_change_47 : decode cX7_change 47 = .ok (.iload_n 1, 1) := by decide +kernel
theorem dX7_change_48 : decode cX7_change 48 = .ok (.iconst (-1), 1) := by decide +kernel
theorem dX7_change_49 : decode cX7_change 49 = .ok (.invokevirtual 77, 3) := by decide +kernel
theorem dX7_change_52 : decode cX7_change 52 = .ok (.ireturn, 1) := by decide +kernel
theorem dX7_party_0 : decode cX7_party 0 = .ok (.iload_n 1, 1) := by decide +kernel
theorem dX7_party_1 : decode cX7_party 1 = .ok (.iconst 0, 1) := by decide +kernel
theorem dX7_party_2 : decode cX7_party 2 = .ok (.sipush 128, 3) := by decide +kernel
theorem dX7_party_5 : decode cX7_party 5 = .ok (.invokestatic 60, 3) := by decide +kernel
theorem dX7_party_8 : decode cX7_party 8 = .ok (.istore_n 2, 1) := by decide +kernel
theorem dX7_party_9 : decode cX7_party 9 = .ok (.aload_n 0, 1) := by decide +kernel
theorem dX7_party_10 : decode cX7_party 10 = .ok (.iload_n 2, 1) := by decide +kernel
theorem dX7_party_11 : decode cX7_party 11 = .ok (.ifCond .ne 7, 3) := by decide +kernel
theorem dX7_party_14 : decode cX7_party 14 = .ok (.iconst 1, 1) := by decide +kernel
theorem dX7_party_15 : decode cX7_party 15 = .ok (.goto 17, 3) := by decide +kernel
theorem dX7_party_18 : decode cX7_party 18 = .ok (.aload_n 0, 1) := by decide +kernel
theorem dX7_party_19 : decode cX7_party 19 = .ok (.getfield 64, 3) := by decide +kernel
theorem dX7_party_22 : decode cX7_party 22 = .ok (.bipush 6, 2) := by decide +kernel
theorem dX7_party_24 : decode cX7_party 24 = .ok (.if_icmp .ne 7, 3) := by decide +kernel
theorem dX7_party_27 : decode cX7_party 27 = .ok (.iconst 2, 1) := by decide +kernel
theorem dX7_party_28 : decode cX7_party 28 = .ok (.goto 4, 3) := by decide +kernel
theorem dX7_party_31 : decode cX7_party 31 = .ok (.iconst 0, 1) := by decide +kernel
theorem dX7_party_32 : decode cX7_party 32 = .ok (.invokevirtual 67, 3) := by decide +kernel
theorem dX7_party_35 : decode cX7_party 35 = .ok (.ifCond .ne 5, 3) := by decide +kernel
theorem dX7_party_38 : decode cX7_party 38 = .ok (.iconst 0, 1) := by decide +kernel
theorem dX7_party_39 : decode cX7_party 39 = .ok (.ireturn, 1) := by decide +kernel
theorem dX7_party_40 : decode cX7_party 40 = .ok (.aload_n 0, 1) := by decide +kernel
theorem dX7_party_41 : decode cX7_party 41 = .ok (.getfield 16, 3) := by decide +kernel
theorem dX7_party_44 : decode cX7_party 44 = .ok (.aload_n 0, 1) := by decide +kernel
theorem dX7_party_45 : decode cX7_party 45 = .ok (.getfield 64, 3) := by decide +kernel
theorem dX7_party_48 : decode cX7_party 48 = .ok (.iload_n 1, 1) := by decide +kernel
theorem dX7_party_49 : decode cX7_party 49 = .ok (.iastore, 1) := by decide +kernel
theorem dX7_party_50 : decode cX7_party 50 = .ok (.aload_n 0, 1) := by decide +kernel
theorem dX7_party_51 : decode cX7_party 51 = .ok (.dup, 1) := by decide +kernel
theorem dX7_party_52 : decode cX7_party 52 = .ok (.getfield 64, 3) := by decide +kernel
theorem dX7_party_55 : decode cX7_party 55 = .ok (.iconst 1, 1) := by decide +kernel
theorem dX7_party_56 : decode cX7_party 56 = .ok (.iadd, 1) := by decide +kernel
theorem dX7_party_57 : decode cX7_party 57 = .ok (.putfield 64, 3) := by decide +kernel
theorem dX7_party_60 : decode cX7_party 60 = .ok (.aload_n 0, 1) := by decide +kernel
theorem dX7_party_61 : decode cX7_party 61 = .ok (.getfield 64, 3) := by decide +kernel
theorem dX7_party_64 : decode cX7_party 64 = .ok (.iconst 1, 1) := by decide +kernel
theorem dX7_party_65 : decode cX7_party 65 = .ok (.isub, 1) := by decide +kernel
theorem dX7_party_66 : decode cX7_party 66 = .ok (.ireturn, 1) := by decide +kernel
theorem dX7_budget_0 : decode cX7_budget 0 = .ok (.aload_n 0, 1) := by decide +kernel
theorem dX7_budget_1 : decode cX7_budget 1 = .ok (.iload_n 1, 1) := by decide +kernel
theorem dX7_budget_2 : decode cX7_budget 2 = .ok (.invokevirtual 81, 3) := by decide +kernel
theorem dX7_budget_5 : decode cX7_budget 5 = .ok (.istore_n 3, 1) := by decide +kernel
theorem dX7_budget_6 : decode cX7_budget 6 = .ok (.aload_n 0, 1) := by decide +kernel
theorem dX7_budget_7 : decode cX7_budget 7 = .ok (.iload_n 3, 1) := by decide +kernel
theorem dX7_budget_8 : decode cX7_budget 8 = .ok (.ifCond .ne 7, 3) := by decide +kernel
theorem dX7_budget_11 : decode cX7_budget 11 = .ok (.iconst 1, 1) := by decide +kernel
theorem dX7_budget_12 : decode cX7_budget 12 = .ok (.goto 19, 3) := by decide +kernel
theorem dX7_budget_15 : decode cX7_budget 15 = .ok (.iload_n 2, 1) := by decide +kernel
theorem dX7_budget_16 : decode cX7_budget 16 = .ok (.iconst 0, 1) := by decide +kernel
theorem dX7_budget_17 : decode cX7_budget 17 = .ok (.sipush 128, 3) := by decide +kernel
theorem dX7_budget_20 : decode cX7_budget 20 = .ok (.invokestatic 60, 3) := by decide +kernel
theorem dX7_budget_23 : decode cX7_budget 23 = .ok (.ifCond .eq 7, 3) := by decide +kernel
theorem dX7_budget_26 : decode cX7_budget 26 = .ok (.iconst 0, 1) := by decide +kernel
theorem dX7_budget_27 : decode cX7_budget 27 = .ok (.goto 4, 3) := by decide +kernel
theorem dX7_budget_30 : decode cX7_budget 30 = .ok (.iconst 2, 1) := by decide +kernel
theorem dX7_budget_31 : decode cX7_budget 31 = .ok (.invokevirtual 67, 3) := by decide +kernel
theorem dX7_budget_34 : decode cX7_budget 34 = .ok (.ifCond .ne 5, 3) := by decide +kernel
theorem dX7_budget_37 : decode cX7_budget 37 = .ok (.iconst 0, 1) := by decide +kernel
theorem dX7_budget_38 : decode cX7_budget 38 = .ok (.ireturn, 1) := by decide +kernel
theorem dX7_budget_39 : decode cX7_budget 39 = .ok (.aload_n 0, 1) := by decide +kernel
theorem dX7_budget_40 : decode cX7_budget 40 = .ok (.getfield 16, 3) := by decide +kernel
theorem dX7_budget_43 : decode cX7_budget 43 = .ok (.iload_n 1, 1) := by decide +kernel
theorem dX7_budget_44 : decode cX7_budget 44 = .ok (.iaload, 1) := by decide +kernel
theorem dX7_budget_45 : decode cX7_budget 45 = .ok (.istore 4, 2) := by decide +kernel
theorem dX7_budget_47 : decode cX7_budget 47 = .ok (.aload_n 0, 1) := by decide +kernel
theorem dX7_budget_48 : decode cX7_budget 48 = .ok (.getfield 16, 3) := by decide +kernel
theorem dX7_budget_51 : decode cX7_budget 51 = .ok (.iload_n 1, 1) := by decide +kernel
theorem dX7_budget_52 : decode cX7_budget 52 = .ok (.iload_n 2, 1) := by decide +kernel
theorem dX7_budget_53 : decode cX7_budget 53 = .ok (.iastore, 1) := by decide +kernel
theorem dX7_budget_54 : decode cX7_budget 54 = .ok (.iload 4, 2) := by decide +kernel
theorem dX7_budget_56 : decode cX7_budget 56 = .ok (.ireturn, 1) := by decide +kernel
theorem dX7_right_0 : decode cX7_right 0 = .ok (.aload_n 0, 1) := by decide +kernel
theorem dX7_right_1 : decode cX7_right 1 = .ok (.iload_n 1, 1) := by decide +kernel
theorem dX7_right_2 : decode cX7_right 2 = .ok (.invokevirtual 81, 3) := by decide +kernel
theorem dX7_right_5 : decode cX7_right 5 = .ok (.ifCond .eq 15, 3) := by decide +kernel
theorem dX7_right_8 : decode cX7_right 8 = .ok (.aload_n 0, 1) := by decide +kernel
theorem dX7_right_9 : decode cX7_right 9 = .ok (.iload_n 2, 1) := by decide +kernel
theorem dX7_right_10 : decode cX7_right 10 = .ok (.invokevirtual 74, 3) := by decide +kernel
theorem dX7_right_13 : decode cX7_right 13 = .ok (.ifCond .eq 7, 3) := by decide +kernel
theorem dX7_right_16 : decode cX7_right 16 = .ok (.iconst 1, 1) := by decide +kernel
theorem dX7_right_17 : decode cX7_right 17 = .ok (.goto 4, 3) := by decide +kernel
theorem dX7_right_20 : decode cX7_right 20 = .ok (.iconst 0, 1) := by decide +kernel
theorem dX7_right_21 : decode cX7_right 21 = .ok (.istore 6, 2) := by decide +kernel
theorem dX7_right_23 : decode cX7_right 23 = .ok (.iload_n 3, 1) := by decide +kernel
theorem dX7_right_24 : decode cX7_right 24 = .ok (.iconst 1, 1) := by decide +kernel
theorem dX7_right_25 : decode cX7_right 25 = .ok (.iconst 2, 1) := by decide +kernel
theorem dX7_right_26 : decode cX7_right 26 = .ok (.invokestatic 60, 3) := by decide +kernel
theorem dX7_right_29 : decode cX7_right 29 = .ok (.ifCond .eq 32, 3) := by decide +kernel
theorem dX7_right_32 : decode cX7_right 32 = .ok (.iload 4, 2) := by decide +kernel
theorem dX7_right_34 : decode cX7_right 34 = .ok (.iconst 0, 1) := by decide +kernel
theorem dX7_right_35 : decode cX7_right 35 = .ok (.sipush 5000, 3) := by decide +kernel
theorem dX7_right_38 : decode cX7_right 38 = .ok (.invokestatic 60, 3) := by decide +kernel
theorem dX7_right_41 : decode cX7_right 41 = .ok (.ifCond .eq 20, 3) := by decide +kernel
theorem dX7_right_44 : decode cX7_right 44 = .ok (.iload 5, 2) := by decide +kernel
theorem dX7_right_46 : decode cX7_right 46 = .ok (.iload 4, 2) := by decide +kernel
theorem dX7_right_48 : decode cX7_right 48 = .ok (.sipush 5000, 3) := by decide +kernel
theorem dX7_right_51 : decode cX7_right 51 = .ok (.invokestatic 60, 3) := by decide +kernel
theorem dX7_right_54 : decode cX7_right 54 = .ok (.ifCond .eq 7, 3) := by decide +kernel
theorem dX7_right_57 : decode cX7_right 57 = .ok (.iconst 1, 1) := by decide +kernel
theorem dX7_right_58 : decode cX7_right 58 = .ok (.goto 4, 3) := by decide +kernel
theorem dX7_right_61 : decode cX7_right 61 = .ok (.iconst 0, 1) := by decide +kernel
theorem dX7_right_62 : decode cX7_right 62 = .ok (.istore 7, 2) := by decide +kernel
theorem dX7_right_64 : decode cX7_right 64 = .ok (.aload_n 0, 1) := by decide +kernel
theorem dX7_right_65 : decode cX7_right 65 = .ok (.iload 6, 2) := by decide +kernel
theorem dX7_right_67 : decode cX7_right 67 = .ok (.ifCond .ne 7, 3) := by decide +kernel
theorem dX7_right_70 : decode cX7_right 70 = .ok (.iconst 1, 1) := by decide +kernel
theorem dX7_right_71 : decode cX7_right 71 = .ok (.goto 13, 3) := by decide +kernel
theorem dX7_right_74 : decode cX7_right 74 = .ok (.iload 7, 2) := by decide +kernel
theorem dX7_right_76 : decode cX7_right 76 = .ok (.ifCond .eq 7, 3) := by decide +kernel
theorem dX7_right_79 : decode cX7_right 79 = .ok (.iconst 0, 1) := by decide +kernel
theorem dX7_right_80 : decode cX7_right 80 = .ok (.goto 4, 3) := by decide +kernel
theorem dX7_right_83 : decode cX7_right 83 = .ok (.iconst 2, 1) := by decide +kernel
theorem dX7_right_84 : decode cX7_right 84 = .ok (.invokevirtual 67, 3) := by decide +kernel
theorem dX7_right_87 : decode cX7_right 87 = .ok (.ifCond .eq 41, 3) := by decide +kernel
theorem dX7_right_90 : decode cX7_right 90 = .ok (.aload_n 0, 1) := by decide +kernel
theorem dX7_right_91 : decode cX7_right 91 = .ok (.getfield 19, 3) := by decide +kernel
theorem dX7_right_94 : decode cX7_right 94 = .ok (.bipush 16, 2) := by decide +kernel
theorem dX7_right_96 : decode cX7_right 96 = .ok (.iload_n 1, 1) := by decide +kernel
theorem dX7_right_97 : decode cX7_right 97 = .ok (.imul, 1) := by decide +kernel
theorem dX7_right_98 : decode cX7_right 98 = .ok (.iload_n 2, 1) := by decide +kernel
theorem dX7_right_99 : decode cX7_right 99 = .ok (.iadd, 1) := by decide +kernel
theorem dX7_right_100 : decode cX7_right 100 = .ok (.iload_n 3, 1) := by decide +kernel
theorem dX7_right_101 : decode cX7_right 101 = .ok (.iastore, 1) := by decide +kernel
theorem dX7_right_102 : decode cX7_right 102 = .ok (.aload_n 0, 1) := by decide +kernel
theorem dX7_right_103 : decode cX7_right 103 = .ok (.getfield 22, 3) := by decide +kernel
theorem dX7_right_106 : decode cX7_right 106 = .ok (.bipush 16, 2) := by decide +kernel
theorem dX7_right_108 : decode cX7_right 108 = .ok (.iload_n 1, 1) := by decide +kernel
theorem dX7_right_109 : decode cX7_right 109 = .ok (.imul, 1) := by decide +kernel
theorem dX7_right_110 : decode cX7_right 110 = .ok (.iload_n 2, 1) := by decide +kernel
theorem dX7_right_111 : decode cX7_right 111 = .ok (.iadd, 1) := by decide +kernel
theorem dX7_right_112 : decode cX7_right 112 = .ok (.iload 4, 2) := by decide +kernel
theorem dX7_right_114 : decode cX7_right 114 = .ok (.iastore, 1) := by decide +kernel
theorem dX7_right_115 : decode cX7_right 115 = .ok (.aload_n 0, 1) := by decide +kernel
theorem dX7_right_116 : decode cX7_right 116 = .ok (.getfield 25, 3) := by decide +kernel
theorem dX7_right_119 : decode cX7_right 119 = .ok (.bipush 16, 2) := by decide +kernel
theorem dX7_right_121 : decode cX7_right 121 = .ok (.iload_n 1, 1) := by decide +kernel
theorem dX7_right_122 : decode cX7_right 122 = .ok (.imul, 1) := by decide +kernel
theorem dX7_right_123 : decode cX7_right 123 = .ok (.iload_n 2, 1) := by decide +kernel
theorem dX7_right_124 : decode cX7_right 124 = .ok (.iadd, 1) := by decide +kernel
theorem dX7_right_125 : decode cX7_right 125 = .ok (.iload 5, 2) := by decide +kernel
theorem dX7_right_127 : decode cX7_right 127 = .ok (.iastore, 1) := by decide +kernel
theorem dX7_right_128 : decode cX7_right 128 = .ok (.return_, 1) := by decide +kernel
theorem dX7_takeBack_0 : decode cX7_takeBack 0 = .ok (.aload_n 0, 1) := by decide +kernel
theorem dX7_takeBack_1 : decode cX7_takeBack 1 = .ok (.aload_n 0, 1) := by decide +kernel
theorem dX7_takeBack_2 : decode cX7_takeBack 2 = .ok (.iload_n 1, 1) := by decide +kernel
theorem dX7_takeBack_3 : decode cX7_takeBack 3 = .ok (.invokevirtual 81, 3) := by decide +kernel
theorem dX7_takeBack_6 : decode cX7_takeBack 6 = .ok (.ifCond .eq 15, 3) := by decide +kernel
theorem dX7_takeBack_9 : decode cX7_takeBack 9 = .ok (.aload_n 0, 1) := by decide +kernel
theorem dX7_takeBack_10 : decode cX7_takeBack 10 = .ok (.iload_n 2, 1) := by decide +kernel
theorem dX7_takeBack_11 : decode cX7_takeBack 11 = .ok (.invokevirtual 74, 3) := by decide +kernel
theorem dX7_takeBack_14 : decode cX7_takeBack 14 = .ok (.ifCond .eq 7, 3) := by decide +kernel
theorem dX7_takeBack_17 : decode cX7_takeBack 17 = .ok (.iconst 0, 1) := by decide +kernel
theorem dX7_takeBack_18 : decode cX7_takeBack 18 = .ok (.goto 4, 3) := by decide +kernel
theorem dX7_takeBack_21 : decode cX7_takeBack 21 = .ok (.iconst 1, 1) := by decide +kernel
theorem dX7_takeBack_22 : decode cX7_takeBack 22 = .ok (.invokevirtual 67, 3) := by decide +kernel
theorem dX7_takeBack_25 : decode cX7_takeBack 25 = .ok (.ifCond .ne 5, 3) := by decide +kernel
theorem dX7_takeBack_28 : decode cX7_takeBack 28 = .ok (.iconst 0, 1) := by decide +kernel
theorem dX7_takeBack_29 : decode cX7_takeBack 29 = .ok (.ireturn, 1) := by decide +kernel
theorem dX7_takeBack_30 : decode cX7_takeBack 30 = .ok (.aload_n 0, 1) := by decide +kernel
theorem dX7_takeBack_31 : decode cX7_takeBack 31 = .ok (.getfield 19, 3) := by decide +kernel
theorem dX7_takeBack_34 : decode cX7_takeBack 34 = .ok (.bipush 16, 2) := by decide +kernel
theorem dX7_takeBack_36 : decode cX7_takeBack 36 = .ok (.iload_n 1, 1) := by decide +kernel
theorem dX7_takeBack_37 : decode cX7_takeBack 37 = .ok (.imul, 1) := by decide +kernel
theorem dX7_takeBack_38 : decode cX7_takeBack 38 = .ok (.iload_n 2, 1) := by decide +kernel
theorem dX7_takeBack_39 : decode cX7_takeBack 39 = .ok (.iadd, 1) := by decide +kernel
theorem dX7_takeBack_40 : decode cX7_takeBack 40 = .ok (.iaload, 1) := by decide +kernel
theorem dX7_takeBack_41 : decode cX7_takeBack 41 = .ok (.ifCond .eq 7, 3) := by decide +kernel
theorem dX7_takeBack_44 : decode cX7_takeBack 44 = .ok (.iconst 1, 1) := by decide +kernel
theorem dX7_takeBack_45 : decode cX7_takeBack 45 = .ok (.goto 4, 3) := by decide +kernel
theorem dX7_takeBack_48 : decode cX7_takeBack 48 = .ok (.iconst 0, 1) := by decide +kernel
theorem dX7_takeBack_49 : decode cX7_takeBack 49 = .ok (.istore_n 3, 1) := by decide +kernel
theorem dX7_takeBack_50 : decode cX7_takeBack 50 = .ok (.aload_n 0, 1) := by decide +kernel
theorem dX7_takeBack_51 : decode cX7_takeBack 51 = .ok (.getfield 19, 3) := by decide +kernel
theorem dX7_takeBack_54 : decode cX7_takeBack 54 = .ok (.bipush 16, 2) := by decide +kernel
theorem dX7_takeBack_56 : decode cX7_takeBack 56 = .ok (.iload_n 1, 1) := by decide +kernel
theorem dX7_takeBack_57 : decode cX7_takeBack 57 = .ok (.imul, 1) := by decide +kernel
theorem dX7_takeBack_58 : decode cX7_takeBack 58 = .ok (.iload_n 2, 1) := by decide +kernel
theorem dX7_takeBack_59 : decode cX7_takeBack 59 = .ok (.iadd, 1) := by decide +kernel
theorem dX7_takeBack_60 : decode cX7_takeBack 60 = .ok (.iconst 0, 1) := by decide +kernel
theorem dX7_takeBack_61 : decode cX7_takeBack 61 = .ok (.iastore, 1) := by decide +kernel
theorem dX7_takeBack_62 : decode cX7_takeBack 62 = .ok (.iload_n 3, 1) := by decide +kernel
theorem dX7_takeBack_63 : decode cX7_takeBack 63 = .ok (.ifCond .eq 12, 3) := by decide +kernel
theorem dX7_takeBack_66 : decode cX7_takeBack 66 = .ok (.aload_n 0, 1) := by decide +kernel
theorem dX7_takeBack_67 : decode cX7_takeBack 67 = .ok (.iload_n 2, 1) := by decide +kernel
theorem dX7_takeBack_68 : decode cX7_takeBack 68 = .ok (.iload_n 1, 1) := by decide +kernel
theorem dX7_takeBack_69 : decode cX7_takeBack 69 = .ok (.invokevirtual 77, 3) := by decide +kernel
theorem dX7_takeBack_72 : decode cX7_takeBack 72 = .ok (.goto 4, 3) := by decide +kernel
theorem dX7_takeBack_75 : decode cX7_takeBack 75 = .ok (.iconst 0, 1) := by decide +kernel
theorem dX7_takeBack_76 : decode cX7_takeBack 76 = .ok (.ireturn, 1) := by decide +kernel
theorem dX7_seal_0 : decode cX7_seal 0 = .ok (.aload_n 0, 1) := by decide +kernel
theorem dX7_seal_1 : decode cX7_seal 1 = .ok (.iload_n 1, 1) := by decide +kernel
theorem dX7_seal_2 : decode cX7_seal 2 = .ok (.invokevirtual 74, 3) := by decide +kernel
theorem dX7_seal_5 : decode cX7_seal 5 = .ok (.istore_n 3, 1) := by decide +kernel
theorem dX7_seal_6 : decode cX7_seal 6 = .ok (.aload_n 0, 1) := by decide +kernel
theorem dX7_seal_7 : decode cX7_seal 7 = .ok (.iload_n 3, 1) := by decide +kernel
theorem dX7_seal_8 : decode cX7_seal 8 = .ok (.ifCond .ne 7, 3) := by decide +kernel
theorem dX7_seal_11 : decode cX7_seal 11 = .ok (.iconst 1, 1) := by decide +kernel
theorem dX7_seal_12 : decode cX7_seal 12 = .ok (.goto 19, 3) := by decide +kernel
theorem dX7_seal_15 : decode cX7_seal 15 = .ok (.iload_n 2, 1) := by decide +kernel
theorem dX7_seal_16 : decode cX7_seal 16 = .ok (.iconst 0, 1) := by decide +kernel
theorem dX7_seal_17 : decode cX7_seal 17 = .ok (.sipush 5000, 3) := by decide +kernel
theorem dX7_seal_20 : decode cX7_seal 20 = .ok (.invokestatic 60, 3) := by decide +kernel
theorem dX7_seal_23 : decode cX7_seal 23 = .ok (.ifCond .eq 7, 3) := by decide +kernel
theorem dX7_seal_26 : decode cX7_seal 26 = .ok (.iconst 0, 1) := by decide +kernel
theorem dX7_seal_27 : decode cX7_seal 27 = .ok (.goto 4, 3) := by decide +kernel
theorem dX7_seal_30 : decode cX7_seal 30 = .ok (.iconst 2, 1) := by decide +kernel
theorem dX7_seal_31 : decode cX7_seal 31 = .ok (.invokevirtual 67, 3) := by decide +kernel
theorem dX7_seal_34 : decode cX7_seal 34 = .ok (.ifCond .eq 10, 3) := by decide +kernel
theorem dX7_seal_37 : decode cX7_seal 37 = .ok (.aload_n 0, 1) := by decide +kernel
theorem dX7_seal_38 : decode cX7_seal 38 = .ok (.getfield 13, 3) := by decide +kernel
theorem dX7_seal_41 : decode cX7_seal 41 = .ok (.iload_n 1, 1) := by decide +kernel
theorem dX7_seal_42 : decode cX7_seal 42 = .ok (.iload_n 2, 1) := by decide +kernel
theorem dX7_seal_43 : decode cX7_seal 43 = .ok (.iastore, 1) := by decide +kernel
theorem dX7_seal_44 : decode cX7_seal 44 = .ok (.return_, 1) := by decide +kernel
theorem dX7_pass_0 : decode cX7_pass 0 = .ok (.iload_n 1, 1) := by decide +kernel
theorem dX7_pass_1 : decode cX7_pass 1 = .ok (.iconst 1, 1) := by decide +kernel
theorem dX7_pass_2 : decode cX7_pass 2 = .ok (.sipush 500, 3) := by decide +kernel
theorem dX7_pass_5 : decode cX7_pass 5 = .ok (.invokestatic 60, 3) := by decide +kernel
theorem dX7_pass_8 : decode cX7_pass 8 = .ok (.istore_n 2, 1) := by decide +kernel
theorem dX7_pass_9 : decode cX7_pass 9 = .ok (.aload_n 0, 1) := by decide +kernel
theorem dX7_pass_10 : decode cX7_pass 10 = .ok (.iload_n 2, 1) := by decide +kernel
theorem dX7_pass_11 : decode cX7_pass 11 = .ok (.ifCond .ne 7, 3) := by decide +kernel
theorem dX7_pass_14 : decode cX7_pass 14 = .ok (.iconst 1, 1) := by decide +kernel
theorem dX7_pass_15 : decode cX7_pass 15 = .ok (.goto 20, 3) := by decide +kernel
theorem dX7_pass_18 : decode cX7_pass 18 = .ok (.aload_n 0, 1) := by decide +kernel
theorem dX7_pass_19 : decode cX7_pass 19 = .ok (.getfield 84, 3) := by decide +kernel
theorem dX7_pass_22 : decode cX7_pass 22 = .ok (.iload_n 1, 1) := by decide +kernel
theorem dX7_pass_23 : decode cX7_pass 23 = .ok (.iadd, 1) := by decide +kernel
theorem dX7_pass_24 : decode cX7_pass 24 = .ok (.sipush 5000, 3) := by decide +kernel
theorem dX7_pass_27 : decode cX7_pass 27 = .ok (.if_icmp .le 7, 3) := by decide +kernel
theorem dX7_pass_30 : decode cX7_pass 30 = .ok (.iconst 2, 1) := by decide +kernel
theorem dX7_pass_31 : decode cX7_pass 31 = .ok (.goto 4, 3) := by decide +kernel
theorem dX7_pass_34 : decode cX7_pass 34 = .ok (.iconst 0, 1) := by decide +kernel
theorem dX7_pass_35 : decode cX7_pass 35 = .ok (.invokevirtual 67, 3) := by decide +kernel
theorem dX7_pass_38 : decode cX7_pass 38 = .ok (.ifCond .ne 5, 3) := by decide +kernel
theorem dX7_pass_41 : decode cX7_pass 41 = .ok (.iconst 0, 1) := by decide +kernel
theorem dX7_pass_42 : decode cX7_pass 42 = .ok (.ireturn, 1) := by decide +kernel
theorem dX7_pass_43 : decode cX7_pass 43 = .ok (.aload_n 0, 1) := by decide +kernel
theorem dX7_pass_44 : decode cX7_pass 44 = .ok (.dup, 1) := by decide +kernel
theorem dX7_pass_45 : decode cX7_pass 45 = .ok (.getfield 84, 3) := by decide +kernel
theorem dX7_pass_48 : decode cX7_pass 48 = .ok (.iload_n 1, 1) := by decide +kernel
theorem dX7_pass_49 : decode cX7_pass 49 = .ok (.iadd, 1) := by decide +kernel
theorem dX7_pass_50 : decode cX7_pass 50 = .ok (.putfield 84, 3) := by decide +kernel
theorem dX7_pass_53 : decode cX7_pass 53 = .ok (.aload_n 0, 1) := by decide +kernel
theorem dX7_pass_54 : decode cX7_pass 54 = .ok (.getfield 84, 3) := by decide +kernel
theorem dX7_pass_57 : decode cX7_pass 57 = .ok (.ireturn, 1) := by decide +kernel
theorem dX7_rightOf_0 : decode cX7_rightOf 0 = .ok (.bipush 16, 2) := by decide +kernel
theorem dX7_rightOf_2 : decode cX7_rightOf 2 = .ok (.iload_n 1, 1) := by decide +kernel
theorem dX7_rightOf_3 : decode cX7_rightOf 3 = .ok (.imul, 1) := by decide +kernel
theorem dX7_rightOf_4 : decode cX7_rightOf 4 = .ok (.iload_n 2, 1) := by decide +kernel
theorem dX7_rightOf_5 : decode cX7_rightOf 5 = .ok (.iadd, 1) := by decide +kernel
theorem dX7_rightOf_6 : decode cX7_rightOf 6 = .ok (.istore_n 3, 1) := by decide +kernel
theorem dX7_rightOf_7 : decode cX7_rightOf 7 = .ok (.aload_n 0, 1) := by decide +kernel
theorem dX7_rightOf_8 : decode cX7_rightOf 8 = .ok (.getfield 19, 3) := by decide +kernel
theorem dX7_rightOf_11 : decode cX7_rightOf 11 = .ok (.iload_n 3, 1) := by decide +kernel
theorem dX7_rightOf_12 : decode cX7_rightOf 12 = .ok (.iaload, 1) := by decide +kernel
theorem dX7_rightOf_13 : decode cX7_rightOf 13 = .ok (.ifCond .eq 34, 3) := by decide +kernel
theorem dX7_rightOf_16 : decode cX7_rightOf 16 = .ok (.aload_n 0, 1) := by decide +kernel
theorem dX7_rightOf_17 : decode cX7_rightOf 17 = .ok (.getfield 84, 3) := by decide +kernel
theorem dX7_rightOf_20 : decode cX7_rightOf 20 = .ok (.aload_n 0, 1) := by decide +kernel
theorem dX7_rightOf_21 : decode cX7_rightOf 21 = .ok (.getfield 22, 3) := by decide +kernel
theorem dX7_rightOf_24 : decode cX7_rightOf 24 = .ok (.iload_n 3, 1) := by decide +kernel
theorem dX7_rightOf_25 : decode cX7_rightOf 25 = .ok (.iaload, 1) := by decide +kernel
theorem dX7_rightOf_26 : decode cX7_rightOf 26 = .ok (.aload_n 0, 1) := by decide +kernel
theorem dX7_rightOf_27 : decode cX7_rightOf 27 = .ok (.getfield 25, 3) := by decide +kernel
theorem dX7_rightOf_30 : decode cX7_rightOf 30 = .ok (.iload_n 3, 1) := by decide +kernel
theorem dX7_rightOf_31 : decode cX7_rightOf 31 = .ok (.iaload, 1) := by decide +kernel
theorem dX7_rightOf_32 : decode cX7_rightOf 32 = .ok (.invokestatic 60, 3) := by decide +kernel
theorem dX7_rightOf_35 : decode cX7_rightOf 35 = .ok (.ifCond .eq 12, 3) := by decide +kernel
theorem dX7_rightOf_38 : decode cX7_rightOf 38 = .ok (.aload_n 0, 1) := by decide +kernel
theorem dX7_rightOf_39 : decode cX7_rightOf 39 = .ok (.getfield 19, 3) := by decide +kernel
theorem dX7_rightOf_42 : decode cX7_rightOf 42 = .ok (.iload_n 3, 1) := by decide +kernel
theorem dX7_rightOf_43 : decode cX7_rightOf 43 = .ok (.iaload, 1) := by decide +kernel
theorem dX7_rightOf_44 : decode cX7_rightOf 44 = .ok (.goto 4, 3) := by decide +kernel
theorem dX7_rightOf_47 : decode cX7_rightOf 47 = .ok (.iconst 0, 1) := by decide +kernel
theorem dX7_rightOf_48 : decode cX7_rightOf 48 = .ok (.ireturn, 1) := by decide +kernel
theorem dX7_reduce_0 : decode cX7_reduce 0 = .ok (.iload_n 1, 1) := by decide +kernel
theorem dX7_reduce_1 : decode cX7_reduce 1 = .ok (.istore_n 2, 1) := by decide +kernel
theorem dX7_reduce_2 : decode cX7_reduce 2 = .ok (.bipush 15, 2) := by decide +kernel
theorem dX7_reduce_4 : decode cX7_reduce 4 = .ok (.istore_n 3, 1) := by decide +kernel
theorem dX7_reduce_5 : decode cX7_reduce 5 = .ok (.iload_n 3, 1) := by decide +kernel
theorem dX7_reduce_6 : decode cX7_reduce 6 = .ok (.ifCond .lt 31, 3) := by decide +kernel
theorem dX7_reduce_9 : decode cX7_reduce 9 = .ok (.iload_n 2, 1) := by decide +kernel
theorem dX7_reduce_10 : decode cX7_reduce 10 = .ok (.iload_n 2, 1) := by decide +kernel
theorem dX7_reduce_11 : decode cX7_reduce 11 = .ok (.iload_n 3, 1) := by decide +kernel
theorem dX7_reduce_12 : decode cX7_reduce 12 = .ok (.ishr, 1) := by decide +kernel
theorem dX7_reduce_13 : decode cX7_reduce 13 = .ok (.iconst 1, 1) := by decide +kernel
theorem dX7_reduce_14 : decode cX7_reduce 14 = .ok (.iand, 1) := by decide +kernel
theorem dX7_reduce_15 : decode cX7_reduce 15 = .ok (.iconst 1, 1) := by decide +kernel
theorem dX7_reduce_16 : decode cX7_reduce 16 = .ok (.if_icmp .ne 12, 3) := by decide +kernel
theorem dX7_reduce_19 : decode cX7_reduce 19 = .ok (.aload_n 0, 1) := by decide +kernel
theorem dX7_reduce_20 : decode cX7_reduce 20 = .ok (.getfield 50, 3) := by decide +kernel
theorem dX7_reduce_23 : decode cX7_reduce 23 = .ok (.iload_n 3, 1) := by decide +kernel
theorem dX7_reduce_24 : decode cX7_reduce 24 = .ok (.iaload, 1) := by decide +kernel
theorem dX7_reduce_25 : decode cX7_reduce 25 = .ok (.goto 4, 3) := by decide +kernel
theorem dX7_reduce_28 : decode cX7_reduce 28 = .ok (.iconst 0, 1) := by decide +kernel
theorem dX7_reduce_29 : decode cX7_reduce 29 = .ok (.ixor, 1) := by decide +kernel
theorem dX7_reduce_30 : decode cX7_reduce 30 = .ok (.istore_n 2, 1) := by decide +kernel
theorem dX7_reduce_31 : decode cX7_reduce 31 = .ok (.iinc 3 (-1), 3) := by decide +kernel
theorem dX7_reduce_34 : decode cX7_reduce 34 = .ok (.goto (-29), 3) := by decide +kernel
theorem dX7_reduce_37 : decode cX7_reduce 37 = .ok (.iload_n 2, 1) := by decide +kernel
theorem dX7_reduce_38 : decode cX7_reduce 38 = .ok (.ireturn, 1) := by decide +kernel
theorem dX7_highest_0 : decode cX7_highest 0 = .ok (.iconst (-1), 1) := by decide +kernel
theorem dX7_highest_1 : decode cX7_highest 1 = .ok (.istore_n 1, 1) := by decide +kernel
theorem dX7_highest_2 : decode cX7_highest 2 = .ok (.iconst 0, 1) := by decide +kernel
theorem dX7_highest_3 : decode cX7_highest 3 = .ok (.istore_n 2, 1) := by decide +kernel
theorem dX7_highest_4 : decode cX7_highest 4 = .ok (.iload_n 2, 1) := by decide +kernel
theorem dX7_highest_5 : decode cX7_highest 5 = .ok (.bipush 16, 2) := by decide +kernel
theorem dX7_highest_7 : decode cX7_highest 7 = .ok (.if_icmp .ge 24, 3) := by decide +kernel
theorem dX7_highest_10 : decode cX7_highest 10 = .ok (.iload_n 0, 1) := by decide +kernel
theorem dX7_highest_11 : decode cX7_highest 11 = .ok (.iload_n 2, 1) := by decide +kernel
theorem dX7_highest_12 : decode cX7_highest 12 = .ok (.ishr, 1) := by decide +kernel
theorem dX7_highest_13 : decode cX7_highest 13 = .ok (.iconst 1, 1) := by decide +kernel
theorem dX7_highest_14 : decode cX7_highest 14 = .ok (.iand, 1) := by decide +kernel
theorem dX7_highest_15 : decode cX7_highest 15 = .ok (.iconst 1, 1) := by decide +kernel
theorem dX7_highest_16 : decode cX7_highest 16 = .ok (.if_icmp .ne 7, 3) := by decide +kernel
theorem dX7_highest_19 : decode cX7_highest 19 = .ok (.iload_n 2, 1) := by decide +kernel
theorem dX7_highest_20 : decode cX7_highest 20 = .ok (.goto 4, 3) := by decide +kernel
theorem dX7_highest_23 : decode cX7_highest 23 = .ok (.iload_n 1, 1) := by decide +kernel
theorem dX7_highest_24 : decode cX7_highest 24 = .ok (.istore_n 1, 1) := by decide +kernel
theorem dX7_highest_25 : decode cX7_highest 25 = .ok (.iinc 2 1, 3) := by decide +kernel
theorem dX7_highest_28 : decode cX7_highest 28 = .ok (.goto (-24), 3) := by decide +kernel
theorem dX7_highest_31 : decode cX7_highest 31 = .ok (.iload_n 1, 1) := by decide +kernel
theorem dX7_highest_32 : decode cX7_highest 32 = .ok (.ireturn, 1) := by decide +kernel
theorem dX7_learn_0 : decode cX7_learn 0 = .ok (.aload_n 0, 1) := by decide +kernel
theorem dX7_learn_1 : decode cX7_learn 1 = .ok (.iload_n 1, 1) := by decide +kernel
theorem dX7_learn_2 : decode cX7_learn 2 = .ok (.invokevirtual 87, 3) := by decide +kernel
theorem dX7_learn_5 : decode cX7_learn 5 = .ok (.istore_n 2, 1) := by decide +kernel
theorem dX7_learn_6 : decode cX7_learn 6 = .ok (.iload_n 2, 1) := by decide +kernel
theorem dX7_learn_7 : decode cX7_learn 7 = .ok (.ifCond .eq 13, 3) := by decide +kernel
theorem dX7_learn_10 : decode cX7_learn 10 = .ok (.aload_n 0, 1) := by decide +kernel
theorem dX7_learn_11 : decode cX7_learn 11 = .ok (.getfield 50, 3) := by decide +kernel
theorem dX7_learn_14 : decode cX7_learn 14 = .ok (.iload_n 2, 1) := by decide +kernel
theorem dX7_learn_15 : decode cX7_learn 15 = .ok (.invokestatic 91, 3) := by decide +kernel
theorem dX7_learn_18 : decode cX7_learn 18 = .ok (.iload_n 2, 1) := by decide +kernel
theorem dX7_learn_19 : decode cX7_learn 19 = .ok (.iastore, 1) := by decide +kernel
theorem dX7_learn_20 : decode cX7_learn 20 = .ok (.iload_n 2, 1) := by decide +kernel
theorem dX7_learn_21 : decode cX7_learn 21 = .ok (.ifCond .eq 7, 3) := by decide +kernel
theorem dX7_learn_24 : decode cX7_learn 24 = .ok (.iconst 1, 1) := by decide +kernel
theorem dX7_learn_25 : decode cX7_learn 25 = .ok (.goto 4, 3) := by decide +kernel
theorem dX7_learn_28 : decode cX7_learn 28 = .ok (.iconst 0, 1) := by decide +kernel
theorem dX7_learn_29 : decode cX7_learn 29 = .ok (.ireturn, 1) := by decide +kernel
theorem dX7_know_0 : decode cX7_know 0 = .ok (.iconst 0, 1) := by decide +kernel
theorem dX7_know_1 : decode cX7_know 1 = .ok (.istore_n 3, 1) := by decide +kernel
theorem dX7_know_2 : decode cX7_know 2 = .ok (.iload_n 3, 1) := by decide +kernel
theorem dX7_know_3 : decode cX7_know 3 = .ok (.bipush 16, 2) := by decide +kernel
theorem dX7_know_5 : decode cX7_know 5 = .ok (.if_icmp .ge 16, 3) := by decide +kernel
theorem dX7_know_8 : decode cX7_know 8 = .ok (.aload_n 0, 1) := by decide +kernel
theorem dX7_know_9 : decode cX7_know 9 = .ok (.getfield 50, 3) := by decide +kernel
theorem dX7_know_12 : decode cX7_know 12 = .ok (.iload_n 3, 1) := by decide +kernel
theorem dX7_know_13 : decode cX7_know 13 = .ok (.iconst 0, 1) := by decide +kernel
theorem dX7_know_14 : decode cX7_know 14 = .ok (.iastore, 1) := by decide +kernel
theorem dX7_know_15 : decode cX7_know 15 = .ok (.iinc 3 1, 3) := by decide +kernel
theorem dX7_know_18 : decode cX7_know 18 = .ok (.goto (-16), 3) := by decide +kernel
theorem dX7_know_21 : decode cX7_know 21 = .ok (.iconst 0, 1) := by decide +kernel
theorem dX7_know_22 : decode cX7_know 22 = .ok (.istore_n 3, 1) := by decide +kernel
theorem dX7_know_23 : decode cX7_know 23 = .ok (.iconst 0, 1) := by decide +kernel
theorem dX7_know_24 : decode cX7_know 24 = .ok (.istore 4, 2) := by decide +kernel
theorem dX7_know_26 : decode cX7_know 26 = .ok (.iload 4, 2) := by decide +kernel
theorem dX7_know_28 : decode cX7_know 28 = .ok (.aload_n 0, 1) := by decide +kernel
theorem dX7_know_29 : decode cX7_know 29 = .ok (.getfield 71, 3) := by decide +kernel
theorem dX7_know_32 : decode cX7_know 32 = .ok (.if_icmp .ge 90, 3) := by decide +kernel
theorem dX7_know_35 : decode cX7_know 35 = .ok (.aload_n 0, 1) := by decide +kernel
theorem dX7_know_36 : decode cX7_know 36 = .ok (.getfield 43, 3) := by decide +kernel
theorem dX7_know_39 : decode cX7_know 39 = .ok (.iload 4, 2) := by decide +kernel
theorem dX7_know_41 : decode cX7_know 41 = .ok (.baload, 1) := by decide +kernel
theorem dX7_know_42 : decode cX7_know 42 = .ok (.ifCond .ne 44, 3) := by decide +kernel
theorem dX7_know_45 : decode cX7_know 45 = .ok (.iload_n 1, 1) := by decide +kernel
theorem dX7_know_46 : decode cX7_know 46 = .ok (.aload_n 0, 1) := by decide +kernel
theorem dX7_know_47 : decode cX7_know 47 = .ok (.getfield 28, 3) := by decide +kernel
theorem dX7_know_50 : decode cX7_know 50 = .ok (.iload 4, 2) := by decide +kernel
theorem dX7_know_52 : decode cX7_know 52 = .ok (.iaload, 1) := by decide +kernel
theorem dX7_know_53 : decode cX7_know 53 = .ok (.ishr, 1) := by decide +kernel
theorem dX7_know_54 : decode cX7_know 54 = .ok (.iconst 1, 1) := by decide +kernel
theorem dX7_know_55 : decode cX7_know 55 = .ok (.iand, 1) := by decide +kernel
theorem dX7_know_56 : decode cX7_know 56 = .ok (.iconst 1, 1) := by decide +kernel
theorem dX7_know_57 : decode cX7_know 57 = .ok (.if_icmp .ne 29, 3) := by decide +kernel
theorem dX7_know_60 : decode cX7_know 60 = .ok (.aload_n 0, 1) := by decide +kernel
theorem dX7_know_61 : decode cX7_know 61 = .ok (.getfield 34, 3) := by decide +kernel
theorem dX7_know_64 : decode cX7_know 64 = .ok (.iload 4, 2) := by decide +kernel
theorem dX7_know_66 : decode cX7_know 66 = .ok (.iaload, 1) := by decide +kernel
theorem dX7_know_67 : decode cX7_know 67 = .ok (.iconst (-1), 1) := by decide +kernel
theorem dX7_know_68 : decode cX7_know 68 = .ok (.if_icmp .eq 14, 3) := by decide +kernel
theorem dX7_know_71 : decode cX7_know 71 = .ok (.aload_n 0, 1) := by decide +kernel
theorem dX7_know_72 : decode cX7_know 72 = .ok (.getfield 34, 3) := by decide +kernel
theorem dX7_know_75 : decode cX7_know 75 = .ok (.iload 4, 2) := by decide +kernel
theorem dX7_know_77 : decode cX7_know 77 = .ok (.iaload, 1) := by decide +kernel
theorem dX7_know_78 : decode cX7_know 78 = .ok (.iload_n 2, 1) := by decide +kernel
theorem dX7_know_79 : decode cX7_know 79 = .ok (.if_icmp .ne 7, 3) := by decide +kernel
theorem dX7_know_82 : decode cX7_know 82 = .ok (.iconst 1, 1) := by decide +kernel
theorem dX7_know_83 : decode cX7_know 83 = .ok (.goto 4, 3) := by decide +kernel
theorem dX7_know_86 : decode cX7_know 86 = .ok (.iconst 0, 1) := by decide +kernel
theorem dX7_know_87 : decode cX7_know 87 = .ok (.istore 5, 2) := by decide +kernel
theorem dX7_know_89 : decode cX7_know 89 = .ok (.iload_n 3, 1) := by decide +kernel
theorem dX7_know_90 : decode cX7_know 90 = .ok (.iload 5, 2) := by decide +kernel
theorem dX7_know_92 : decode cX7_know 92 = .ok (.ifCond .eq 21, 3) := by decide +kernel
theorem dX7_know_95 : decode cX7_know 95 = .ok (.aload_n 0, 1) := by decide +kernel
theorem dX7_know_96 : decode cX7_know 96 = .ok (.aload_n 0, 1) := by decide +kernel
theorem dX7_know_97 : decode cX7_know 97 = .ok (.getfield 31, 3) := by decide +kernel
theorem dX7_know_100 : decode cX7_know 100 = .ok (.iload 4, 2) := by decide +kernel
theorem dX7_know_102 : decode cX7_know 102 = .ok (.iaload, 1) := by decide +kernel
theorem dX7_know_103 : decode cX7_know 103 = .ok (.invokevirtual 94, 3) := by decide +kernel
theorem dX7_know_106 : decode cX7_know 106 = .ok (.ifCond .eq 7, 3) := by decide +kernel
theorem dX7_know_109 : decode cX7_know 109 = .ok (.iconst 1, 1) := by decide +kernel
theorem dX7_know_110 : decode cX7_know 110 = .ok (.goto 4, 3) := by decide +kernel
theorem dX7_know_113 : decode cX7_know 113 = .ok (.iconst 0, 1) := by decide +kernel
theorem dX7_know_114 : decode cX7_know 114 = .ok (.iadd, 1) := by decide +kernel
theorem dX7_know_115 : decode cX7_know 115 = .ok (.istore_n 3, 1) := by decide +kernel
theorem dX7_know_116 : decode cX7_know 116 = .ok (.iinc 4 1, 3) := by decide +kernel
theorem dX7_know_119 : decode cX7_know 119 = .ok (.goto (-93), 3) := by decide +kernel
theorem dX7_know_122 : decode cX7_know 122 = .ok (.iload_n 3, 1) := by decide +kernel
theorem dX7_know_123 : decode cX7_know 123 = .ok (.ireturn, 1) := by decide +kernel
theorem dX7_spentBy_0 : decode cX7_spentBy 0 = .ok (.iconst 0, 1) := by decide +kernel
theorem dX7_spentBy_1 : decode cX7_spentBy 1 = .ok (.istore_n 2, 1) := by decide +kernel
theorem dX7_spentBy_2 : decode cX7_spentBy 2 = .ok (.iconst 0, 1) := by decide +kernel
theorem dX7_spentBy_3 : decode cX7_spentBy 3 = .ok (.istore_n 3, 1) := by decide +kernel
theorem dX7_spentBy_4 : decode cX7_spentBy 4 = .ok (.iload_n 3, 1) := by decide +kernel
theorem dX7_spentBy_5 : decode cX7_spentBy 5 = .ok (.bipush 8, 2) := by decide +kernel
theorem dX7_spentBy_7 : decode cX7_spentBy 7 = .ok (.if_icmp .ge 20, 3) := by decide +kernel
theorem dX7_spentBy_10 : decode cX7_spentBy 10 = .ok (.iload_n 2, 1) := by decide +kernel
theorem dX7_spentBy_11 : decode cX7_spentBy 11 = .ok (.aload_n 0, 1) := by decide +kernel
theorem dX7_spentBy_12 : decode cX7_spentBy 12 = .ok (.iconst 1, 1) := by decide +kernel
theorem dX7_spentBy_13 : decode cX7_spentBy 13 = .ok (.iload_n 1, 1) := by decide +kernel
theorem dX7_spentBy_14 : decode cX7_spentBy 14 = .ok (.ishl, 1) := by decide +kernel
theorem dX7_spentBy_15 : decode cX7_spentBy 15 = .ok (.iload_n 3, 1) := by decide +kernel
theorem dX7_spentBy_16 : decode cX7_spentBy 16 = .ok (.invokevirtual 97, 3) := by decide +kernel
theorem dX7_spentBy_19 : decode cX7_spentBy 19 = .ok (.iadd, 1) := by decide +kernel
theorem dX7_spentBy_20 : decode cX7_spentBy 20 = .ok (.istore_n 2, 1) := by decide +kernel
theorem dX7_spentBy_21 : decode cX7_spentBy 21 = .ok (.iinc 3 1, 3) := by decide +kernel
theorem dX7_spentBy_24 : decode cX7_spentBy 24 = .ok (.goto (-20), 3) := by decide +kernel
theorem dX7_spentBy_27 : decode cX7_spentBy 27 = .ok (.iload_n 2, 1) := by decide +kernel
theorem dX7_spentBy_28 : decode cX7_spentBy 28 = .ok (.ireturn, 1) := by decide +kernel
theorem dX7_found_0 : decode cX7_found 0 = .ok (.iconst 0, 1) := by decide +kernel
theorem dX7_found_1 : decode cX7_found 1 = .ok (.istore_n 1, 1) := by decide +kernel
theorem dX7_found_2 : decode cX7_found 2 = .ok (.iconst 0, 1) := by decide +kernel
theorem dX7_found_3 : decode cX7_found 3 = .ok (.istore_n 2, 1) := by decide +kernel
theorem dX7_found_4 : decode cX7_found 4 = .ok (.iload_n 2, 1) := by decide +kernel
theorem dX7_found_5 : decode cX7_found 5 = .ok (.aload_n 0, 1) := by decide +kernel
theorem dX7_found_6 : decode cX7_found 6 = .ok (.getfield 57, 3) := by decide +kernel
theorem dX7_found_9 : decode cX7_found 9 = .ok (.if_icmp .ge 29, 3) := by decide +kernel
theorem dX7_found_12 : decode cX7_found 12 = .ok (.iload_n 1, 1) := by decide +kernel
theorem dX7_found_13 : decode cX7_found 13 = .ok (.aload_n 0, 1) := by decide +kernel
theorem dX7_found_14 : decode cX7_found 14 = .ok (.iconst 1, 1) := by decide +kernel
theorem dX7_found_15 : decode cX7_found 15 = .ok (.iload_n 2, 1) := by decide +kernel
theorem dX7_found_16 : decode cX7_found 16 = .ok (.ishl, 1) := by decide +kernel
theorem dX7_found_17 : decode cX7_found 17 = .ok (.invokevirtual 87, 3) := by decide +kernel
theorem dX7_found_20 : decode cX7_found 20 = .ok (.ifCond .ne 9, 3) := by decide +kernel
theorem dX7_found_23 : decode cX7_found 23 = .ok (.iconst 1, 1) := by decide +kernel
theorem dX7_found_24 : decode cX7_found 24 = .ok (.iload_n 2, 1) := by decide +kernel
theorem dX7_found_25 : decode cX7_found 25 = .ok (.ishl, 1) := by decide +kernel
theorem dX7_found_26 : decode cX7_found 26 = .ok (.goto 4, 3) := by decide +kernel
theorem dX7_found_29 : decode cX7_found 29 = .ok (.iconst 0, 1) := by decide +kernel
theorem dX7_found_30 : decode cX7_found 30 = .ok (.ior, 1) := by decide +kernel
theorem dX7_found_31 : decode cX7_found 31 = .ok (.istore_n 1, 1) := by decide +kernel
theorem dX7_found_32 : decode cX7_found 32 = .ok (.iinc 2 1, 3) := by decide +kernel
theorem dX7_found_35 : decode cX7_found 35 = .ok (.goto (-31), 3) := by decide +kernel
theorem dX7_found_38 : decode cX7_found 38 = .ok (.iload_n 1, 1) := by decide +kernel
theorem dX7_found_39 : decode cX7_found 39 = .ok (.ireturn, 1) := by decide +kernel
theorem dX7_isAsked_0 : decode cX7_isAsked 0 = .ok (.iload_n 0, 1) := by decide +kernel
theorem dX7_isAsked_1 : decode cX7_isAsked 1 = .ok (.iconst (-1), 1) := by decide +kernel
theorem dX7_isAsked_2 : decode cX7_isAsked 2 = .ok (.if_icmp .eq 8, 3) := by decide +kernel
theorem dX7_isAsked_5 : decode cX7_isAsked 5 = .ok (.iload_n 0, 1) := by decide +kernel
theorem dX7_isAsked_6 : decode cX7_isAsked 6 = .ok (.iload_n 1, 1) := by decide +kernel
theorem dX7_isAsked_7 : decode cX7_isAsked 7 = .ok (.if_icmp .ne 7, 3) := by decide +kernel
theorem dX7_isAsked_10 : decode cX7_isAsked 10 = .ok (.iconst 1, 1) := by decide +kernel
theorem dX7_isAsked_11 : decode cX7_isAsked 11 = .ok (.goto 4, 3) := by decide +kernel
theorem dX7_isAsked_14 : decode cX7_isAsked 14 = .ok (.iconst 0, 1) := by decide +kernel
theorem dX7_isAsked_15 : decode cX7_isAsked 15 = .ok (.ireturn, 1) := by decide +kernel
theorem dX7_costOf_0 : decode cX7_costOf 0 = .ok (.iconst 0, 1) := by decide +kernel
theorem dX7_costOf_1 : decode cX7_costOf 1 = .ok (.istore 4, 2) := by decide +kernel
theorem dX7_costOf_3 : decode cX7_costOf 3 = .ok (.iconst 0, 1) := by decide +kernel
theorem dX7_costOf_4 : decode cX7_costOf 4 = .ok (.istore 5, 2) := by decide +kernel
theorem dX7_costOf_6 : decode cX7_costOf 6 = .ok (.iload 5, 2) := by decide +kernel
theorem dX7_costOf_8 : decode cX7_costOf 8 = .ok (.bipush 8, 2) := by decide +kernel
theorem dX7_costOf_10 : decode cX7_costOf 10 = .ok (.if_icmp .ge 46, 3) := by decide +kernel
theorem dX7_costOf_13 : decode cX7_costOf 13 = .ok (.iload_n 3, 1) := by decide +kernel
theorem dX7_costOf_14 : decode cX7_costOf 14 = .ok (.iload 5, 2) := by decide +kernel
theorem dX7_costOf_16 : decode cX7_costOf 16 = .ok (.invokestatic 100, 3) := by decide +kernel
theorem dX7_costOf_19 : decode cX7_costOf 19 = .ok (.ifCond .eq 31, 3) := by decide +kernel
theorem dX7_costOf_22 : decode cX7_costOf 22 = .ok (.aload_n 0, 1) := by decide +kernel
theorem dX7_costOf_23 : decode cX7_costOf 23 = .ok (.iconst 1, 1) := by decide +kernel
theorem dX7_costOf_24 : decode cX7_costOf 24 = .ok (.iload_n 1, 1) := by decide +kernel
theorem dX7_costOf_25 : decode cX7_costOf 25 = .ok (.ishl, 1) := by decide +kernel
theorem dX7_costOf_26 : decode cX7_costOf 26 = .ok (.iload 5, 2) := by decide +kernel
theorem dX7_costOf_28 : decode cX7_costOf 28 = .ok (.invokevirtual 97, 3) := by decide +kernel
theorem dX7_costOf_31 : decode cX7_costOf 31 = .ok (.pop, 1) := by decide +kernel
theorem dX7_costOf_32 : decode cX7_costOf 32 = .ok (.iload 4, 2) := by decide +kernel
theorem dX7_costOf_34 : decode cX7_costOf 34 = .ok (.aload_n 0, 1) := by decide +kernel
theorem dX7_costOf_35 : decode cX7_costOf 35 = .ok (.iload_n 2, 1) := by decide +kernel
theorem dX7_costOf_36 : decode cX7_costOf 36 = .ok (.invokevirtual 87, 3) := by decide +kernel
theorem dX7_costOf_39 : decode cX7_costOf 39 = .ok (.ifCond .eq 7, 3) := by decide +kernel
theorem dX7_costOf_42 : decode cX7_costOf 42 = .ok (.iconst 1, 1) := by decide +kernel
theorem dX7_costOf_43 : decode cX7_costOf 43 = .ok (.goto 4, 3) := by decide +kernel
theorem dX7_costOf_46 : decode cX7_costOf 46 = .ok (.iconst 0, 1) := by decide +kernel
theorem dX7_costOf_47 : decode cX7_costOf 47 = .ok (.iadd, 1) := by decide +kernel
theorem dX7_costOf_48 : decode cX7_costOf 48 = .ok (.istore 4, 2) := by decide +kernel
theorem dX7_costOf_50 : decode cX7_costOf 50 = .ok (.iinc 5 1, 3) := by decide +kernel
theorem dX7_costOf_53 : decode cX7_costOf 53 = .ok (.goto (-47), 3) := by decide +kernel
theorem dX7_costOf_56 : decode cX7_costOf 56 = .ok (.iload 4, 2) := by decide +kernel
theorem dX7_costOf_58 : decode cX7_costOf 58 = .ok (.ireturn, 1) := by decide +kernel
theorem dX7_wouldTell_0 : decode cX7_wouldTell 0 = .ok (.iconst 0, 1) := by decide +kernel
theorem dX7_wouldTell_1 : decode cX7_wouldTell 1 = .ok (.istore 4, 2) := by decide +kernel
theorem dX7_wouldTell_3 : decode cX7_wouldTell 3 = .ok (.iconst 0, 1) := by decide +kernel
theorem dX7_wouldTell_4 : decode cX7_wouldTell 4 = .ok (.istore 5, 2) := by decide +kernel
theorem dX7_wouldTell_6 : decode cX7_wouldTell 6 = .ok (.iload 5, 2) := by decide +kernel
theorem dX7_wouldTell_8 : decode cX7_wouldTell 8 = .ok (.bipush 8, 2) := by decide +kernel
theorem dX7_wouldTell_10 : decode cX7_wouldTell 10 = .ok (.if_icmp .ge 103, 3) := by decide +kernel
theorem dX7_wouldTell_13 : decode cX7_wouldTell 13 = .ok (.iload_n 3, 1) := by decide +kernel
theorem dX7_wouldTell_14 : decode cX7_wouldTell 14 = .ok (.iload 5, 2) := by decide +kernel
theorem dX7_wouldTell_16 : decode cX7_wouldTell 16 = .ok (.invokestatic 100, 3) := by decide +kernel
theorem dX7_wouldTell_19 : decode cX7_wouldTell 19 = .ok (.ifCond .eq 88, 3) := by decide +kernel
theorem dX7_wouldTell_22 : decode cX7_wouldTell 22 = .ok (.aload_n 0, 1) := by decide +kernel
theorem dX7_wouldTell_23 : decode cX7_wouldTell 23 = .ok (.iconst 1, 1) := by decide +kernel
theorem dX7_wouldTell_24 : decode cX7_wouldTell 24 = .ok (.iload_n 1, 1) := by decide +kernel
theorem dX7_wouldTell_25 : decode cX7_wouldTell 25 = .ok (.ishl, 1) := by decide +kernel
theorem dX7_wouldTell_26 : decode cX7_wouldTell 26 = .ok (.iload 5, 2) := by decide +kernel
theorem dX7_wouldTell_28 : decode cX7_wouldTell 28 = .ok (.invokevirtual 97, 3) := by decide +kernel
theorem dX7_wouldTell_31 : decode cX7_wouldTell 31 = .ok (.pop, 1) := by decide +kernel
theorem dX7_wouldTell_32 : decode cX7_wouldTell 32 = .ok (.aload_n 0, 1) := by decide +kernel
theorem dX7_wouldTell_33 : decode cX7_wouldTell 33 = .ok (.invokevirtual 104, 3) := by decide +kernel
theorem dX7_wouldTell_36 : decode cX7_wouldTell 36 = .ok (.istore 6, 2) := by decide +kernel
theorem dX7_wouldTell_38 : decode cX7_wouldTell 38 = .ok (.aload_n 0, 1) := by decide +kernel
theorem dX7_wouldTell_39 : decode cX7_wouldTell 39 = .ok (.iload_n 2, 1) := by decide +kernel
theorem dX7_wouldTell_40 : decode cX7_wouldTell 40 = .ok (.invokevirtual 94, 3) := by decide +kernel
theorem dX7_wouldTell_43 : decode cX7_wouldTell 43 = .ok (.pop, 1) := by decide +kernel
theorem dX7_wouldTell_44 : decode cX7_wouldTell 44 = .ok (.aload_n 0, 1) := by decide +kernel
theorem dX7_wouldTell_45 : decode cX7_wouldTell 45 = .ok (.invokevirtual 104, 3) := by decide +kernel
theorem dX7_wouldTell_48 : decode cX7_wouldTell 48 = .ok (.iload 6, 2) := by decide +kernel
theorem dX7_wouldTell_50 : decode cX7_wouldTell 50 = .ok (.iconst (-1), 1) := by decide +kernel
theorem dX7_wouldTell_51 : decode cX7_wouldTell 51 = .ok (.ixor, 1) := by decide +kernel
theorem dX7_wouldTell_52 : decode cX7_wouldTell 52 = .ok (.iand, 1) := by decide +kernel
theorem dX7_wouldTell_53 : decode cX7_wouldTell 53 = .ok (.istore 7, 2) := by decide +kernel
theorem dX7_wouldTell_55 : decode cX7_wouldTell 55 = .ok (.iconst 0, 1) := by decide +kernel
theorem dX7_wouldTell_56 : decode cX7_wouldTell 56 = .ok (.istore 8, 2) := by decide +kernel
theorem dX7_wouldTell_58 : decode cX7_wouldTell 58 = .ok (.iload 8, 2) := by decide +kernel
theorem dX7_wouldTell_60 : decode cX7_wouldTell 60 = .ok (.aload_n 0, 1) := by decide +kernel
theorem dX7_wouldTell_61 : decode cX7_wouldTell 61 = .ok (.getfield 57, 3) := by decide +kernel
theorem dX7_wouldTell_64 : decode cX7_wouldTell 64 = .ok (.if_icmp .ge 43, 3) := by decide +kernel
theorem dX7_wouldTell_67 : decode cX7_wouldTell 67 = .ok (.iload 4, 2) := by decide +kernel
theorem dX7_wouldTell_69 : decode cX7_wouldTell 69 = .ok (.ifCond .ne 25, 3) := by decide +kernel
theorem dX7_wouldTell_72 : decode cX7_wouldTell 72 = .ok (.iload 7, 2) := by decide +kernel
theorem dX7_wouldTell_74 : decode cX7_wouldTell 74 = .ok (.iload 8, 2) := by decide +kernel
theorem dX7_wouldTell_76 : decode cX7_wouldTell 76 = .ok (.ishr, 1) := by decide +kernel
theorem dX7_wouldTell_77 : decode cX7_wouldTell 77 = .ok (.iconst 1, 1) := by decide +kernel
theorem dX7_wouldTell_78 : decode cX7_wouldTell 78 = .ok (.iand, 1) := by decide +kernel
theorem dX7_wouldTell_79 : decode cX7_wouldTell 79 = .ok (.iconst 1, 1) := by decide +kernel
theorem dX7_wouldTell_80 : decode cX7_wouldTell 80 = .ok (.if_icmp .ne 18, 3) := by decide +kernel
theorem dX7_wouldTell_83 : decode cX7_wouldTell 83 = .ok (.aload_n 0, 1) := by decide +kernel
theorem dX7_wouldTell_84 : decode cX7_wouldTell 84 = .ok (.iload_n 1, 1) := by decide +kernel
theorem dX7_wouldTell_85 : decode cX7_wouldTell 85 = .ok (.iload 8, 2) := by decide +kernel
theorem dX7_wouldTell_87 : decode cX7_wouldTell 87 = .ok (.invokevirtual 108, 3) := by decide +kernel
theorem dX7_wouldTell_90 : decode cX7_wouldTell 90 = .ok (.iconst 2, 1) := by decide +kernel
theorem dX7_wouldTell_91 : decode cX7_wouldTell 91 = .ok (.if_icmp .eq 7, 3) := by decide +kernel
theorem dX7_wouldTell_94 : decode cX7_wouldTell 94 = .ok (.iconst 1, 1) := by decide +kernel
theorem dX7_wouldTell_95 : decode cX7_wouldTell 95 = .ok (.goto 4, 3) := by decide +kernel
theorem dX7_wouldTell_98 : decode cX7_wouldTell 98 = .ok (.iconst 0, 1) := by decide +kernel
theorem dX7_wouldTell_99 : decode cX7_wouldTell 99 = .ok (.istore 4, 2) := by decide +kernel
theorem dX7_wouldTell_101 : decode cX7_wouldTell 101 = .ok (.iinc 8 1, 3) := by decide +kernel
theorem dX7_wouldTell_104 : decode cX7_wouldTell 104 = .ok (.goto (-46), 3) := by decide +kernel
theorem dX7_wouldTell_107 : decode cX7_wouldTell 107 = .ok (.iinc 5 1, 3) := by decide +kernel
theorem dX7_wouldTell_110 : decode cX7_wouldTell 110 = .ok (.goto (-104), 3) := by decide +kernel
theorem dX7_wouldTell_113 : decode cX7_wouldTell 113 = .ok (.iload 4, 2) := by decide +kernel
theorem dX7_wouldTell_115 : decode cX7_wouldTell 115 = .ok (.ireturn, 1) := by decide +kernel
theorem dX7_refusal_0 : decode cX7_refusal 0 = .ok (.iconst 1, 1) := by decide +kernel
theorem dX7_refusal_1 : decode cX7_refusal 1 = .ok (.istore 4, 2) := by decide +kernel
theorem dX7_refusal_3 : decode cX7_refusal 3 = .ok (.iconst 0, 1) := by decide +kernel
theorem dX7_refusal_4 : decode cX7_refusal 4 = .ok (.istore 5, 2) := by decide +kernel
theorem dX7_refusal_6 : decode cX7_refusal 6 = .ok (.iconst 0, 1) := by decide +kernel
theorem dX7_refusal_7 : decode cX7_refusal 7 = .ok (.istore 6, 2) := by decide +kernel
theorem dX7_refusal_9 : decode cX7_refusal 9 = .ok (.iload 6, 2) := by decide +kernel
theorem dX7_refusal_11 : decode cX7_refusal 11 = .ok (.aload_n 0, 1) := by decide +kernel
theorem dX7_refusal_12 : decode cX7_refusal 12 = .ok (.getfield 57, 3) := by decide +kernel
theorem dX7_refusal_15 : decode cX7_refusal 15 = .ok (.if_icmp .ge 67, 3) := by decide +kernel
theorem dX7_refusal_18 : decode cX7_refusal 18 = .ok (.iload_n 2, 1) := by decide +kernel
theorem dX7_refusal_19 : decode cX7_refusal 19 = .ok (.iload 6, 2) := by decide +kernel
theorem dX7_refusal_21 : decode cX7_refusal 21 = .ok (.ishr, 1) := by decide +kernel
theorem dX7_refusal_22 : decode cX7_refusal 22 = .ok (.iconst 1, 1) := by decide +kernel
theorem dX7_refusal_23 : decode cX7_refusal 23 = .ok (.iand, 1) := by decide +kernel
theorem dX7_refusal_24 : decode cX7_refusal 24 = .ok (.iconst 1, 1) := by decide +kernel
theorem dX7_refusal_25 : decode cX7_refusal 25 = .ok (.if_icmp .ne 51, 3) := by decide +kernel
theorem dX7_refusal_28 : decode cX7_refusal 28 = .ok (.iload 4, 2) := by decide +kernel
theorem dX7_refusal_30 : decode cX7_refusal 30 = .ok (.ifCond .eq 17, 3) := by decide +kernel
theorem dX7_refusal_33 : decode cX7_refusal 33 = .ok (.aload_n 0, 1) := by decide +kernel
theorem dX7_refusal_34 : decode cX7_refusal 34 = .ok (.iload_n 1, 1) := by decide +kernel
theorem dX7_refusal_35 : decode cX7_refusal 35 = .ok (.iload 6, 2) := by decide +kernel
theorem dX7_refusal_37 : decode cX7_refusal 37 = .ok (.invokevirtual 108, 3) := by decide +kernel
theorem dX7_refusal_40 : decode cX7_refusal 40 = .ok (.ifCond .eq 7, 3) := by decide +kernel
theorem dX7_refusal_43 : decode cX7_refusal 43 = .ok (.iconst 1, 1) := by decide +kernel
theorem dX7_refusal_44 : decode cX7_refusal 44 = .ok (.goto 4, 3) := by decide +kernel
theorem dX7_refusal_47 : decode cX7_refusal 47 = .ok (.iconst 0, 1) := by decide +kernel
theorem dX7_refusal_48 : decode cX7_refusal 48 = .ok (.istore 4, 2) := by decide +kernel
theorem dX7_refusal_50 : decode cX7_refusal 50 = .ok (.iload 5, 2) := by decide +kernel
theorem dX7_refusal_52 : decode cX7_refusal 52 = .ok (.ifCond .ne 17, 3) := by decide +kernel
theorem dX7_refusal_55 : decode cX7_refusal 55 = .ok (.aload_n 0, 1) := by decide +kernel
theorem dX7_refusal_56 : decode cX7_refusal 56 = .ok (.getfield 13, 3) := by decide +kernel
theorem dX7_refusal_59 : decode cX7_refusal 59 = .ok (.iload 6, 2) := by decide +kernel
theorem dX7_refusal_61 : decode cX7_refusal 61 = .ok (.iaload, 1) := by decide +kernel
theorem dX7_refusal_62 : decode cX7_refusal 62 = .ok (.aload_n 0, 1) := by decide +kernel
theorem dX7_refusal_63 : decode cX7_refusal 63 = .ok (.getfield 84, 3) := by decide +kernel
theorem dX7_refusal_66 : decode cX7_refusal 66 = .ok (.if_icmp .lt 7, 3) := by decide +kernel
theorem dX7_refusal_69 : decode cX7_refusal 69 = .ok (.iconst 1, 1) := by decide +kernel
theorem dX7_refusal_70 : decode cX7_refusal 70 = .ok (.goto 4, 3) := by decide +kernel
theorem dX7_refusal_73 : decode cX7_refusal 73 = .ok (.iconst 0, 1) := by decide +kernel
theorem dX7_refusal_74 : decode cX7_refusal 74 = .ok (.istore 5, 2) := by decide +kernel
theorem dX7_refusal_76 : decode cX7_refusal 76 = .ok (.iinc 6 1, 3) := by decide +kernel
theorem dX7_refusal_79 : decode cX7_refusal 79 = .ok (.goto (-70), 3) := by decide +kernel
theorem dX7_refusal_82 : decode cX7_refusal 82 = .ok (.iload 4, 2) := by decide +kernel
theorem dX7_refusal_84 : decode cX7_refusal 84 = .ok (.ifCond .ne 5, 3) := by decide +kernel
theorem dX7_refusal_87 : decode cX7_refusal 87 = .ok (.iconst (-1), 1) := by decide +kernel
theorem dX7_refusal_88 : decode cX7_refusal 88 = .ok (.ireturn, 1) := by decide +kernel
theorem dX7_refusal_89 : decode cX7_refusal 89 = .ok (.iload 5, 2) := by decide +kernel
theorem dX7_refusal_91 : decode cX7_refusal 91 = .ok (.ifCond .eq 6, 3) := by decide +kernel
theorem dX7_refusal_94 : decode cX7_refusal 94 = .ok (.bipush (-2), 2) := by decide +kernel
theorem dX7_refusal_96 : decode cX7_refusal 96 = .ok (.ireturn, 1) := by decide +kernel
theorem dX7_refusal_97 : decode cX7_refusal 97 = .ok (.aload_n 0, 1) := by decide +kernel
theorem dX7_refusal_98 : decode cX7_refusal 98 = .ok (.iload_n 1, 1) := by decide +kernel
theorem dX7_refusal_99 : decode cX7_refusal 99 = .ok (.iload_n 2, 1) := by decide +kernel
theorem dX7_refusal_100 : decode cX7_refusal 100 = .ok (.iload_n 3, 1) := by decide +kernel
theorem dX7_refusal_101 : decode cX7_refusal 101 = .ok (.invokevirtual 111, 3) := by decide +kernel
theorem dX7_refusal_104 : decode cX7_refusal 104 = .ok (.ifCond .eq 6, 3) := by decide +kernel
theorem dX7_refusal_107 : decode cX7_refusal 107 = .ok (.bipush (-3), 2) := by decide +kernel
theorem dX7_refusal_109 : decode cX7_refusal 109 = .ok (.ireturn, 1) := by decide +kernel
theorem dX7_refusal_110 : decode cX7_refusal 110 = .ok (.aload_n 0, 1) := by decide +kernel
theorem dX7_refusal_111 : decode cX7_refusal 111 = .ok (.iload_n 1, 1) := by decide +kernel
theorem dX7_refusal_112 : decode cX7_refusal 112 = .ok (.invokevirtual 114, 3) := by decide +kernel
theorem dX7_refusal_115 : decode cX7_refusal 115 = .ok (.aload_n 0, 1) := by decide +kernel
theorem dX7_refusal_116 : decode cX7_refusal 116 = .ok (.iload_n 1, 1) := by decide +kernel
theorem dX7_refusal_117 : decode cX7_refusal 117 = .ok (.iload_n 2, 1) := by decide +kernel
theorem dX7_refusal_118 : decode cX7_refusal 118 = .ok (.iload_n 3, 1) := by decide +kernel
theorem dX7_refusal_119 : decode cX7_refusal 119 = .ok (.invokevirtual 117, 3) := by decide +kernel
theorem dX7_refusal_122 : decode cX7_refusal 122 = .ok (.iadd, 1) := by decide +kernel
theorem dX7_refusal_123 : decode cX7_refusal 123 = .ok (.aload_n 0, 1) := by decide +kernel
theorem dX7_refusal_124 : decode cX7_refusal 124 = .ok (.getfield 16, 3) := by decide +kernel
theorem dX7_refusal_127 : decode cX7_refusal 127 = .ok (.iload_n 1, 1) := by decide +kernel
theorem dX7_refusal_128 : decode cX7_refusal 128 = .ok (.iaload, 1) := by decide +kernel
theorem dX7_refusal_129 : decode cX7_refusal 129 = .ok (.if_icmp .le 8, 3) := by decide +kernel
theorem dX7_refusal_132 : decode cX7_refusal 132 = .ok (.bipush (-4), 2) := by decide +kernel
theorem dX7_refusal_134 : decode cX7_refusal 134 = .ok (.goto 4, 3) := by decide +kernel
theorem dX7_refusal_137 : decode cX7_refusal 137 = .ok (.iconst 0, 1) := by decide +kernel
theorem dX7_refusal_138 : decode cX7_refusal 138 = .ok (.ireturn, 1) := by decide +kernel
theorem dX7_isQuestion_0 : decode cX7_isQuestion 0 = .ok (.iload_n 1, 1) := by decide +kernel
theorem dX7_isQuestion_1 : decode cX7_isQuestion 1 = .ok (.ifCond .le 27, 3) := by decide +kernel
theorem dX7_isQuestion_4 : decode cX7_isQuestion 4 = .ok (.iload_n 1, 1) := by decide +kernel
theorem dX7_isQuestion_5 : decode cX7_isQuestion 5 = .ok (.iconst 1, 1) := by decide +kernel
theorem dX7_isQuestion_6 : decode cX7_isQuestion 6 = .ok (.aload_n 0, 1) := by decide +kernel
theorem dX7_isQuestion_7 : decode cX7_isQuestion 7 = .ok (.getfield 57, 3) := by decide +kernel
theorem dX7_isQuestion_10 : decode cX7_isQuestion 10 = .ok (.ishl, 1) := by decide +kernel
theorem dX7_isQuestion_11 : decode cX7_isQuestion 11 = .ok (.if_icmp .ge 17, 3) := by decide +kernel
theorem dX7_isQuestion_14 : decode cX7_isQuestion 14 = .ok (.iload_n 2, 1) := by decide +kernel
theorem dX7_isQuestion_15 : decode cX7_isQuestion 15 = .ok (.iconst (-1), 1) := by decide +kernel
theorem dX7_isQuestion_16 : decode cX7_isQuestion 16 = .ok (.bipush 7, 2) := by decide +kernel
theorem dX7_isQuestion_18 : decode cX7_isQuestion 18 = .ok (.invokestatic 60, 3) := by decide +kernel
theorem dX7_isQuestion_21 : decode cX7_isQuestion 21 = .ok (.ifCond .eq 7, 3) := by decide +kernel
theorem dX7_isQuestion_24 : decode cX7_isQuestion 24 = .ok (.iconst 1, 1) := by decide +kernel
theorem dX7_isQuestion_25 : decode cX7_isQuestion 25 = .ok (.goto 4, 3) := by decide +kernel
theorem dX7_isQuestion_28 : decode cX7_isQuestion 28 = .ok (.iconst 0, 1) := by decide +kernel
theorem dX7_isQuestion_29 : decode cX7_isQuestion 29 = .ok (.ireturn, 1) := by decide +kernel
theorem dX7_ask_0 : decode cX7_ask 0 = .ok (.aload_n 0, 1) := by decide +kernel
theorem dX7_ask_1 : decode cX7_ask 1 = .ok (.iload_n 1, 1) := by decide +kernel
theorem dX7_ask_2 : decode cX7_ask 2 = .ok (.invokevirtual 81, 3) := by decide +kernel
theorem dX7_ask_5 : decode cX7_ask 5 = .ok (.istore 4, 2) := by decide +kernel
theorem dX7_ask_7 : decode cX7_ask 7 = .ok (.aload_n 0, 1) := by decide +kernel
theorem dX7_ask_8 : decode cX7_ask 8 = .ok (.iload 4, 2) := by decide +kernel
theorem dX7_ask_10 : decode cX7_ask 10 = .ok (.ifCond .ne 7, 3) := by decide +kernel
theorem dX7_ask_13 : decode cX7_ask 13 = .ok (.iconst 1, 1) := by decide +kernel
theorem dX7_ask_14 : decode cX7_ask 14 = .ok (.goto 31, 3) := by decide +kernel
theorem dX7_ask_17 : decode cX7_ask 17 = .ok (.aload_n 0, 1) := by decide +kernel
theorem dX7_ask_18 : decode cX7_ask 18 = .ok (.iload_n 2, 1) := by decide +kernel
theorem dX7_ask_19 : decode cX7_ask 19 = .ok (.iload_n 3, 1) := by decide +kernel
theorem dX7_ask_20 : decode cX7_ask 20 = .ok (.invokevirtual 121, 3) := by decide +kernel
theorem dX7_ask_23 : decode cX7_ask 23 = .ok (.ifCond .ne 7, 3) := by decide +kernel
theorem dX7_ask_26 : decode cX7_ask 26 = .ok (.iconst 2, 1) := by decide +kernel
theorem dX7_ask_27 : decode cX7_ask 27 = .ok (.goto 18, 3) := by decide +kernel
theorem dX7_ask_30 : decode cX7_ask 30 = .ok (.aload_n 0, 1) := by decide +kernel
theorem dX7_ask_31 : decode cX7_ask 31 = .ok (.getfield 71, 3) := by decide +kernel
theorem dX7_ask_34 : decode cX7_ask 34 = .ok (.sipush 150, 3) := by decide +kernel
theorem dX7_ask_37 : decode cX7_ask 37 = .ok (.if_icmp .ne 7, 3) := by decide +kernel
theorem dX7_ask_40 : decode cX7_ask 40 = .ok (.iconst 3, 1) := by decide +kernel
theorem dX7_ask_41 : decode cX7_ask 41 = .ok (.goto 4, 3) := by decide +kernel
theorem dX7_ask_44 : decode cX7_ask 44 = .ok (.iconst 0, 1) := by decide +kernel
theorem dX7_ask_45 : decode cX7_ask 45 = .ok (.invokevirtual 67, 3) := by decide +kernel
theorem dX7_ask_48 : decode cX7_ask 48 = .ok (.ifCond .ne 5, 3) := by decide +kernel
theorem dX7_ask_51 : decode cX7_ask 51 = .ok (.iconst 0, 1) := by decide +kernel
theorem dX7_ask_52 : decode cX7_ask 52 = .ok (.ireturn, 1) := by decide +kernel
theorem dX7_ask_53 : decode cX7_ask 53 = .ok (.aload_n 0, 1) := by decide +kernel
theorem dX7_ask_54 : decode cX7_ask 54 = .ok (.iload_n 1, 1) := by decide +kernel
theorem dX7_ask_55 : decode cX7_ask 55 = .ok (.iload_n 2, 1) := by decide +kernel
theorem dX7_ask_56 : decode cX7_ask 56 = .ok (.iload_n 3, 1) := by decide +kernel
theorem dX7_ask_57 : decode cX7_ask 57 = .ok (.invokevirtual 124, 3) := by decide +kernel
theorem dX7_ask_60 : decode cX7_ask 60 = .ok (.istore 5, 2) := by decide +kernel
theorem dX7_ask_62 : decode cX7_ask 62 = .ok (.aload_n 0, 1) := by decide +kernel
theorem dX7_ask_63 : decode cX7_ask 63 = .ok (.getfield 47, 3) := by decide +kernel
theorem dX7_ask_66 : decode cX7_ask 66 = .ok (.bipush 6, 2) := by decide +kernel
theorem dX7_ask_68 : decode cX7_ask 68 = .ok (.iload_n 1, 1) := by decide +kernel
theorem dX7_ask_69 : decode cX7_ask 69 = .ok (.imul, 1) := by decide +kernel
theorem dX7_ask_70 : decode cX7_ask 70 = .ok (.iload 5, 2) := by decide +kernel
theorem dX7_ask_72 : decode cX7_ask 72 = .ok (.isub, 1) := by decide +kernel
theorem dX7_ask_73 : decode cX7_ask 73 = .ok (.dup2, 1) := by decide +kernel
theorem dX7_ask_74 : decode cX7_ask 74 = .ok (.iaload, 1) := by decide +kernel
theorem dX7_ask_75 : decode cX7_ask 75 = .ok (.iconst 1, 1) := by decide +kernel
theorem dX7_ask_76 : decode cX7_ask 76 = .ok (.iadd, 1) := by decide +kernel
theorem dX7_ask_77 : decode cX7_ask 77 = .ok (.iastore, 1) := by decide +kernel
theorem dX7_ask_78 : decode cX7_ask 78 = .ok (.iload 5, 2) := by decide +kernel
theorem dX7_ask_80 : decode cX7_ask 80 = .ok (.ifCond .eq 6, 3) := by decide +kernel
theorem dX7_ask_83 : decode cX7_ask 83 = .ok (.iload 5, 2) := by decide +kernel
theorem dX7_ask_85 : decode cX7_ask 85 = .ok (.ireturn, 1) := by decide +kernel
theorem dX7_ask_86 : decode cX7_ask 86 = .ok (.iconst 0, 1) := by decide +kernel
theorem dX7_ask_87 : decode cX7_ask 87 = .ok (.istore 6, 2) := by decide +kernel
theorem dX7_ask_89 : decode cX7_ask 89 = .ok (.iconst 0, 1) := by decide +kernel
theorem dX7_ask_90 : decode cX7_ask 90 = .ok (.istore 7, 2) := by decide +kernel
theorem dX7_ask_92 : decode cX7_ask 92 = .ok (.iload 7, 2) := by decide +kernel
theorem dX7_ask_94 : decode cX7_ask 94 = .ok (.aload_n 0, 1) := by decide +kernel
theorem dX7_ask_95 : decode cX7_ask 95 = .ok (.getfield 57, 3) := by decide +kernel
theorem dX7_ask_98 : decode cX7_ask 98 = .ok (.if_icmp .ge 35, 3) := by decide +kernel
theorem dX7_ask_101 : decode cX7_ask 101 = .ok (.iload 6, 2) := by decide +kernel
theorem dX7_ask_103 : decode cX7_ask 103 = .ok (.iload_n 2, 1) := by decide +kernel
theorem dX7_ask_104 : decode cX7_ask 104 = .ok (.iload 7, 2) := by decide +kernel
theorem dX7_ask_106 : decode cX7_ask 106 = .ok (.ishr, 1) := by decide +kernel
theorem dX7_ask_107 : decode cX7_ask 107 = .ok (.iconst 1, 1) := by decide +kernel
theorem dX7_ask_108 : decode cX7_ask 108 = .ok (.iand, 1) := by decide +kernel
theorem dX7_ask_109 : decode cX7_ask 109 = .ok (.iconst 1, 1) := by decide +kernel
theorem dX7_ask_110 : decode cX7_ask 110 = .ok (.if_icmp .ne 13, 3) := by decide +kernel
theorem dX7_ask_113 : decode cX7_ask 113 = .ok (.aload_n 0, 1) := by decide +kernel
theorem dX7_ask_114 : decode cX7_ask 114 = .ok (.getfield 7, 3) := by decide +kernel
theorem dX7_ask_117 : decode cX7_ask 117 = .ok (.iload 7, 2) := by decide +kernel
theorem dX7_ask_119 : decode cX7_ask 119 = .ok (.iaload, 1) := by decide +kernel
theorem dX7_ask_120 : decode cX7_ask 120 = .ok (.goto 4, 3) := by decide +kernel
theorem dX7_ask_123 : decode cX7_ask 123 = .ok (.iconst 0, 1) := by decide +kernel
theorem dX7_ask_124 : decode cX7_ask 124 = .ok (.ixor, 1) := by decide +kernel
theorem dX7_ask_125 : decode cX7_ask 125 = .ok (.istore 6, 2) := by decide +kernel
theorem dX7_ask_127 : decode cX7_ask 127 = .ok (.iinc 7 1, 3) := by decide +kernel
theorem dX7_ask_130 : decode cX7_ask 130 = .ok (.goto (-38), 3) := by decide +kernel
theorem dX7_ask_133 : decode cX7_ask 133 = .ok (.aload_n 0, 1) := by decide +kernel
theorem dX7_ask_134 : decode cX7_ask 134 = .ok (.getfield 28, 3) := by decide +kernel
theorem dX7_ask_137 : decode cX7_ask 137 = .ok (.aload_n 0, 1) := by decide +kernel
theorem dX7_ask_138 : decode cX7_ask 138 = .ok (.getfield 71, 3) := by decide +kernel
theorem dX7_ask_141 : decode cX7_ask 141 = .ok (.iload_n 1, 1) := by decide +kernel
theorem dX7_ask_142 : decode cX7_ask 142 = .ok (.iastore, 1) := by decide +kernel
theorem dX7_ask_143 : decode cX7_ask 143 = .ok (.aload_n 0, 1) := by decide +kernel
theorem dX7_ask_144 : decode cX7_ask 144 = .ok (.getfield 31, 3) := by decide +kernel
theorem dX7_ask_147 : decode cX7_ask 147 = .ok (.aload_n 0, 1) := by decide +kernel
theorem dX7_ask_148 : decode cX7_ask 148 = .ok (.getfield 71, 3) := by decide +kernel
theorem dX7_ask_151 : decode cX7_ask 151 = .ok (.iload_n 2, 1) := by decide +kernel
theorem dX7_ask_152 : decode cX7_ask 152 = .ok (.iastore, 1) := by decide +kernel
theorem dX7_ask_153 : decode cX7_ask 153 = .ok (.aload_n 0, 1) := by decide +kernel
theorem dX7_ask_154 : decode cX7_ask 154 = .ok (.getfield 34, 3) := by decide +kernel
theorem dX7_ask_157 : decode cX7_ask 157 = .ok (.aload_n 0, 1) := by decide +kernel
theorem dX7_ask_158 : decode cX7_ask 158 = .ok (.getfield 71, 3) := by decide +kernel
theorem dX7_ask_161 : decode cX7_ask 161 = .ok (.iload_n 3, 1) := by decide +kernel
theorem dX7_ask_162 : decode cX7_ask 162 = .ok (.iastore, 1) := by decide +kernel
theorem dX7_ask_163 : decode cX7_ask 163 = .ok (.aload_n 0, 1) := by decide +kernel
theorem dX7_ask_164 : decode cX7_ask 164 = .ok (.getfield 37, 3) := by decide +kernel
theorem dX7_ask_167 : decode cX7_ask 167 = .ok (.aload_n 0, 1) := by decide +kernel
theorem dX7_ask_168 : decode cX7_ask 168 = .ok (.getfield 71, 3) := by decide +kernel
theorem dX7_ask_171 : decode cX7_ask 171 = .ok (.iload_n 3, 1) := by decide +kernel
theorem dX7_ask_172 : decode cX7_ask 172 = .ok (.iconst (-1), 1) := by decide +kernel
theorem dX7_ask_173 : decode cX7_ask 173 = .ok (.if_icmp .ne 8, 3) := by decide +kernel
theorem dX7_ask_176 : decode cX7_ask 176 = .ok (.iload 6, 2) := by decide +kernel
theorem dX7_ask_178 : decode cX7_ask 178 = .ok (.goto 9, 3) := by decide +kernel
theorem dX7_ask_181 : decode cX7_ask 181 = .ok (.iload 6, 2) := by decide +kernel
theorem dX7_ask_183 : decode cX7_ask 183 = .ok (.iload_n 3, 1) := by decide +kernel
theorem dX7_ask_184 : decode cX7_ask 184 = .ok (.ishr, 1) := by decide +kernel
theorem dX7_ask_185 : decode cX7_ask 185 = .ok (.iconst 1, 1) := by decide +kernel
theorem dX7_ask_186 : decode cX7_ask 186 = .ok (.iand, 1) := by decide +kernel
theorem dX7_ask_187 : decode cX7_ask 187 = .ok (.iastore, 1) := by decide +kernel
theorem dX7_ask_188 : decode cX7_ask 188 = .ok (.aload_n 0, 1) := by decide +kernel
theorem dX7_ask_189 : decode cX7_ask 189 = .ok (.getfield 40, 3) := by decide +kernel
theorem dX7_ask_192 : decode cX7_ask 192 = .ok (.aload_n 0, 1) := by decide +kernel
theorem dX7_ask_193 : decode cX7_ask 193 = .ok (.getfield 71, 3) := by decide +kernel
theorem dX7_ask_196 : decode cX7_ask 196 = .ok (.aload_n 0, 1) := by decide +kernel
theorem dX7_ask_197 : decode cX7_ask 197 = .ok (.getfield 84, 3) := by decide +kernel
theorem dX7_ask_200 : decode cX7_ask 200 = .ok (.iastore, 1) := by decide +kernel
theorem dX7_ask_201 : decode cX7_ask 201 = .ok (.aload_n 0, 1) := by decide +kernel
theorem dX7_ask_202 : decode cX7_ask 202 = .ok (.dup, 1) := by decide +kernel
theorem dX7_ask_203 : decode cX7_ask 203 = .ok (.getfield 71, 3) := by decide +kernel
theorem dX7_ask_206 : decode cX7_ask 206 = .ok (.iconst 1, 1) := by decide +kernel
theorem dX7_ask_207 : decode cX7_ask 207 = .ok (.iadd, 1) := by decide +kernel
theorem dX7_ask_208 : decode cX7_ask 208 = .ok (.putfield 71, 3) := by decide +kernel
theorem dX7_ask_211 : decode cX7_ask 211 = .ok (.aload_n 0, 1) := by decide +kernel
theorem dX7_ask_212 : decode cX7_ask 212 = .ok (.getfield 37, 3) := by decide +kernel
theorem dX7_ask_215 : decode cX7_ask 215 = .ok (.aload_n 0, 1) := by decide +kernel
theorem dX7_ask_216 : decode cX7_ask 216 = .ok (.getfield 71, 3) := by decide +kernel
theorem dX7_ask_219 : decode cX7_ask 219 = .ok (.iconst 1, 1) := by decide +kernel
theorem dX7_ask_220 : decode cX7_ask 220 = .ok (.isub, 1) := by decide +kernel
theorem dX7_ask_221 : decode cX7_ask 221 = .ok (.iaload, 1) := by decide +kernel
theorem dX7_ask_222 : decode cX7_ask 222 = .ok (.ireturn, 1) := by decide +kernel
theorem dX7_cost_0 : decode cX7_cost 0 = .ok (.aload_n 0, 1) := by decide +kernel
theorem dX7_cost_1 : decode cX7_cost 1 = .ok (.iload_n 1, 1) := by decide +kernel
theorem dX7_cost_2 : decode cX7_cost 2 = .ok (.invokevirtual 81, 3) := by decide +kernel
theorem dX7_cost_5 : decode cX7_cost 5 = .ok (.istore 4, 2) := by decide +kernel
theorem dX7_cost_7 : decode cX7_cost 7 = .ok (.aload_n 0, 1) := by decide +kernel
theorem dX7_cost_8 : decode cX7_cost 8 = .ok (.iload 4, 2) := by decide +kernel
theorem dX7_cost_10 : decode cX7_cost 10 = .ok (.ifCond .ne 7, 3) := by decide +kernel
theorem dX7_cost_13 : decode cX7_cost 13 = .ok (.iconst 1, 1) := by decide +kernel
theorem dX7_cost_14 : decode cX7_cost 14 = .ok (.goto 17, 3) := by decide +kernel
theorem dX7_cost_17 : decode cX7_cost 17 = .ok (.aload_n 0, 1) := by decide +kernel
theorem dX7_cost_18 : decode cX7_cost 18 = .ok (.iload_n 2, 1) := by decide +kernel
theorem dX7_cost_19 : decode cX7_cost 19 = .ok (.iload_n 3, 1) := by decide +kernel
theorem dX7_cost_20 : decode cX7_cost 20 = .ok (.invokevirtual 121, 3) := by decide +kernel
theorem dX7_cost_23 : decode cX7_cost 23 = .ok (.ifCond .eq 7, 3) := by decide +kernel
theorem dX7_cost_26 : decode cX7_cost 26 = .ok (.iconst 0, 1) := by decide +kernel
theorem dX7_cost_27 : decode cX7_cost 27 = .ok (.goto 4, 3) := by decide +kernel
theorem dX7_cost_30 : decode cX7_cost 30 = .ok (.iconst 2, 1) := by decide +kernel
theorem dX7_cost_31 : decode cX7_cost 31 = .ok (.invokevirtual 67, 3) := by decide +kernel
theorem dX7_cost_34 : decode cX7_cost 34 = .ok (.ifCond .eq 13, 3) := by decide +kernel
theorem dX7_cost_37 : decode cX7_cost 37 = .ok (.aload_n 0, 1) := by decide +kernel
theorem dX7_cost_38 : decode cX7_cost 38 = .ok (.iload_n 1, 1) := by decide +kernel
theorem dX7_cost_39 : decode cX7_cost 39 = .ok (.iload_n 2, 1) := by decide +kernel
theorem dX7_cost_40 : decode cX7_cost 40 = .ok (.iload_n 3, 1) := by decide +kernel
theorem dX7_cost_41 : decode cX7_cost 41 = .ok (.invokevirtual 117, 3) := by decide +kernel
theorem dX7_cost_44 : decode cX7_cost 44 = .ok (.goto 4, 3) := by decide +kernel
theorem dX7_cost_47 : decode cX7_cost 47 = .ok (.iconst 0, 1) := by decide +kernel
theorem dX7_cost_48 : decode cX7_cost 48 = .ok (.ireturn, 1) := by decide +kernel
theorem dX7_answer_0 : decode cX7_answer 0 = .ok (.iload_n 1, 1) := by decide +kernel
theorem dX7_answer_1 : decode cX7_answer 1 = .ok (.iconst 0, 1) := by decide +kernel
theorem dX7_answer_2 : decode cX7_answer 2 = .ok (.aload_n 0, 1) := by decide +kernel
theorem dX7_answer_3 : decode cX7_answer 3 = .ok (.getfield 71, 3) := by decide +kernel
theorem dX7_answer_6 : decode cX7_answer 6 = .ok (.iconst 1, 1) := by decide +kernel
theorem dX7_answer_7 : decode cX7_answer 7 = .ok (.isub, 1) := by decide +kernel
theorem dX7_answer_8 : decode cX7_answer 8 = .ok (.invokestatic 60, 3) := by decide +kernel
theorem dX7_answer_11 : decode cX7_answer 11 = .ok (.istore_n 3, 1) := by decide +kernel
theorem dX7_answer_12 : decode cX7_answer 12 = .ok (.aload_n 0, 1) := by decide +kernel
theorem dX7_answer_13 : decode cX7_answer 13 = .ok (.iload_n 3, 1) := by decide +kernel
theorem dX7_answer_14 : decode cX7_answer 14 = .ok (.ifCond .ne 7, 3) := by decide +kernel
theorem dX7_answer_17 : decode cX7_answer 17 = .ok (.iconst 1, 1) := by decide +kernel
theorem dX7_answer_18 : decode cX7_answer 18 = .ok (.goto 17, 3) := by decide +kernel
theorem dX7_answer_21 : decode cX7_answer 21 = .ok (.iload_n 2, 1) := by decide +kernel
theorem dX7_answer_22 : decode cX7_answer 22 = .ok (.iconst 0, 1) := by decide +kernel
theorem dX7_answer_23 : decode cX7_answer 23 = .ok (.iconst 5, 1) := by decide +kernel
theorem dX7_answer_24 : decode cX7_answer 24 = .ok (.invokestatic 60, 3) := by decide +kernel
theorem dX7_answer_27 : decode cX7_answer 27 = .ok (.ifCond .eq 7, 3) := by decide +kernel
theorem dX7_answer_30 : decode cX7_answer 30 = .ok (.iconst 0, 1) := by decide +kernel
theorem dX7_answer_31 : decode cX7_answer 31 = .ok (.goto 4, 3) := by decide +kernel
theorem dX7_answer_34 : decode cX7_answer 34 = .ok (.iconst 2, 1) := by decide +kernel
theorem dX7_answer_35 : decode cX7_answer 35 = .ok (.invokevirtual 67, 3) := by decide +kernel
theorem dX7_answer_38 : decode cX7_answer 38 = .ok (.ifCond .ne 5, 3) := by decide +kernel
theorem dX7_answer_41 : decode cX7_answer 41 = .ok (.iconst 0, 1) := by decide +kernel
theorem dX7_answer_42 : decode cX7_answer 42 = .ok (.ireturn, 1) := by decide +kernel
theorem dX7_answer_43 : decode cX7_answer 43 = .ok (.iload_n 2, 1) := by decide +kernel
theorem dX7_answer_44 : decode cX7_answer 44 = .ok (.tableswitch 79 0 4 #[36, 43, 50, 57, 64], 36) := by decide +kernel
theorem dX7_answer_80 : decode cX7_answer 80 = .ok (.aload_n 0, 1) := by decide +kernel
theorem dX7_answer_81 : decode cX7_answer 81 = .ok (.getfield 28, 3) := by decide +kernel
theorem dX7_answer_84 : decode cX7_answer 84 = .ok (.iload_n 1, 1) := by decide +kernel
theorem dX7_answer_85 : decode cX7_answer 85 = .ok (.iaload, 1) := by decide +kernel
theorem dX7_answer_86 : decode cX7_answer 86 = .ok (.ireturn, 1) := by decide +kernel
theorem dX7_answer_87 : decode cX7_answer 87 = .ok (.aload_n 0, 1) := by decide +kernel
theorem dX7_answer_88 : decode cX7_answer 88 = .ok (.getfield 31, 3) := by decide +kernel
theorem dX7_answer_91 : decode cX7_answer 91 = .ok (.iload_n 1, 1) := by decide +kernel
theorem dX7_answer_92 : decode cX7_answer 92 = .ok (.iaload, 1) := by decide +kernel
theorem dX7_answer_93 : decode cX7_answer 93 = .ok (.ireturn, 1) := by decide +kernel
theorem dX7_answer_94 : decode cX7_answer 94 = .ok (.aload_n 0, 1) := by decide +kernel
theorem dX7_answer_95 : decode cX7_answer 95 = .ok (.getfield 34, 3) := by decide +kernel
theorem dX7_answer_98 : decode cX7_answer 98 = .ok (.iload_n 1, 1) := by decide +kernel
theorem dX7_answer_99 : decode cX7_answer 99 = .ok (.iaload, 1) := by decide +kernel
theorem dX7_answer_100 : decode cX7_answer 100 = .ok (.ireturn, 1) := by decide +kernel
theorem dX7_answer_101 : decode cX7_answer 101 = .ok (.aload_n 0, 1) := by decide +kernel
theorem dX7_answer_102 : decode cX7_answer 102 = .ok (.getfield 37, 3) := by decide +kernel
theorem dX7_answer_105 : decode cX7_answer 105 = .ok (.iload_n 1, 1) := by decide +kernel
theorem dX7_answer_106 : decode cX7_answer 106 = .ok (.iaload, 1) := by decide +kernel
theorem dX7_answer_107 : decode cX7_answer 107 = .ok (.ireturn, 1) := by decide +kernel
theorem dX7_answer_108 : decode cX7_answer 108 = .ok (.aload_n 0, 1) := by decide +kernel
theorem dX7_answer_109 : decode cX7_answer 109 = .ok (.getfield 43, 3) := by decide +kernel
theorem dX7_answer_112 : decode cX7_answer 112 = .ok (.iload_n 1, 1) := by decide +kernel
theorem dX7_answer_113 : decode cX7_answer 113 = .ok (.baload, 1) := by decide +kernel
theorem dX7_answer_114 : decode cX7_answer 114 = .ok (.ifCond .eq 7, 3) := by decide +kernel
theorem dX7_answer_117 : decode cX7_answer 117 = .ok (.iconst 1, 1) := by decide +kernel
theorem dX7_answer_118 : decode cX7_answer 118 = .ok (.goto 4, 3) := by decide +kernel
theorem dX7_answer_121 : decode cX7_answer 121 = .ok (.iconst 0, 1) := by decide +kernel
theorem dX7_answer_122 : decode cX7_answer 122 = .ok (.ireturn, 1) := by decide +kernel
theorem dX7_answer_123 : decode cX7_answer 123 = .ok (.aload_n 0, 1) := by decide +kernel
theorem dX7_answer_124 : decode cX7_answer 124 = .ok (.getfield 40, 3) := by decide +kernel
theorem dX7_answer_127 : decode cX7_answer 127 = .ok (.iload_n 1, 1) := by decide +kernel
theorem dX7_answer_128 : decode cX7_answer 128 = .ok (.iaload, 1) := by decide +kernel
theorem dX7_answer_129 : decode cX7_answer 129 = .ok (.ireturn, 1) := by decide +kernel
theorem dX7_spent_0 : decode cX7_spent 0 = .ok (.aload_n 0, 1) := by decide +kernel
theorem dX7_spent_1 : decode cX7_spent 1 = .ok (.aload_n 0, 1) := by decide +kernel
theorem dX7_spent_2 : decode cX7_spent 2 = .ok (.iload_n 1, 1) := by decide +kernel
theorem dX7_spent_3 : decode cX7_spent 3 = .ok (.invokevirtual 81, 3) := by decide +kernel
theorem dX7_spent_6 : decode cX7_spent 6 = .ok (.ifCond .eq 7, 3) := by decide +kernel
theorem dX7_spent_9 : decode cX7_spent 9 = .ok (.iconst 0, 1) := by decide +kernel
theorem dX7_spent_10 : decode cX7_spent 10 = .ok (.goto 4, 3) := by decide +kernel
theorem dX7_spent_13 : decode cX7_spent 13 = .ok (.iconst 1, 1) := by decide +kernel
theorem dX7_spent_14 : decode cX7_spent 14 = .ok (.invokevirtual 67, 3) := by decide +kernel
theorem dX7_spent_17 : decode cX7_spent 17 = .ok (.ifCond .eq 11, 3) := by decide +kernel
theorem dX7_spent_20 : decode cX7_spent 20 = .ok (.aload_n 0, 1) := by decide +kernel
theorem dX7_spent_21 : decode cX7_spent 21 = .ok (.iload_n 1, 1) := by decide +kernel
theorem dX7_spent_22 : decode cX7_spent 22 = .ok (.invokevirtual 114, 3) := by decide +kernel
theorem dX7_spent_25 : decode cX7_spent 25 = .ok (.goto 4, 3) := by decide +kernel
theorem dX7_spent_28 : decode cX7_spent 28 = .ok (.iconst 0, 1) := by decide +kernel
theorem dX7_spent_29 : decode cX7_spent 29 = .ok (.ireturn, 1) := by decide +kernel
theorem dX7_spentAnew_0 : decode cX7_spentAnew 0 = .ok (.aload_n 0, 1) := by decide +kernel
theorem dX7_spentAnew_1 : decode cX7_spentAnew 1 = .ok (.aload_n 0, 1) := by decide +kernel
theorem dX7_spentAnew_2 : decode cX7_spentAnew 2 = .ok (.iload_n 1, 1) := by decide +kernel
theorem dX7_spentAnew_3 : decode cX7_spentAnew 3 = .ok (.invokevirtual 81, 3) := by decide +kernel
theorem dX7_spentAnew_6 : decode cX7_spentAnew 6 = .ok (.ifCond .eq 7, 3) := by decide +kernel
theorem dX7_spentAnew_9 : decode cX7_spentAnew 9 = .ok (.iconst 0, 1) := by decide +kernel
theorem dX7_spentAnew_10 : decode cX7_spentAnew 10 = .ok (.goto 4, 3) := by decide +kernel
theorem dX7_spentAnew_13 : decode cX7_spentAnew 13 = .ok (.iconst 1, 1) := by decide +kernel
theorem dX7_spentAnew_14 : decode cX7_spentAnew 14 = .ok (.invokevirtual 67, 3) := by decide +kernel
theorem dX7_spentAnew_17 : decode cX7_spentAnew 17 = .ok (.ifCond .eq 11, 3) := by decide +kernel
theorem dX7_spentAnew_20 : decode cX7_spentAnew 20 = .ok (.aload_n 0, 1) := by decide +kernel
theorem dX7_spentAnew_21 : decode cX7_spentAnew 21 = .ok (.iload_n 1, 1) := by decide +kernel
theorem dX7_spentAnew_22 : decode cX7_spentAnew 22 = .ok (.invokevirtual 114, 3) := by decide +kernel
theorem dX7_spentAnew_25 : decode cX7_spentAnew 25 = .ok (.goto 4, 3) := by decide +kernel
theorem dX7_spentAnew_28 : decode cX7_spentAnew 28 = .ok (.iconst 0, 1) := by decide +kernel
theorem dX7_spentAnew_29 : decode cX7_spentAnew 29 = .ok (.ireturn, 1) := by decide +kernel
theorem dX7_findsBy_0 : decode cX7_findsBy 0 = .ok (.iconst 0, 1) := by decide +kernel
theorem dX7_findsBy_1 : decode cX7_findsBy 1 = .ok (.istore_n 3, 1) := by decide +kernel
theorem dX7_findsBy_2 : decode cX7_findsBy 2 = .ok (.iconst 0, 1) := by decide +kernel
theorem dX7_findsBy_3 : decode cX7_findsBy 3 = .ok (.istore 4, 2) := by decide +kernel
theorem dX7_findsBy_5 : decode cX7_findsBy 5 = .ok (.iload 4, 2) := by decide +kernel
theorem dX7_findsBy_7 : decode cX7_findsBy 7 = .ok (.bipush 8, 2) := by decide +kernel
theorem dX7_findsBy_9 : decode cX7_findsBy 9 = .ok (.if_icmp .ge 38, 3) := by decide +kernel
theorem dX7_findsBy_12 : decode cX7_findsBy 12 = .ok (.aload_n 0, 1) := by decide +kernel
theorem dX7_findsBy_13 : decode cX7_findsBy 13 = .ok (.iload_n 1, 1) := by decide +kernel
theorem dX7_findsBy_14 : decode cX7_findsBy 14 = .ok (.iload 4, 2) := by decide +kernel
theorem dX7_findsBy_16 : decode cX7_findsBy 16 = .ok (.invokevirtual 97, 3) := by decide +kernel
theorem dX7_findsBy_19 : decode cX7_findsBy 19 = .ok (.pop, 1) := by decide +kernel
theorem dX7_findsBy_20 : decode cX7_findsBy 20 = .ok (.iload_n 3, 1) := by decide +kernel
theorem dX7_findsBy_21 : decode cX7_findsBy 21 = .ok (.aload_n 0, 1) := by decide +kernel
theorem dX7_findsBy_22 : decode cX7_findsBy 22 = .ok (.iconst 1, 1) := by decide +kernel
theorem dX7_findsBy_23 : decode cX7_findsBy 23 = .ok (.iload_n 2, 1) := by decide +kernel
theorem dX7_findsBy_24 : decode cX7_findsBy 24 = .ok (.ishl, 1) := by decide +kernel
theorem dX7_findsBy_25 : decode cX7_findsBy 25 = .ok (.invokevirtual 87, 3) := by decide +kernel
theorem dX7_findsBy_28 : decode cX7_findsBy 28 = .ok (.ifCond .ne 10, 3) := by decide +kernel
theorem dX7_findsBy_31 : decode cX7_findsBy 31 = .ok (.iconst 1, 1) := by decide +kernel
theorem dX7_findsBy_32 : decode cX7_findsBy 32 = .ok (.iload 4, 2) := by decide +kernel
theorem dX7_findsBy_34 : decode cX7_findsBy 34 = .ok (.ishl, 1) := by decide +kernel
theorem dX7_findsBy_35 : decode cX7_findsBy 35 = .ok (.goto 4, 3) := by decide +kernel
theorem dX7_findsBy_38 : decode cX7_findsBy 38 = .ok (.iconst 0, 1) := by decide +kernel
theorem dX7_findsBy_39 : decode cX7_findsBy 39 = .ok (.ior, 1) := by decide +kernel
theorem dX7_findsBy_40 : decode cX7_findsBy 40 = .ok (.istore_n 3, 1) := by decide +kernel
theorem dX7_findsBy_41 : decode cX7_findsBy 41 = .ok (.iinc 4 1, 3) := by decide +kernel
theorem dX7_findsBy_44 : decode cX7_findsBy 44 = .ok (.goto (-39), 3) := by decide +kernel
theorem dX7_findsBy_47 : decode cX7_findsBy 47 = .ok (.iload_n 3, 1) := by decide +kernel
theorem dX7_findsBy_48 : decode cX7_findsBy 48 = .ok (.ireturn, 1) := by decide +kernel
theorem dX7_finds_0 : decode cX7_finds 0 = .ok (.aload_n 0, 1) := by decide +kernel
theorem dX7_finds_1 : decode cX7_finds 1 = .ok (.aload_n 0, 1) := by decide +kernel
theorem dX7_finds_2 : decode cX7_finds 2 = .ok (.iload_n 1, 1) := by decide +kernel
theorem dX7_finds_3 : decode cX7_finds 3 = .ok (.invokevirtual 81, 3) := by decide +kernel
theorem dX7_finds_6 : decode cX7_finds 6 = .ok (.ifCond .eq 15, 3) := by decide +kernel
theorem dX7_finds_9 : decode cX7_finds 9 = .ok (.aload_n 0, 1) := by decide +kernel
theorem dX7_finds_10 : decode cX7_finds 10 = .ok (.iload_n 2, 1) := by decide +kernel
theorem dX7_finds_11 : decode cX7_finds 11 = .ok (.invokevirtual 74, 3) := by decide +kernel
theorem dX7_finds_14 : decode cX7_finds 14 = .ok (.ifCond .eq 7, 3) := by decide +kernel
theorem dX7_finds_17 : decode cX7_finds 17 = .ok (.iconst 0, 1) := by decide +kernel
theorem dX7_finds_18 : decode cX7_finds 18 = .ok (.goto 4, 3) := by decide +kernel
theorem dX7_finds_21 : decode cX7_finds 21 = .ok (.iconst 1, 1) := by decide +kernel
theorem dX7_finds_22 : decode cX7_finds 22 = .ok (.invokevirtual 67, 3) := by decide +kernel
theorem dX7_finds_25 : decode cX7_finds 25 = .ok (.ifCond .eq 14, 3) := by decide +kernel
theorem dX7_finds_28 : decode cX7_finds 28 = .ok (.aload_n 0, 1) := by decide +kernel
theorem dX7_finds_29 : decode cX7_finds 29 = .ok (.iconst 1, 1) := by decide +kernel
theorem dX7_finds_30 : decode cX7_finds 30 = .ok (.iload_n 1, 1) := by decide +kernel
theorem dX7_finds_31 : decode cX7_finds 31 = .ok (.ishl, 1) := by decide +kernel
theorem dX7_finds_32 : decode cX7_finds 32 = .ok (.iload_n 2, 1) := by decide +kernel
theorem dX7_finds_33 : decode cX7_finds 33 = .ok (.invokevirtual 127, 3) := by decide +kernel
theorem dX7_finds_36 : decode cX7_finds 36 = .ok (.goto 4, 3) := by decide +kernel
theorem dX7_finds_39 : decode cX7_finds 39 = .ok (.iconst 0, 1) := by decide +kernel
theorem dX7_finds_40 : decode cX7_finds 40 = .ok (.ireturn, 1) := by decide +kernel
theorem dX7_together_0 : decode cX7_together 0 = .ok (.aload_n 0, 1) := by decide +kernel
theorem dX7_together_1 : decode cX7_together 1 = .ok (.iload_n 2, 1) := by decide +kernel
theorem dX7_together_2 : decode cX7_together 2 = .ok (.invokevirtual 74, 3) := by decide +kernel
theorem dX7_together_5 : decode cX7_together 5 = .ok (.istore_n 3, 1) := by decide +kernel
theorem dX7_together_6 : decode cX7_together 6 = .ok (.aload_n 0, 1) := by decide +kernel
theorem dX7_together_7 : decode cX7_together 7 = .ok (.iload_n 3, 1) := by decide +kernel
theorem dX7_together_8 : decode cX7_together 8 = .ok (.ifCond .ne 7, 3) := by decide +kernel
theorem dX7_together_11 : decode cX7_together 11 = .ok (.iconst 1, 1) := by decide +kernel
theorem dX7_together_12 : decode cX7_together 12 = .ok (.goto 24, 3) := by decide +kernel
theorem dX7_together_15 : decode cX7_together 15 = .ok (.iload_n 1, 1) := by decide +kernel
theorem dX7_together_16 : decode cX7_together 16 = .ok (.iconst 0, 1) := by decide +kernel
theorem dX7_together_17 : decode cX7_together 17 = .ok (.iconst 1, 1) := by decide +kernel
theorem dX7_together_18 : decode cX7_together 18 = .ok (.aload_n 0, 1) := by decide +kernel
theorem dX7_together_19 : decode cX7_together 19 = .ok (.getfield 64, 3) := by decide +kernel
theorem dX7_together_22 : decode cX7_together 22 = .ok (.ishl, 1) := by decide +kernel
theorem dX7_together_23 : decode cX7_together 23 = .ok (.iconst 1, 1) := by decide +kernel
theorem dX7_together_24 : decode cX7_together 24 = .ok (.isub, 1) := by decide +kernel
theorem dX7_together_25 : decode cX7_together 25 = .ok (.invokestatic 60, 3) := by decide +kernel
theorem dX7_together_28 : decode cX7_together 28 = .ok (.ifCond .eq 7, 3) := by decide +kernel
theorem dX7_together_31 : decode cX7_together 31 = .ok (.iconst 0, 1) := by decide +kernel
theorem dX7_together_32 : decode cX7_together 32 = .ok (.goto 4, 3) := by decide +kernel
theorem dX7_together_35 : decode cX7_together 35 = .ok (.iconst 2, 1) := by decide +kernel
theorem dX7_together_36 : decode cX7_together 36 = .ok (.invokevirtual 67, 3) := by decide +kernel
theorem dX7_together_39 : decode cX7_together 39 = .ok (.ifCond .eq 12, 3) := by decide +kernel
theorem dX7_together_42 : decode cX7_together 42 = .ok (.aload_n 0, 1) := by decide +kernel
theorem dX7_together_43 : decode cX7_together 43 = .ok (.iload_n 1, 1) := by decide +kernel
theorem dX7_together_44 : decode cX7_together 44 = .ok (.iload_n 2, 1) := by decide +kernel
theorem dX7_together_45 : decode cX7_together 45 = .ok (.invokevirtual 127, 3) := by decide +kernel
theorem dX7_together_48 : decode cX7_together 48 = .ok (.goto 4, 3) := by decide +kernel
theorem dX7_together_51 : decode cX7_together 51 = .ok (.iconst 0, 1) := by decide +kernel
theorem dX7_together_52 : decode cX7_together 52 = .ok (.ireturn, 1) := by decide +kernel
theorem dX7_rightTo_0 : decode cX7_rightTo 0 = .ok (.aload_n 0, 1) := by decide +kernel
theorem dX7_rightTo_1 : decode cX7_rightTo 1 = .ok (.aload_n 0, 1) := by decide +kernel
theorem dX7_rightTo_2 : decode cX7_rightTo 2 = .ok (.iload_n 1, 1) := by decide +kernel
theorem dX7_rightTo_3 : decode cX7_rightTo 3 = .ok (.invokevirtual 81, 3) := by decide +kernel
theorem dX7_rightTo_6 : decode cX7_rightTo 6 = .ok (.ifCond .eq 15, 3) := by decide +kernel
theorem dX7_rightTo_9 : decode cX7_rightTo 9 = .ok (.aload_n 0, 1) := by decide +kernel
theorem dX7_rightTo_10 : decode cX7_rightTo 10 = .ok (.iload_n 2, 1) := by decide +kernel
theorem dX7_rightTo_11 : decode cX7_rightTo 11 = .ok (.invokevirtual 74, 3) := by decide +kernel
theorem dX7_rightTo_14 : decode cX7_rightTo 14 = .ok (.ifCond .eq 7, 3) := by decide +kernel
theorem dX7_rightTo_17 : decode cX7_rightTo 17 = .ok (.iconst 0, 1) := by decide +kernel
theorem dX7_rightTo_18 : decode cX7_rightTo 18 = .ok (.goto 4, 3) := by decide +kernel
theorem dX7_rightTo_21 : decode cX7_rightTo 21 = .ok (.iconst 1, 1) := by decide +kernel
theorem dX7_rightTo_22 : decode cX7_rightTo 22 = .ok (.invokevirtual 67, 3) := by decide +kernel
theorem dX7_rightTo_25 : decode cX7_rightTo 25 = .ok (.ifCond .eq 12, 3) := by decide +kernel
theorem dX7_rightTo_28 : decode cX7_rightTo 28 = .ok (.aload_n 0, 1) := by decide +kernel
theorem dX7_rightTo_29 : decode cX7_rightTo 29 = .ok (.iload_n 1, 1) := by decide +kernel
theorem dX7_rightTo_30 : decode cX7_rightTo 30 = .ok (.iload_n 2, 1) := by decide +kernel
theorem dX7_rightTo_31 : decode cX7_rightTo 31 = .ok (.invokevirtual 108, 3) := by decide +kernel
theorem dX7_rightTo_34 : decode cX7_rightTo 34 = .ok (.goto 4, 3) := by decide +kernel
theorem dX7_rightTo_37 : decode cX7_rightTo 37 = .ok (.iconst 0, 1) := by decide +kernel
theorem dX7_rightTo_38 : decode cX7_rightTo 38 = .ok (.ireturn, 1) := by decide +kernel
theorem dX7_isSealed_0 : decode cX7_isSealed 0 = .ok (.aload_n 0, 1) := by decide +kernel
theorem dX7_isSealed_1 : decode cX7_isSealed 1 = .ok (.aload_n 0, 1) := by decide +kernel
theorem dX7_isSealed_2 : decode cX7_isSealed 2 = .ok (.iload_n 1, 1) := by decide +kernel
theorem dX7_isSealed_3 : decode cX7_isSealed 3 = .ok (.invokevirtual 74, 3) := by decide +kernel
theorem dX7_isSealed_6 : decode cX7_isSealed 6 = .ok (.ifCond .eq 7, 3) := by decide +kernel
theorem dX7_isSealed_9 : decode cX7_isSealed 9 = .ok (.iconst 0, 1) := by decide +kernel
theorem dX7_isSealed_10 : decode cX7_isSealed 10 = .ok (.goto 4, 3) := by decide +kernel
theorem dX7_isSealed_13 : decode cX7_isSealed 13 = .ok (.iconst 1, 1) := by decide +kernel
theorem dX7_isSealed_14 : decode cX7_isSealed 14 = .ok (.invokevirtual 67, 3) := by decide +kernel
theorem dX7_isSealed_17 : decode cX7_isSealed 17 = .ok (.ifCond .eq 20, 3) := by decide +kernel
theorem dX7_isSealed_20 : decode cX7_isSealed 20 = .ok (.aload_n 0, 1) := by decide +kernel
theorem dX7_isSealed_21 : decode cX7_isSealed 21 = .ok (.getfield 13, 3) := by decide +kernel
theorem dX7_isSealed_24 : decode cX7_isSealed 24 = .ok (.iload_n 1, 1) := by decide +kernel
theorem dX7_isSealed_25 : decode cX7_isSealed 25 = .ok (.iaload, 1) := by decide +kernel
theorem dX7_isSealed_26 : decode cX7_isSealed 26 = .ok (.aload_n 0, 1) := by decide +kernel
theorem dX7_isSealed_27 : decode cX7_isSealed 27 = .ok (.getfield 84, 3) := by decide +kernel
theorem dX7_isSealed_30 : decode cX7_isSealed 30 = .ok (.if_icmp .lt 7, 3) := by decide +kernel
theorem dX7_isSealed_33 : decode cX7_isSealed 33 = .ok (.iconst 1, 1) := by decide +kernel
theorem dX7_isSealed_34 : decode cX7_isSealed 34 = .ok (.goto 4, 3) := by decide +kernel
theorem dX7_isSealed_37 : decode cX7_isSealed 37 = .ok (.iconst 0, 1) := by decide +kernel
theorem dX7_isSealed_38 : decode cX7_isSealed 38 = .ok (.ireturn, 1) := by decide +kernel
theorem dX7_count_0 : decode cX7_count 0 = .ok (.aload_n 0, 1) := by decide +kernel
theorem dX7_count_1 : decode cX7_count 1 = .ok (.iload_n 1, 1) := by decide +kernel
theorem dX7_count_2 : decode cX7_count 2 = .ok (.invokevirtual 81, 3) := by decide +kernel
theorem dX7_count_5 : decode cX7_count 5 = .ok (.istore_n 3, 1) := by decide +kernel
theorem dX7_count_6 : decode cX7_count 6 = .ok (.aload_n 0, 1) := by decide +kernel
theorem dX7_count_7 : decode cX7_count 7 = .ok (.iload_n 3, 1) := by decide +kernel
theorem dX7_count_8 : decode cX7_count 8 = .ok (.ifCond .ne 7, 3) := by decide +kernel
theorem dX7_count_11 : decode cX7_count 11 = .ok (.iconst 1, 1) := by decide +kernel
theorem dX7_count_12 : decode cX7_count 12 = .ok (.goto 17, 3) := by decide +kernel
theorem dX7_count_15 : decode cX7_count 15 = .ok (.iload_n 2, 1) := by decide +kernel
theorem dX7_count_16 : decode cX7_count 16 = .ok (.iconst 0, 1) := by decide +kernel
theorem dX7_count_17 : decode cX7_count 17 = .ok (.iconst 5, 1) := by decide +kernel
theorem dX7_count_18 : decode cX7_count 18 = .ok (.invokestatic 60, 3) := by decide +kernel
theorem dX7_count_21 : decode cX7_count 21 = .ok (.ifCond .eq 7, 3) := by decide +kernel
theorem dX7_count_24 : decode cX7_count 24 = .ok (.iconst 0, 1) := by decide +kernel
theorem dX7_count_25 : decode cX7_count 25 = .ok (.goto 4, 3) := by decide +kernel
theorem dX7_count_28 : decode cX7_count 28 = .ok (.iconst 2, 1) := by decide +kernel
theorem dX7_count_29 : decode cX7_count 29 = .ok (.invokevirtual 67, 3) := by decide +kernel
theorem dX7_count_32 : decode cX7_count 32 = .ok (.ifCond .ne 5, 3) := by decide +kernel
theorem dX7_count_35 : decode cX7_count 35 = .ok (.iconst 0, 1) := by decide +kernel
theorem dX7_count_36 : decode cX7_count 36 = .ok (.ireturn, 1) := by decide +kernel
theorem dX7_count_37 : decode cX7_count 37 = .ok (.iconst 0, 1) := by decide +kernel
theorem dX7_count_38 : decode cX7_count 38 = .ok (.istore 4, 2) := by decide +kernel
theorem dX7_count_40 : decode cX7_count 40 = .ok (.iconst 0, 1) := by decide +kernel
theorem dX7_count_41 : decode cX7_count 41 = .ok (.istore 5, 2) := by decide +kernel
theorem dX7_count_43 : decode cX7_count 43 = .ok (.iload 5, 2) := by decide +kernel
theorem dX7_count_45 : decode cX7_count 45 = .ok (.aload_n 0, 1) := by decide +kernel
theorem dX7_count_46 : decode cX7_count 46 = .ok (.getfield 71, 3) := by decide +kernel
theorem dX7_count_49 : decode cX7_count 49 = .ok (.if_icmp .ge 40, 3) := by decide +kernel
theorem dX7_count_52 : decode cX7_count 52 = .ok (.iload 4, 2) := by decide +kernel
theorem dX7_count_54 : decode cX7_count 54 = .ok (.aload_n 0, 1) := by decide +kernel
theorem dX7_count_55 : decode cX7_count 55 = .ok (.getfield 28, 3) := by decide +kernel
theorem dX7_count_58 : decode cX7_count 58 = .ok (.iload 5, 2) := by decide +kernel
theorem dX7_count_60 : decode cX7_count 60 = .ok (.iaload, 1) := by decide +kernel
theorem dX7_count_61 : decode cX7_count 61 = .ok (.iload_n 1, 1) := by decide +kernel
theorem dX7_count_62 : decode cX7_count 62 = .ok (.if_icmp .ne 17, 3) := by decide +kernel
theorem dX7_count_65 : decode cX7_count 65 = .ok (.aload_n 0, 1) := by decide +kernel
theorem dX7_count_66 : decode cX7_count 66 = .ok (.getfield 43, 3) := by decide +kernel
theorem dX7_count_69 : decode cX7_count 69 = .ok (.iload 5, 2) := by decide +kernel
theorem dX7_count_71 : decode cX7_count 71 = .ok (.baload, 1) := by decide +kernel
theorem dX7_count_72 : decode cX7_count 72 = .ok (.ifCond .ne 7, 3) := by decide +kernel
theorem dX7_count_75 : decode cX7_count 75 = .ok (.iconst 1, 1) := by decide +kernel
theorem dX7_count_76 : decode cX7_count 76 = .ok (.goto 4, 3) := by decide +kernel
theorem dX7_count_79 : decode cX7_count 79 = .ok (.iconst 0, 1) := by decide +kernel
theorem dX7_count_80 : decode cX7_count 80 = .ok (.iadd, 1) := by decide +kernel
theorem dX7_count_81 : decode cX7_count 81 = .ok (.istore 4, 2) := by decide +kernel
theorem dX7_count_83 : decode cX7_count 83 = .ok (.iinc 5 1, 3) := by decide +kernel
theorem dX7_count_86 : decode cX7_count 86 = .ok (.goto (-43), 3) := by decide +kernel
theorem dX7_count_89 : decode cX7_count 89 = .ok (.iload_n 2, 1) := by decide +kernel
theorem dX7_count_90 : decode cX7_count 90 = .ok (.iconst 5, 1) := by decide +kernel
theorem dX7_count_91 : decode cX7_count 91 = .ok (.if_icmp .ne 8, 3) := by decide +kernel
theorem dX7_count_94 : decode cX7_count 94 = .ok (.iload 4, 2) := by decide +kernel
theorem dX7_count_96 : decode cX7_count 96 = .ok (.goto 14, 3) := by decide +kernel
theorem dX7_count_99 : decode cX7_count 99 = .ok (.aload_n 0, 1) := by decide +kernel
theorem dX7_count_100 : decode cX7_count 100 = .ok (.getfield 47, 3) := by decide +kernel
theorem dX7_count_103 : decode cX7_count 103 = .ok (.bipush 6, 2) := by decide +kernel
theorem dX7_count_105 : decode cX7_count 105 = .ok (.iload_n 1, 1) := by decide +kernel
theorem dX7_count_106 : decode cX7_count 106 = .ok (.imul, 1) := by decide +kernel
theorem dX7_count_107 : decode cX7_count 107 = .ok (.iload_n 2, 1) := by decide +kernel
theorem dX7_count_108 : decode cX7_count 108 = .ok (.iadd, 1) := by decide +kernel
theorem dX7_count_109 : decode cX7_count 109 = .ok (.iaload, 1) := by decide +kernel
theorem dX7_count_110 : decode cX7_count 110 = .ok (.ireturn, 1) := by decide +kernel
theorem dL_file_0 : decode cL_file 0 = .ok (.aload_n 2, 1) := by decide +kernel
theorem dL_file_1 : decode cL_file 1 = .ok (.iconst 0, 1) := by decide +kernel
theorem dL_file_2 : decode cL_file 2 = .ok (.aload_n 0, 1) := by decide +kernel
theorem dL_file_3 : decode cL_file 3 = .ok (.iload_n 1, 1) := by decide +kernel
theorem dL_file_4 : decode cL_file 4 = .ok (.invokevirtual 7, 3) := by decide +kernel
theorem dL_file_7 : decode cL_file 7 = .ok (.i2l, 1) := by decide +kernel
theorem dL_file_8 : decode cL_file 8 = .ok (.lastore, 1) := by decide +kernel
theorem dL_file_9 : decode cL_file 9 = .ok (.goto 9, 3) := by decide +kernel
theorem dL_file_12 : decode cL_file 12 = .ok (.astore_n 3, 1) := by decide +kernel
theorem dL_file_13 : decode cL_file 13 = .ok (.iconst 1, 1) := by decide +kernel
theorem dL_file_14 : decode cL_file 14 = .ok (.ireturn, 1) := by decide +kernel
theorem dL_file_15 : decode cL_file 15 = .ok (.astore_n 3, 1) := by decide +kernel
theorem dL_file_16 : decode cL_file 16 = .ok (.iconst 2, 1) := by decide +kernel
theorem dL_file_17 : decode cL_file 17 = .ok (.ireturn, 1) := by decide +kernel
theorem dL_file_18 : decode cL_file 18 = .ok (.iconst 0, 1) := by decide +kernel
theorem dL_file_19 : decode cL_file 19 = .ok (.ireturn, 1) := by decide +kernel
theorem dL_change_0 : decode cL_change 0 = .ok (.aload_n 3, 1) := by decide +kernel
theorem dL_change_1 : decode cL_change 1 = .ok (.iconst 0, 1) := by decide +kernel
theorem dL_change_2 : decode cL_change 2 = .ok (.aload_n 0, 1) := by decide +kernel
theorem dL_change_3 : decode cL_change 3 = .ok (.iload_n 1, 1) := by decide +kernel
theorem dL_change_4 : decode cL_change 4 = .ok (.iload_n 2, 1) := by decide +kernel
theorem dL_change_5 : decode cL_change 5 = .ok (.invokevirtual 17, 3) := by decide +kernel
theorem dL_change_8 : decode cL_change 8 = .ok (.i2l, 1) := by decide +kernel
theorem dL_change_9 : decode cL_change 9 = .ok (.lastore, 1) := by decide +kernel
theorem dL_change_10 : decode cL_change 10 = .ok (.goto 11, 3) := by decide +kernel
theorem dL_change_13 : decode cL_change 13 = .ok (.astore 4, 2) := by decide +kernel
theorem dL_change_15 : decode cL_change 15 = .ok (.iconst 1, 1) := by decide +kernel
theorem dL_change_16 : decode cL_change 16 = .ok (.ireturn, 1) := by decide +kernel
theorem dL_change_17 : decode cL_change 17 = .ok (.astore 4, 2) := by decide +kernel
theorem dL_change_19 : decode cL_change 19 = .ok (.iconst 2, 1) := by decide +kernel
theorem dL_change_20 : decode cL_change 20 = .ok (.ireturn, 1) := by decide +kernel
theorem dL_change_21 : decode cL_change 21 = .ok (.iconst 0, 1) := by decide +kernel
theorem dL_change_22 : decode cL_change 22 = .ok (.ireturn, 1) := by decide +kernel
theorem dL_party_0 : decode cL_party 0 = .ok (.aload_n 2, 1) := by decide +kernel
theorem dL_party_1 : decode cL_party 1 = .ok (.iconst 0, 1) := by decide +kernel
theorem dL_party_2 : decode cL_party 2 = .ok (.aload_n 0, 1) := by decide +kernel
theorem dL_party_3 : decode cL_party 3 = .ok (.iload_n 1, 1) := by decide +kernel
theorem dL_party_4 : decode cL_party 4 = .ok (.invokevirtual 23, 3) := by decide +kernel
theorem dL_party_7 : decode cL_party 7 = .ok (.i2l, 1) := by decide +kernel
theorem dL_party_8 : decode cL_party 8 = .ok (.lastore, 1) := by decide +kernel
theorem dL_party_9 : decode cL_party 9 = .ok (.goto 9, 3) := by decide +kernel
theorem dL_party_12 : decode cL_party 12 = .ok (.astore_n 3, 1) := by decide +kernel
theorem dL_party_13 : decode cL_party 13 = .ok (.iconst 1, 1) := by decide +kernel
theorem dL_party_14 : decode cL_party 14 = .ok (.ireturn, 1) := by decide +kernel
theorem dL_party_15 : decode cL_party 15 = .ok (.astore_n 3, 1) := by decide +kernel
theorem dL_party_16 : decode cL_party 16 = .ok (.iconst 2, 1) := by decide +kernel
theorem dL_party_17 : decode cL_party 17 = .ok (.ireturn, 1) := by decide +kernel
theorem dL_party_18 : decode cL_party 18 = .ok (.iconst 0, 1) := by decide +kernel
theorem dL_party_19 : decode cL_party 19 = .ok (.ireturn, 1) := by decide +kernel
theorem dL_budget_0 : decode cL_budget 0 = .ok (.aload_n 3, 1) := by decide +kernel
theorem dL_budget_1 : decode cL_budget 1 = .ok (.iconst 0, 1) := by decide +kernel
theorem dL_budget_2 : decode cL_budget 2 = .ok (.aload_n 0, 1) := by decide +kernel
theorem dL_budget_3 : decode cL_budget 3 = .ok (.iload_n 1, 1) := by decide +kernel
theorem dL_budget_4 : decode cL_budget 4 = .ok (.iload_n 2, 1) := by decide +kernel
theorem dL_budget_5 : decode cL_budget 5 = .ok (.invokevirtual 26, 3) := by decide +kernel
theorem dL_budget_8 : decode cL_budget 8 = .ok (.i2l, 1) := by decide +kernel
theorem dL_budget_9 : decode cL_budget 9 = .ok (.lastore, 1) := by decide +kernel
theorem dL_budget_10 : decode cL_budget 10 = .ok (.goto 11, 3) := by decide +kernel
theorem dL_budget_13 : decode cL_budget 13 = .ok (.astore 4, 2) := by decide +kernel
theorem dL_budget_15 : decode cL_budget 15 = .ok (.iconst 1, 1) := by decide +kernel
theorem dL_budget_16 : decode cL_budget 16 = .ok (.ireturn, 1) := by decide +kernel
theorem dL_budget_17 : decode cL_budget 17 = .ok (.astore 4, 2) := by decide +kernel
theorem dL_budget_19 : decode cL_budget 19 = .ok (.iconst 2, 1) := by decide +kernel
theorem dL_budget_20 : decode cL_budget 20 = .ok (.ireturn, 1) := by decide +kernel
theorem dL_budget_21 : decode cL_budget 21 = .ok (.iconst 0, 1) := by decide +kernel
theorem dL_budget_22 : decode cL_budget 22 = .ok (.ireturn, 1) := by decide +kernel
theorem dL_right_0 : decode cL_right 0 = .ok (.aload_n 0, 1) := by decide +kernel
theorem dL_right_1 : decode cL_right 1 = .ok (.iload_n 1, 1) := by decide +kernel
theorem dL_right_2 : decode cL_right 2 = .ok (.iload_n 2, 1) := by decide +kernel
theorem dL_right_3 : decode cL_right 3 = .ok (.iload_n 3, 1) := by decide +kernel
theorem dL_right_4 : decode cL_right 4 = .ok (.iload 4, 2) := by decide +kernel
theorem dL_right_6 : decode cL_right 6 = .ok (.iload 5, 2) := by decide +kernel
theorem dL_right_8 : decode cL_right 8 = .ok (.invokevirtual 29, 3) := by decide +kernel
theorem dL_right_11 : decode cL_right 11 = .ok (.goto 11, 3) := by decide +kernel
theorem dL_right_14 : decode cL_right 14 = .ok (.astore 6, 2) := by decide +kernel
theorem dL_right_16 : decode cL_right 16 = .ok (.iconst 1, 1) := by decide +kernel
theorem dL_right_17 : decode cL_right 17 = .ok (.ireturn, 1) := by decide +kernel
theorem dL_right_18 : decode cL_right 18 = .ok (.astore 6, 2) := by decide +kernel
theorem dL_right_20 : decode cL_right 20 = .ok (.iconst 2, 1) := by decide +kernel
theorem dL_right_21 : decode cL_right 21 = .ok (.ireturn, 1) := by decide +kernel
theorem dL_right_22 : decode cL_right 22 = .ok (.iconst 0, 1) := by decide +kernel
theorem dL_right_23 : decode cL_right 23 = .ok (.ireturn, 1) := by decide +kernel
theorem dL_takeBack_0 : decode cL_takeBack 0 = .ok (.aload_n 3, 1) := by decide +kernel
theorem dL_takeBack_1 : decode cL_takeBack 1 = .ok (.iconst 0, 1) := by decide +kernel
theorem dL_takeBack_2 : decode cL_takeBack 2 = .ok (.aload_n 0, 1) := by decide +kernel
theorem dL_takeBack_3 : decode cL_takeBack 3 = .ok (.iload_n 1, 1) := by decide +kernel
theorem dL_takeBack_4 : decode cL_takeBack 4 = .ok (.iload_n 2, 1) := by decide +kernel
theorem dL_takeBack_5 : decode cL_takeBack 5 = .ok (.invokevirtual 33, 3) := by decide +kernel
theorem dL_takeBack_8 : decode cL_takeBack 8 = .ok (.i2l, 1) := by decide +kernel
theorem dL_takeBack_9 : decode cL_takeBack 9 = .ok (.lastore, 1) := by decide +kernel
theorem dL_takeBack_10 : decode cL_takeBack 10 = .ok (.goto 7, 3) := by decide +kernel
theorem dL_takeBack_13 : decode cL_takeBack 13 = .ok (.astore 4, 2) := by decide +kernel
theorem dL_takeBack_15 : decode cL_takeBack 15 = .ok (.iconst 1, 1) := by decide +kernel
theorem dL_takeBack_16 : decode cL_takeBack 16 = .ok (.ireturn, 1) := by decide +kernel
theorem dL_takeBack_17 : decode cL_takeBack 17 = .ok (.iconst 0, 1) := by decide +kernel
theorem dL_takeBack_18 : decode cL_takeBack 18 = .ok (.ireturn, 1) := by decide +kernel
theorem dL_seal_0 : decode cL_seal 0 = .ok (.aload_n 0, 1) := by decide +kernel
theorem dL_seal_1 : decode cL_seal 1 = .ok (.iload_n 1, 1) := by decide +kernel
theorem dL_seal_2 : decode cL_seal 2 = .ok (.iload_n 2, 1) := by decide +kernel
theorem dL_seal_3 : decode cL_seal 3 = .ok (.invokevirtual 36, 3) := by decide +kernel
theorem dL_seal_6 : decode cL_seal 6 = .ok (.goto 9, 3) := by decide +kernel
theorem dL_seal_9 : decode cL_seal 9 = .ok (.astore_n 3, 1) := by decide +kernel
theorem dL_seal_10 : decode cL_seal 10 = .ok (.iconst 1, 1) := by decide +kernel
theorem dL_seal_11 : decode cL_seal 11 = .ok (.ireturn, 1) := by decide +kernel
theorem dL_seal_12 : decode cL_seal 12 = .ok (.astore_n 3, 1) := by decide +kernel
theorem dL_seal_13 : decode cL_seal 13 = .ok (.iconst 2, 1) := by decide +kernel
theorem dL_seal_14 : decode cL_seal 14 = .ok (.ireturn, 1) := by decide +kernel
theorem dL_seal_15 : decode cL_seal 15 = .ok (.iconst 0, 1) := by decide +kernel
theorem dL_seal_16 : decode cL_seal 16 = .ok (.ireturn, 1) := by decide +kernel
theorem dL_pass_0 : decode cL_pass 0 = .ok (.aload_n 2, 1) := by decide +kernel
theorem dL_pass_1 : decode cL_pass 1 = .ok (.iconst 0, 1) := by decide +kernel
theorem dL_pass_2 : decode cL_pass 2 = .ok (.aload_n 0, 1) := by decide +kernel
theorem dL_pass_3 : decode cL_pass 3 = .ok (.iload_n 1, 1) := by decide +kernel
theorem dL_pass_4 : decode cL_pass 4 = .ok (.invokevirtual 40, 3) := by decide +kernel
theorem dL_pass_7 : decode cL_pass 7 = .ok (.i2l, 1) := by decide +kernel
theorem dL_pass_8 : decode cL_pass 8 = .ok (.lastore, 1) := by decide +kernel
theorem dL_pass_9 : decode cL_pass 9 = .ok (.goto 9, 3) := by decide +kernel
theorem dL_pass_12 : decode cL_pass 12 = .ok (.astore_n 3, 1) := by decide +kernel
theorem dL_pass_13 : decode cL_pass 13 = .ok (.iconst 1, 1) := by decide +kernel
theorem dL_pass_14 : decode cL_pass 14 = .ok (.ireturn, 1) := by decide +kernel
theorem dL_pass_15 : decode cL_pass 15 = .ok (.astore_n 3, 1) := by decide +kernel
theorem dL_pass_16 : decode cL_pass 16 = .ok (.iconst 2, 1) := by decide +kernel
theorem dL_pass_17 : decode cL_pass 17 = .ok (.ireturn, 1) := by decide +kernel
theorem dL_pass_18 : decode cL_pass 18 = .ok (.iconst 0, 1) := by decide +kernel
theorem dL_pass_19 : decode cL_pass 19 = .ok (.ireturn, 1) := by decide +kernel
theorem dL_ask_0 : decode cL_ask 0 = .ok (.aload 4, 2) := by decide +kernel
theorem dL_ask_2 : decode cL_ask 2 = .ok (.iconst 0, 1) := by decide +kernel
theorem dL_ask_3 : decode cL_ask 3 = .ok (.aload_n 0, 1) := by decide +kernel
theorem dL_ask_4 : decode cL_ask 4 = .ok (.iload_n 1, 1) := by decide +kernel
theorem dL_ask_5 : decode cL_ask 5 = .ok (.iload_n 2, 1) := by decide +kernel
theorem dL_ask_6 : decode cL_ask 6 = .ok (.iload_n 3, 1) := by decide +kernel
theorem dL_ask_7 : decode cL_ask 7 = .ok (.invokevirtual 43, 3) := by decide +kernel
theorem dL_ask_10 : decode cL_ask 10 = .ok (.i2l, 1) := by decide +kernel
theorem dL_ask_11 : decode cL_ask 11 = .ok (.lastore, 1) := by decide +kernel
theorem dL_ask_12 : decode cL_ask 12 = .ok (.goto 15, 3) := by decide +kernel
theorem dL_ask_15 : decode cL_ask 15 = .ok (.astore 5, 2) := by decide +kernel
theorem dL_ask_17 : decode cL_ask 17 = .ok (.iconst 1, 1) := by decide +kernel
theorem dL_ask_18 : decode cL_ask 18 = .ok (.ireturn, 1) := by decide +kernel
theorem dL_ask_19 : decode cL_ask 19 = .ok (.astore 5, 2) := by decide +kernel
theorem dL_ask_21 : decode cL_ask 21 = .ok (.iconst 2, 1) := by decide +kernel
theorem dL_ask_22 : decode cL_ask 22 = .ok (.ireturn, 1) := by decide +kernel
theorem dL_ask_23 : decode cL_ask 23 = .ok (.astore 5, 2) := by decide +kernel
theorem dL_ask_25 : decode cL_ask 25 = .ok (.iconst 3, 1) := by decide +kernel
theorem dL_ask_26 : decode cL_ask 26 = .ok (.ireturn, 1) := by decide +kernel
theorem dL_ask_27 : decode cL_ask 27 = .ok (.iconst 0, 1) := by decide +kernel
theorem dL_ask_28 : decode cL_ask 28 = .ok (.ireturn, 1) := by decide +kernel
theorem dL_cost_0 : decode cL_cost 0 = .ok (.aload 4, 2) := by decide +kernel
theorem dL_cost_2 : decode cL_cost 2 = .ok (.iconst 0, 1) := by decide +kernel
theorem dL_cost_3 : decode cL_cost 3 = .ok (.aload_n 0, 1) := by decide +kernel
theorem dL_cost_4 : decode cL_cost 4 = .ok (.iload_n 1, 1) := by decide +kernel
theorem dL_cost_5 : decode cL_cost 5 = .ok (.iload_n 2, 1) := by decide +kernel
theorem dL_cost_6 : decode cL_cost 6 = .ok (.iload_n 3, 1) := by decide +kernel
theorem dL_cost_7 : decode cL_cost 7 = .ok (.invokevirtual 47, 3) := by decide +kernel
theorem dL_cost_10 : decode cL_cost 10 = .ok (.i2l, 1) := by decide +kernel
theorem dL_cost_11 : decode cL_cost 11 = .ok (.lastore, 1) := by decide +kernel
theorem dL_cost_12 : decode cL_cost 12 = .ok (.goto 11, 3) := by decide +kernel
theorem dL_cost_15 : decode cL_cost 15 = .ok (.astore 5, 2) := by decide +kernel
theorem dL_cost_17 : decode cL_cost 17 = .ok (.iconst 1, 1) := by decide +kernel
theorem dL_cost_18 : decode cL_cost 18 = .ok (.ireturn, 1) := by decide +kernel
theorem dL_cost_19 : decode cL_cost 19 = .ok (.astore 5, 2) := by decide +kernel
theorem dL_cost_21 : decode cL_cost 21 = .ok (.iconst 2, 1) := by decide +kernel
theorem dL_cost_22 : decode cL_cost 22 = .ok (.ireturn, 1) := by decide +kernel
theorem dL_cost_23 : decode cL_cost 23 = .ok (.iconst 0, 1) := by decide +kernel
theorem dL_cost_24 : decode cL_cost 24 = .ok (.ireturn, 1) := by decide +kernel
theorem dL_answer_0 : decode cL_answer 0 = .ok (.aload_n 3, 1) := by decide +kernel
theorem dL_answer_1 : decode cL_answer 1 = .ok (.iconst 0, 1) := by decide +kernel
theorem dL_answer_2 : decode cL_answer 2 = .ok (.aload_n 0, 1) := by decide +kernel
theorem dL_answer_3 : decode cL_answer 3 = .ok (.iload_n 1, 1) := by decide +kernel
theorem dL_answer_4 : decode cL_answer 4 = .ok (.iload_n 2, 1) := by decide +kernel
theorem dL_answer_5 : decode cL_answer 5 = .ok (.invokevirtual 50, 3) := by decide +kernel
theorem dL_answer_8 : decode cL_answer 8 = .ok (.i2l, 1) := by decide +kernel
theorem dL_answer_9 : decode cL_answer 9 = .ok (.lastore, 1) := by decide +kernel
theorem dL_answer_10 : decode cL_answer 10 = .ok (.goto 11, 3) := by decide +kernel
theorem dL_answer_13 : decode cL_answer 13 = .ok (.astore 4, 2) := by decide +kernel
theorem dL_answer_15 : decode cL_answer 15 = .ok (.iconst 1, 1) := by decide +kernel
theorem dL_answer_16 : decode cL_answer 16 = .ok (.ireturn, 1) := by decide +kernel
theorem dL_answer_17 : decode cL_answer 17 = .ok (.astore 4, 2) := by decide +kernel
theorem dL_answer_19 : decode cL_answer 19 = .ok (.iconst 2, 1) := by decide +kernel
theorem dL_answer_20 : decode cL_answer 20 = .ok (.ireturn, 1) := by decide +kernel
theorem dL_answer_21 : decode cL_answer 21 = .ok (.iconst 0, 1) := by decide +kernel
theorem dL_answer_22 : decode cL_answer 22 = .ok (.ireturn, 1) := by decide +kernel
theorem dL_spent_0 : decode cL_spent 0 = .ok (.aload_n 2, 1) := by decide +kernel
theorem dL_spent_1 : decode cL_spent 1 = .ok (.iconst 0, 1) := by decide +kernel
theorem dL_spent_2 : decode cL_spent 2 = .ok (.aload_n 0, 1) := by decide +kernel
theorem dL_spent_3 : decode cL_spent 3 = .ok (.iload_n 1, 1) := by decide +kernel
theorem dL_spent_4 : decode cL_spent 4 = .ok (.invokevirtual 53, 3) := by decide +kernel
theorem dL_spent_7 : decode cL_spent 7 = .ok (.i2l, 1) := by decide +kernel
theorem dL_spent_8 : decode cL_spent 8 = .ok (.lastore, 1) := by decide +kernel
theorem dL_spent_9 : decode cL_spent 9 = .ok (.goto 6, 3) := by decide +kernel
theorem dL_spent_12 : decode cL_spent 12 = .ok (.astore_n 3, 1) := by decide +kernel
theorem dL_spent_13 : decode cL_spent 13 = .ok (.iconst 1, 1) := by decide +kernel
theorem dL_spent_14 : decode cL_spent 14 = .ok (.ireturn, 1) := by decide +kernel
theorem dL_spent_15 : decode cL_spent 15 = .ok (.iconst 0, 1) := by decide +kernel
theorem dL_spent_16 : decode cL_spent 16 = .ok (.ireturn, 1) := by decide +kernel
theorem dL_spentAnew_0 : decode cL_spentAnew 0 = .ok (.aload_n 2, 1) := by decide +kernel
theorem dL_spentAnew_1 : decode cL_spentAnew 1 = .ok (.iconst 0, 1) := by decide +kernel
theorem dL_spentAnew_2 : decode cL_spentAnew 2 = .ok (.aload_n 0, 1) := by decide +kernel
theorem dL_spentAnew_3 : decode cL_spentAnew 3 = .ok (.iload_n 1, 1) := by decide +kernel
theorem dL_spentAnew_4 : decode cL_spentAnew 4 = .ok (.invokevirtual 56, 3) := by decide +kernel
theorem dL_spentAnew_7 : decode cL_spentAnew 7 = .ok (.i2l, 1) := by decide +kernel
theorem dL_spentAnew_8 : decode cL_spentAnew 8 = .ok (.lastore, 1) := by decide +kernel
theorem dL_spentAnew_9 : decode cL_spentAnew 9 = .ok (.goto 6, 3) := by decide +kernel
theorem dL_spentAnew_12 : decode cL_spentAnew 12 = .ok (.astore_n 3, 1) := by decide +kernel
theorem dL_spentAnew_13 : decode cL_spentAnew 13 = .ok (.iconst 1, 1) := by decide +kernel
theorem dL_spentAnew_14 : decode cL_spentAnew 14 = .ok (.ireturn, 1) := by decide +kernel
theorem dL_spentAnew_15 : decode cL_spentAnew 15 = .ok (.iconst 0, 1) := by decide +kernel
theorem dL_spentAnew_16 : decode cL_spentAnew 16 = .ok (.ireturn, 1) := by decide +kernel
theorem dL_finds_0 : decode cL_finds 0 = .ok (.aload_n 3, 1) := by decide +kernel
theorem dL_finds_1 : decode cL_finds 1 = .ok (.iconst 0, 1) := by decide +kernel
theorem dL_finds_2 : decode cL_finds 2 = .ok (.aload_n 0, 1) := by decide +kernel
theorem dL_finds_3 : decode cL_finds 3 = .ok (.iload_n 1, 1) := by decide +kernel
theorem dL_finds_4 : decode cL_finds 4 = .ok (.iload_n 2, 1) := by decide +kernel
theorem dL_finds_5 : decode cL_finds 5 = .ok (.invokevirtual 59, 3) := by decide +kernel
theorem dL_finds_8 : decode cL_finds 8 = .ok (.i2l, 1) := by decide +kernel
theorem dL_finds_9 : decode cL_finds 9 = .ok (.lastore, 1) := by decide +kernel
theorem dL_finds_10 : decode cL_finds 10 = .ok (.goto 7, 3) := by decide +kernel
theorem dL_finds_13 : decode cL_finds 13 = .ok (.astore 4, 2) := by decide +kernel
theorem dL_finds_15 : decode cL_finds 15 = .ok (.iconst 1, 1) := by decide +kernel
theorem dL_finds_16 : decode cL_finds 16 = .ok (.ireturn, 1) := by decide +kernel
theorem dL_finds_17 : decode cL_finds 17 = .ok (.iconst 0, 1) := by decide +kernel
theorem dL_finds_18 : decode cL_finds 18 = .ok (.ireturn, 1) := by decide +kernel
theorem dL_together_0 : decode cL_together 0 = .ok (.aload_n 3, 1) := by decide +kernel
theorem dL_together_1 : decode cL_together 1 = .ok (.iconst 0, 1) := by decide +kernel
theorem dL_together_2 : decode cL_together 2 = .ok (.aload_n 0, 1) := by decide +kernel
theorem dL_together_3 : decode cL_together 3 = .ok (.iload_n 1, 1) := by decide +kernel
theorem dL_together_4 : decode cL_together 4 = .ok (.iload_n 2, 1) := by decide +kernel
theorem dL_together_5 : decode cL_together 5 = .ok (.invokevirtual 62, 3) := by decide +kernel
theorem dL_together_8 : decode cL_together 8 = .ok (.i2l, 1) := by decide +kernel
theorem dL_together_9 : decode cL_together 9 = .ok (.lastore, 1) := by decide +kernel
theorem dL_together_10 : decode cL_together 10 = .ok (.goto 11, 3) := by decide +kernel
theorem dL_together_13 : decode cL_together 13 = .ok (.astore 4, 2) := by decide +kernel
theorem dL_together_15 : decode cL_together 15 = .ok (.iconst 1, 1) := by decide +kernel
theorem dL_together_16 : decode cL_together 16 = .ok (.ireturn, 1) := by decide +kernel
theorem dL_together_17 : decode cL_together 17 = .ok (.astore 4, 2) := by decide +kernel
theorem dL_together_19 : decode cL_together 19 = .ok (.iconst 2, 1) := by decide +kernel
theorem dL_together_20 : decode cL_together 20 = .ok (.ireturn, 1) := by decide +kernel
theorem dL_together_21 : decode cL_together 21 = .ok (.iconst 0, 1) := by decide +kernel
theorem dL_together_22 : decode cL_together 22 = .ok (.ireturn, 1) := by decide +kernel
theorem dL_rightTo_0 : decode cL_rightTo 0 = .ok (.aload_n 3, 1) := by decide +kernel
theorem dL_rightTo_1 : decode cL_rightTo 1 = .ok (.iconst 0, 1) := by decide +kernel
theorem dL_rightTo_2 : decode cL_rightTo 2 = .ok (.aload_n 0, 1) := by decide +kernel
theorem dL_rightTo_3 : decode cL_rightTo 3 = .ok (.iload_n 1, 1) := by decide +kernel
theorem dL_rightTo_4 : decode cL_rightTo 4 = .ok (.iload_n 2, 1) := by decide +kernel
theorem dL_rightTo_5 : decode cL_rightTo 5 = .ok (.invokevirtual 65, 3) := by decide +kernel
theorem dL_rightTo_8 : decode cL_rightTo 8 = .ok (.i2l, 1) := by decide +kernel
theorem dL_rightTo_9 : decode cL_rightTo 9 = .ok (.lastore, 1) := by decide +kernel
theorem dL_rightTo_10 : decode cL_rightTo 10 = .ok (.goto 7, 3) := by decide +kernel
theorem dL_rightTo_13 : decode cL_rightTo 13 = .ok (.astore 4, 2) := by decide +kernel
theorem dL_rightTo_15 : decode cL_rightTo 15 = .ok (.iconst 1, 1) := by decide +kernel
theorem dL_rightTo_16 : decode cL_rightTo 16 = .ok (.ireturn, 1) := by decide +kernel
theorem dL_rightTo_17 : decode cL_rightTo 17 = .ok (.iconst 0, 1) := by decide +kernel
theorem dL_rightTo_18 : decode cL_rightTo 18 = .ok (.ireturn, 1) := by decide +kernel
theorem dL_isSealed_0 : decode cL_isSealed 0 = .ok (.aload_n 2, 1) := by decide +kernel
theorem dL_isSealed_1 : decode cL_isSealed 1 = .ok (.iconst 0, 1) := by decide +kernel
theorem dL_isSealed_2 : decode cL_isSealed 2 = .ok (.aload_n 0, 1) := by decide +kernel
theorem dL_isSealed_3 : decode cL_isSealed 3 = .ok (.iload_n 1, 1) := by decide +kernel
theorem dL_isSealed_4 : decode cL_isSealed 4 = .ok (.invokevirtual 68, 3) := by decide +kernel
theorem dL_isSealed_7 : decode cL_isSealed 7 = .ok (.ifCond .eq 7, 3) := by decide +kernel
theorem dL_isSealed_10 : decode cL_isSealed 10 = .ok (.lconst 1, 1) := by decide +kernel
theorem dL_isSealed_11 : decode cL_isSealed 11 = .ok (.goto 4, 3) := by decide +kernel
theorem dL_isSealed_14 : decode cL_isSealed 14 = .ok (.lconst 0, 1) := by decide +kernel
theorem dL_isSealed_15 : decode cL_isSealed 15 = .ok (.lastore, 1) := by decide +kernel
theorem dL_isSealed_16 : decode cL_isSealed 16 = .ok (.goto 6, 3) := by decide +kernel
theorem dL_isSealed_19 : decode cL_isSealed 19 = .ok (.astore_n 3, 1) := by decide +kernel
theorem dL_isSealed_20 : decode cL_isSealed 20 = .ok (.iconst 1, 1) := by decide +kernel
theorem dL_isSealed_21 : decode cL_isSealed 21 = .ok (.ireturn, 1) := by decide +kernel
theorem dL_isSealed_22 : decode cL_isSealed 22 = .ok (.iconst 0, 1) := by decide +kernel
theorem dL_isSealed_23 : decode cL_isSealed 23 = .ok (.ireturn, 1) := by decide +kernel
theorem dL_count_0 : decode cL_count 0 = .ok (.aload_n 3, 1) := by decide +kernel
theorem dL_count_1 : decode cL_count 1 = .ok (.iconst 0, 1) := by decide +kernel
theorem dL_count_2 : decode cL_count 2 = .ok (.aload_n 0, 1) := by decide +kernel
theorem dL_count_3 : decode cL_count 3 = .ok (.iload_n 1, 1) := by decide +kernel
theorem dL_count_4 : decode cL_count 4 = .ok (.iload_n 2, 1) := by decide +kernel
theorem dL_count_5 : decode cL_count 5 = .ok (.invokevirtual 72, 3) := by decide +kernel
theorem dL_count_8 : decode cL_count 8 = .ok (.i2l, 1) := by decide +kernel
theorem dL_count_9 : decode cL_count 9 = .ok (.lastore, 1) := by decide +kernel
theorem dL_count_10 : decode cL_count 10 = .ok (.goto 11, 3) := by decide +kernel
theorem dL_count_13 : decode cL_count 13 = .ok (.astore 4, 2) := by decide +kernel
theorem dL_count_15 : decode cL_count 15 = .ok (.iconst 1, 1) := by decide +kernel
theorem dL_count_16 : decode cL_count 16 = .ok (.ireturn, 1) := by decide +kernel
theorem dL_count_17 : decode cL_count 17 = .ok (.astore 4, 2) := by decide +kernel
theorem dL_count_19 : decode cL_count 19 = .ok (.iconst 2, 1) := by decide +kernel
theorem dL_count_20 : decode cL_count 20 = .ok (.ireturn, 1) := by decide +kernel
theorem dL_count_21 : decode cL_count 21 = .ok (.iconst 0, 1) := by decide +kernel
theorem dL_count_22 : decode cL_count 22 = .ok (.ireturn, 1) := by decide +kernel
end
section
/-! THE BASE: a world by tags. w says what is held under a tag, al where it lies; base is the heap's size when the law began: nothing below it changes. -/
abbrev Tg : Type := Nat × Nat × Nat
abbrev xE : Type := va_G × (Nat → ClassId) × (Nat → Nat)
abbrev xtys (E : xE) : List (ClassId × FieldType) := [(E.2.1 0, .int), (E.2.1 1, .long), (E.2.1 2, .boolean), (E.2.1 3, .object "Dataroom$Knowledge"), (E.2.1 4, .object "Dataroom$Right"), (E.2.1 5, .object "java/lang/Object")]
def xu (w : Tg → Option va_E) (t : Tg) (e : va_E) : Tg → Option va_E := fun t' => if t' = t then some e else w t'
def xa (al : Tg → Nat) (t : Tg) (q : Nat) : Tg → Nat := fun t' => if t' = t then q else al t'
theorem xu_self (w : Tg → Option va_E) (t : Tg) (e : va_E) : xu w t e t = some e := if_pos rfl
theorem xu_ne {w : Tg → Option va_E} {t t' : Tg} {e : va_E} (h : t' ≠ t) : xu w t e t' = w t' := if_neg h
theorem xu_of {w : Tg → Option va_E} {t t' : Tg} {e e' : va_E} (h : t' ≠ t) (k : w t' = some e') : xu w t e t' = some e' := (if_neg h).trans k
theorem xu_uu (w : Tg → Option va_E) (t : Tg) (e e' : va_E) : xu (xu w t e) t e' = xu w t e' := by
  funext z
  by_cases h : z = t
  · subst h; rw [xu_self, xu_self]
  · rw [xu_ne h, xu_ne h, xu_ne h]
theorem xu_same {w : Tg → Option va_E} {t : Tg} {e : va_E} (h : w t = some e) : xu w t e = w := by
  funext z
  by_cases k : z = t
  · subst k; rw [xu_self, h]
  · rw [xu_ne k]
theorem xa_self (al : Tg → Nat) (t : Tg) (q : Nat) : xa al t q t = q := if_pos rfl
theorem xa_ne {al : Tg → Nat} {t t' : Tg} {q : Nat} (h : t' ≠ t) : xa al t q t' = al t' := if_neg h
def xH (E : xE) (base : Nat) (al : Tg → Nat) (w : Tg → Option va_E) (H : Heap) : Prop :=
  (∀ t e, w t = some e → base ≤ al t ∧ va_at E.1 vwCl (al t, e) H) ∧ ∀ t t' e e', w t = some e → w t' = some e' → al t = al t' → t = t'
section XH
variable {E : xE} {base : Nat} {al : Tg → Nat} {w : Tg → Option va_E} {H H1 : Heap}
theorem xH.P (h : xH E base al w H) {t : Tg} {e : va_E} (ht : w t = some e) : va_P E.1 vwCl [(al t, e)] H := by
  intro k q hk
  have hz : k < 1 := (List.getElem?_eq_some_iff.mp hk).1
  rw [show k = 0 by omega] at hk
  cases hk
  exact (h.1 t e ht).2
theorem xH.lt (h : xH E base al w H) {t : Tg} {e : va_E} (ht : w t = some e) : al t < H.size := va_at.lt (h.1 t e ht).2
theorem xH.set (h : xH E base al w H) {t : Tg} {e e' : va_E} (ht : w t = some e) (hn : va_at E.1 vwCl (al t, e') H1) (ho : ∀ q : Nat, q ≠ al t → H1[q]? = H[q]?) : xH E base al (xu w t e') H1 := by
  refine ⟨fun z f hz => ?_, fun z z' f f' hz hz' he => ?_⟩
  · by_cases k : z = t
    · subst k
      rw [xu_self] at hz
      cases hz
      exact ⟨(h.1 z e ht).1, hn⟩
    · rw [xu_ne k] at hz
      exact ⟨(h.1 z f hz).1, (h.1 z f hz).2.kept (ho _ (fun q => k (h.2 z t f e hz ht q)))⟩
  · have key : ∀ y g, xu w t e' y = some g → ∃ g', w y = some g' := by
      intro y g hy
      by_cases k : y = t
      · subst k; exact ⟨e, ht⟩
      · rw [xu_ne k] at hy; exact ⟨g, hy⟩
    obtain ⟨g, hg⟩ := key z f hz
    obtain ⟨g', hg'⟩ := key z' f' hz'
    exact h.2 z z' g g' hg hg' he
theorem xH.new (h : xH E base al w H) (t : Tg) {e' : va_E} (hb : base ≤ H.size) (hn : va_at E.1 vwCl (H.size, e') H1) (ho : ∀ q : Nat, q < H.size → H1[q]? = H[q]?) : xH E base (xa al t H.size) (xu w t e') H1 := by
  refine ⟨fun z f hz => ?_, fun z z' f f' hz hz' he => ?_⟩
  · by_cases k : z = t
    · subst k
      rw [xu_self] at hz
      cases hz
      rw [xa_self]
      exact ⟨hb, hn⟩
    · rw [xu_ne k] at hz
      rw [xa_ne k]
      exact ⟨(h.1 z f hz).1, (h.1 z f hz).2.kept (ho _ (h.lt hz))⟩
  · by_cases k : z = t
    · by_cases k' : z' = t
      · rw [k, k']
      · rw [xu_ne k'] at hz'
        have l := h.lt hz'
        rw [k, xa_self, xa_ne k'] at he
        omega
    · by_cases k' : z' = t
      · rw [xu_ne k] at hz
        have l := h.lt hz
        rw [k', xa_self, xa_ne k] at he
        omega
      · rw [xu_ne k] at hz
        rw [xu_ne k'] at hz'
        rw [xa_ne k, xa_ne k'] at he
        exact h.2 z z' f f' hz hz' he
end XH
/-! what the tables say besides the words, and the statics: moved along with every state of the run -/
def nbw (w : Cond) : Bool := match w with
  | .castable _ _ => true
  | .methodLinkNest _ _ _ _ => true
  | .fieldLinkNest _ _ _ _ _ _ => true
  | .native _ => true
  | .declares _ => true
  | _ => false
theorem nbw_warm {w : Cond} (h : nbw w = true) {s U : State} (hW : s.WarmedH U.vm) (hZ : va_Nw w s) : va_Nw w U := by
  cases w with
  | castable a b => exact va_Nw.warmC hW hZ
  | methodLinkNest a i x k => exact va_Nw.warmM hW hZ
  | fieldLinkNest a i b n d k => exact va_Nw.warmF hW hZ
  | native x => exact va_tabs rfl (rfl : (s.setVm U.vm).vm = U.vm) (by rw [Cond.native_setVm hW.alike]; exact hZ)
  | declares x => exact va_Nw.warmD hW hZ
  | _ => cases h
theorem nbw_same {w : Cond} (h : nbw w = true) {s U : State} (hv : s.vm = U.vm) (hZ : va_Nw w s) : va_Nw w U := by
  cases w with
  | castable a b => exact va_Nw.same rfl hv hZ
  | methodLinkNest a i x k => exact va_Nw.same rfl hv hZ
  | fieldLinkNest a i b n d k => exact va_Nw.same rfl hv hZ
  | native x => exact va_Nw.same rfl hv hZ
  | declares x => exact va_Nw.same rfl hv hZ
  | _ => cases h
def NB : List Cond := tables_1.filter nbw
theorem nb1 {w : Cond} {i : Nat} (h : tables_1_1[i]? = some w) (g : nbw w = true) : w ∈ NB := List.mem_filter.mpr ⟨List.mem_append_left _ (List.mem_of_getElem? h), g⟩
theorem nb2 {w : Cond} {i : Nat} (h : tables_1_2[i]? = some w) (g : nbw w = true) : w ∈ NB := List.mem_filter.mpr ⟨List.mem_append_right _ (List.mem_append_left _ (List.mem_of_getElem? h)), g⟩
theorem nb3 {w : Cond} {i : Nat} (h : tables_1_3[i]? = some w) (g : nbw w = true) : w ∈ NB := List.mem_filter.mpr ⟨List.mem_append_right _ (List.mem_append_right _ (List.mem_append_left _ (List.mem_of_getElem? h))), g⟩
theorem nb4 {w : Cond} {i : Nat} (h : tables_1_4[i]? = some w) (g : nbw w = true) : w ∈ NB := List.mem_filter.mpr ⟨List.mem_append_right _ (List.mem_append_right _ (List.mem_append_right _ (List.mem_of_getElem? h))), g⟩
/-- the texts that the class throws, by their places in its file -/
abbrev xtx : List (Nat × String) := [(191, "out of range"), (46, "there are 16 files"), (187, "no such file"), (78, "there are 6 parties"), (185, "no such party"), (111, "now would be above 5000"), (116, "there are 150 answers"), (145, "no such answer")]
/-- pairs of classes that can't be cast -/
abbrev xnc : List (String × String) := [("java/lang/IllegalArgumentException", "java/lang/IndexOutOfBoundsException"), ("java/lang/IllegalStateException", "java/lang/IndexOutOfBoundsException"), ("java/lang/IllegalStateException", "java/lang/IllegalArgumentException"), ("java/lang/IndexOutOfBoundsException", "java/lang/IllegalArgumentException")]
def lkf : Nat → Int64 := fun k => match k with
  | 0 => 6148914691236517205
  | 1 => 3689348814741910323
  | 2 => 1085102592571150095
  | 3 => 71777214294589695
  | 4 => 281470681808895
  | _ => 4294967295
def xSt (E : xE) (base : Nat) (U : State) : Prop :=
  va_K E.1 vwCl (xtys E) U ∧ (∀ w ∈ NB, va_Nw w U) ∧ (∀ q ∈ xtx, vk_R "Dataroom" q.1 q.2 (E.2.2 q.1) U) ∧ (∀ q ∈ xnc, va_Nc q.1 q.2 U) ∧
  (va_AO "java/lang/Object" U ∧ va_AO "Dataroom$Right" U ∧ va_AO "Dataroom$Knowledge" U) ∧ va_Mi "[Ljava/lang/Object;" (E.2.2 2) U ∧
  vx_Zq Bundle.tN "UNASSIGNED_STACK" Bundle.steD (fun q => base ≤ q) U U.heap ∧ vx_Zq Bundle.tN "SUPPRESSED_SENTINEL" Bundle.listD (fun q => base ≤ q) U U.heap ∧
  va_Z "Dataroom$Marks" "LACKING" "[J" (.ref (E.2.2 0)) (fun q => base ≤ q) U U.heap ∧ va_Z "java/util/ArrayList" "DEFAULTCAPACITY_EMPTY_ELEMENTDATA" "[Ljava/lang/Object;" (.ref (E.2.2 1)) (fun q => base ≤ q) U U.heap ∧
  va_at E.1 vwCl (E.2.2 0, .inl (E.2.1 1, 6, .inr (.inl lkf))) U.heap ∧ va_at E.1 vwCl (E.2.2 1, .inl (E.2.1 5, 0, .inr (.inr (.inr (.inr (fun _ => none)))))) U.heap ∧
  E.2.2 0 < base ∧ E.2.2 1 < base ∧ base ≤ U.heap.size
theorem xSt.K {E : xE} {base : Nat} {U : State} (h : xSt E base U) : va_K E.1 vwCl (xtys E) U := h.1
theorem xSt.nb {E : xE} {base : Nat} {U : State} (h : xSt E base U) {w : Cond} (k : w ∈ NB) : va_Nw w U := h.2.1 w k
theorem xSt.move {E : xE} {base : Nat} {s U : State} (h : xSt E base s) (hW : s.WarmedH U.vm) (hk : ∀ q : Nat, q < base → U.heap[q]? = s.heap[q]?) (hb : base ≤ U.heap.size) : xSt E base U := by
  obtain ⟨h1, h2, h3, h4, ⟨h5, h6, h7⟩, h8, h9, h10, h11, h12, h13, h14, h15, h16, h17⟩ := h
  have kk : ∀ a : Nat, a < s.heap.size → ¬ base ≤ a → U.heap[a]? = s.heap[a]? := fun a _ q => hk a (Nat.not_le.mp q)
  exact ⟨h1.moved hW.alike, fun w hw => nbw_warm (List.mem_filter.mp hw).2 hW (h2 w hw), fun q hq => (h3 q hq).warm hW, fun q hq => (h4 q hq).moved hW.alike, ⟨h5.moved hW.alike, h6.moved hW.alike, h7.moved hW.alike⟩, h8.moved hW.alike, (h9.moved hW.alike).kept kk, (h10.moved hW.alike).kept kk, (h11.moved hW.alike).kept kk, (h12.moved hW.alike).kept kk, h13.kept (hk _ h15), h14.kept (hk _ h16), h15, h16, hb⟩
theorem xSt.same {E : xE} {base : Nat} {s U : State} (h : xSt E base s) (hv : s.vm = U.vm) (hh : U.heap = s.heap) : xSt E base U := by
  obtain ⟨h1, h2, h3, h4, ⟨h5, h6, h7⟩, h8, h9, h10, h11, h12, h13, h14, h15, h16, h17⟩ := h
  have al : s.vm.Alike U.vm := by rw [hv]; exact Vm.Alike.refl _
  have kk : ∀ a : Nat, a < s.heap.size → ¬ base ≤ a → U.heap[a]? = s.heap[a]? := fun a _ _ => by rw [hh]
  exact ⟨h1.moved al, fun w hw => nbw_same (List.mem_filter.mp hw).2 hv (h2 w hw), fun q hq => (h3 q hq).same hv.symm, fun q hq => (h4 q hq).moved al, ⟨h5.moved al, h6.moved al, h7.moved al⟩, h8.moved al, (h9.moved al).kept kk, (h10.moved al).kept kk, (h11.moved al).kept kk, (h12.moved al).kept kk, h13.kept (by rw [hh]), h14.kept (by rw [hh]), h15, h16, by rw [hh]; exact h17⟩
/-! contracts -/
abbrev xA (base : Nat) : Nat → Prop := fun q => base ≤ q
def xQ (base : Nat) (post : Option Value → Heap → Prop) : Array Value → State → Outcome → State → Prop := fun _ st oc t => (∃ r, oc = .returned r ∧ post r t.heap) ∧ va_F (xA base) st t
def xX (base : Nat) (px : String → Heap → Prop) : String → State → State → Prop := fun E st t => px E t.heap ∧ va_F (xA base) st t
abbrev xPc (E : xE) (base : Nat) (As : List Value) (P : Heap → Prop) : Array Value → State → Prop := va_Pc As (fun U => xSt E base U ∧ P U.heap)
abbrev xMet (l : Launch) (y : MethodName) (cc : ByteArray) (n : Nat) (ret : Option FieldType) (rm : Room) (E : xE) (base : Nat) (As : List Value) (P : Heap → Prop) (post : Option Value → Heap → Prop) : Prop :=
  Met l y (.code y cc n ret :: WS) rm (xPc E base As P) (xQ base post) rm.cells rm.slots (xA base)
abbrev xMetX (l : Launch) (y : MethodName) (cc : ByteArray) (n : Nat) (ret : Option FieldType) (rm : Room) (E : xE) (base : Nat) (As : List Value) (P : Heap → Prop) (post : Option Value → Heap → Prop) (px : String → Heap → Prop) : Prop :=
  vx_Met l y (.code y cc n ret :: WS) rm (xPc E base As P) (xQ base post) (xX base px) rm.cells rm.slots (xA base)
/-- what holds inside a method, from its start -/
def XC (p : Program) (s : State) (m : MethodId) (args : Array Value) (meth : Method) (c : Code) (own : String) (cc : ByteArray) (nL : Nat) (ret : Option FieldType) (E : xE) (base : Nat) : Prop :=
  p.tables.exec = Jvm.exec ∧ c.code = cc ∧ c.maxLocals = nL ∧ s.vm.findClass own = some m.cls ∧ (∀ w ∈ WS, w.before args s = true) ∧ meth.locks = false ∧ meth.sig.returnType = ret ∧ xSt E base s
theorem xPc_blind (E : xE) (base : Nat) (As : List Value) (P : Heap → Prop) : FrameBlind (xPc E base As P) := fun a U g mk h => ⟨h.1, h.2.1.same rfl rfl, h.2.2⟩
theorem ws_self (y : MethodName) (cc : ByteArray) (n : Nat) (ret : Option FieldType) (hc : Cond.code y cc n ret ∈ WS) : GoodIn WS (.code y cc n ret :: WS) := by
  intro w hw
  have hm : w ∈ WS := by
    rcases List.mem_cons.mp hw with e | h
    · rw [e]; exact hc
    · exact h
  exact ⟨hm, good_of_word (List.mem_filter.mp hm).2⟩
/-- what is known of a method by name -/
def xY (y : MethodName) (cc : ByteArray) (n : Nat) (ret : Option FieldType) (k : Nat) : Prop :=
  Cond.code y cc n ret ∈ WS ∧ Cond.initialized y.cls ∈ WS ∧ (y.cls ≠ "java/lang/invoke/MethodHandle" ∧ y.cls ≠ "java/lang/invoke/VarHandle" ∧ (parseMethodDescriptor y.desc).map (fun d => d.parameters.length) = some k)
section XR
variable {p : Program} {l : Launch} {e : Env} {R : Room} {s : State} {m : MethodId} {args : Array Value} {below : List Frame} {meth : Method} {c : Code} {H : Heap} {locs : List Loc} {cells slots : Nat} {Q : State → Prop}
variable {cc : ByteArray} {pc nL : Nat} {ls : Array Slot} {rest : List Value} {own : String} {ret : Option FieldType} {E : xE} {base : Nat} {al : Tg → Nat} {w : Tg → Option va_E}
theorem XC.hx (C : XC p s m args meth c own cc nL ret E base) : p.tables.exec = Jvm.exec := C.1
theorem XC.hb (C : XC p s m args meth c own cc nL ret E base) : c.code = cc := C.2.1
theorem XC.hown (C : XC p s m args meth c own cc nL ret E base) : s.vm.findClass own = some m.cls := C.2.2.2.1
theorem XC.ws (C : XC p s m args meth c own cc nL ret E base) : ∀ w ∈ WS, w.before args s = true := C.2.2.2.2.1
theorem XC.locks (C : XC p s m args meth c own cc nL ret E base) : meth.locks = false := C.2.2.2.2.2.1
theorem XC.rt (C : XC p s m args meth c own cc nL ret E base) : meth.sig.returnType = ret := C.2.2.2.2.2.2.1
theorem XC.st (C : XC p s m args meth c own cc nL ret E base) : xSt E base s := C.2.2.2.2.2.2.2
theorem XC.fix (C : XC p s m args meth c own cc nL ret E base) : CallFix p m c cc nL s args WS own := ⟨C.1, C.2.1, C.2.2.1, C.2.2.2.1, C.2.2.2.2.1⟩
theorem XC.A (C : XC p s m args meth c own cc nL ret E base) (hS : va_S (xA base) s.heap H locs) : base ≤ H.size := Nat.le_trans C.st.2.2.2.2.2.2.2.2.2.2.2.2.2.2 hS.1
theorem XC.at (C : XC p s m args meth c own cc nL ret E base) (hS : va_S (xA base) s.heap H locs) {U : State} (hU : U.heap = H) (hW : s.WarmedH U.vm) : xSt E base U :=
  C.st.move hW (fun q hq => by rw [hU]; exact hS.2.1 q (Nat.lt_of_lt_of_le hq C.st.2.2.2.2.2.2.2.2.2.2.2.2.2.2) (Nat.not_le.mpr hq)) (by rw [hU]; exact C.A hS)
theorem x_get (C : XC p s m args meth c own cc nL ret E base) (hH : xH E base al w H) {C' ref : String} {T : u_T} {N ci index : Nat} {t : Tg} {fs : List Value} (ht : w t = some (.inr (ci, fs))) (hc : vwCl[ci]? = some (C', T, N)) (hin : ∀ w ∈ u_ws C' T N, w ∈ WS) (k : Nat) (hk : k < N) (hlink : Cond.fieldLink own index ref (T k).2.1 (T k).2.2.1 ∈ WS) (hsame : (T k).1 = ref) {v : Value} (hv : fs[k]? = some v) (hdg : decode cc pc = .ok (.getfield index, 3))
    (kk : W p l e R s m args below meth c H locs cells slots Q (F0 m (pc + 3) ls (v :: rest))) : W p l e R s m args below meth c H locs cells slots Q (F0 m pc ls (.ref (al t) :: rest)) :=
  va_get C.hx C.hb C.ws hin C.hown C.st.K (hH.P ht) 0 rfl hc k hk (C.ws _ hlink) (fun x h => by subst hsame; exact h) hv hdg kk
theorem x_getN (C : XC p s m args meth c own cc nL ret E base) (hH : xH E base al w H) {C' ref host : String} {T : u_T} {N ci index : Nat} {t : Tg} {fs : List Value} (ht : w t = some (.inr (ci, fs))) (hc : vwCl[ci]? = some (C', T, N)) (hin : ∀ w ∈ u_ws C' T N, w ∈ WS) (k : Nat) (hk : k < N) (hlink : Cond.fieldLinkNest own index ref (T k).2.1 (T k).2.2.1 host ∈ NB) (hsame : (T k).1 = ref) {v : Value} (hv : fs[k]? = some v) (hdg : decode cc pc = .ok (.getfield index, 3))
    (kk : W p l e R s m args below meth c H locs cells slots Q (F0 m (pc + 3) ls (v :: rest))) : W p l e R s m args below meth c H locs cells slots Q (F0 m pc ls (.ref (al t) :: rest)) :=
  va_getN C.hx C.hb C.ws hin C.hown C.st.K (hH.P ht) 0 rfl hc k hk ((C.st.nb hlink).use rfl) (fun x h => by subst hsame; exact h) hv hdg kk
theorem x_put (C : XC p s m args meth c own cc nL ret E base) (hH : xH E base al w H) (hS0 : va_S (xA base) s.heap H locs) {C' ref : String} {T : u_T} {N ci index : Nat} {t : Tg} {fs : List Value} (ht : w t = some (.inr (ci, fs))) (hc : vwCl[ci]? = some (C', T, N)) (hin : ∀ w ∈ u_ws C' T N, w ∈ WS) (ty0 : Nat → FieldType) (hty : ∀ k, k < N → parseFieldDescriptor (T k).2.2.1 = some (ty0 k)) (hnm : ∀ a, a < N → ∀ b, b < N → a ≠ b → (T a).2.1 ≠ (T b).2.1) (k : Nat) (hk : k < N) (hlink : Cond.fieldLink own index ref (T k).2.1 (T k).2.2.1 ∈ WS) (hsame : (T k).1 = ref) (hfin : (T k).2.2.2 = false) {v : Value} (hn : narrow (ty0 k) v = v) (hfit : fits (ty0 k) v = true) (hl : k < fs.length) {fs' : List Value} (hfs : fs.set k v = fs')
    (hdg : decode cc pc = .ok (.putfield index, 3)) (kk : ∀ (H1 : Heap) (locs1 : List Loc), xH E base al (xu w t (.inr (ci, fs'))) H1 → va_S (xA base) s.heap H1 locs1 → W p l e R s m args below meth c H1 locs1 cells slots Q (F0 m (pc + 3) ls rest)) : W p l e R s m args below meth c H locs cells slots Q (F0 m pc ls (v :: .ref (al t) :: rest)) := by
  have hd := hty k hk
  subst hsame hfs
  have hap := va_apart (own := own) C.ws hin ty0 hty hnm C.st.K hc
  obtain ⟨r, h1, cell, q1, q2, q3, q4⟩ := (hH.1 t _ ht).2
  have hr : r = (C', T, N) := Option.some.inj (h1.symm.trans hc)
  subst hr
  obtain ⟨hS, hfc, kC, hkC, hkind⟩ := C.st.K.1 ci _ hc
  obtain ⟨cf, kf, fi, f, hi, hsl⟩ := hS k hk
  have hlay := C.ws _ (hin _ (u_in_lay hk))
  unfold u_lay at hlay
  rw [if_neg (by rw [hfin]; decide)] at hlay
  have hst := (u_facts hfc hkC (u_lays C.ws hin hk) hi).1
  have h6 := u_store hfc hkC hkind hlay hi hd hn hfit
  refine W.putK C.hx C.hb (f := f) ⟨C.hown, C.ws _ hlink, ⟨_, _, _, hi⟩, hst⟩ (by rw [q2]; exact h6) q1 q3 (by rw [hsl]; exact k2_hasslot (q4 k hk)) rfl rfl hdg fun H' e1 e2 e3 => ?_
  rw [hsl] at e1 ⊢
  exact kk H' _ (hH.set ht ⟨_, hc, t_OB.to (V := updV (vp_V fs) k v) ⟨_, e1, q2, q3, t_set q4 hap hk v⟩ (fun j _ => vp_updV_set hl v j)⟩ e3) (hS0.put e2 e3 (hH.1 t _ ht).1)
theorem x_putN (C : XC p s m args meth c own cc nL ret E base) (hH : xH E base al w H) (hS0 : va_S (xA base) s.heap H locs) {C' ref host : String} {T : u_T} {N ci index : Nat} {t : Tg} {fs : List Value} (ht : w t = some (.inr (ci, fs))) (hc : vwCl[ci]? = some (C', T, N)) (hin : ∀ w ∈ u_ws C' T N, w ∈ WS) (ty0 : Nat → FieldType) (hty : ∀ k, k < N → parseFieldDescriptor (T k).2.2.1 = some (ty0 k)) (hnm : ∀ a, a < N → ∀ b, b < N → a ≠ b → (T a).2.1 ≠ (T b).2.1) (k : Nat) (hk : k < N) (hlink : Cond.fieldLinkNest own index ref (T k).2.1 (T k).2.2.1 host ∈ NB) (hsame : (T k).1 = ref) (hfin : (T k).2.2.2 = false) {v : Value} (hn : narrow (ty0 k) v = v) (hfit : fits (ty0 k) v = true) (hl : k < fs.length) {fs' : List Value} (hfs : fs.set k v = fs')
    (hdg : decode cc pc = .ok (.putfield index, 3)) (kk : ∀ (H1 : Heap) (locs1 : List Loc), xH E base al (xu w t (.inr (ci, fs'))) H1 → va_S (xA base) s.heap H1 locs1 → W p l e R s m args below meth c H1 locs1 cells slots Q (F0 m (pc + 3) ls rest)) : W p l e R s m args below meth c H locs cells slots Q (F0 m pc ls (v :: .ref (al t) :: rest)) := by
  have hd := hty k hk
  subst hsame hfs
  have hap := va_apart (own := own) C.ws hin ty0 hty hnm C.st.K hc
  obtain ⟨r, h1, cell, q1, q2, q3, q4⟩ := (hH.1 t _ ht).2
  have hr : r = (C', T, N) := Option.some.inj (h1.symm.trans hc)
  subst hr
  obtain ⟨hS, hfc, kC, hkC, hkind⟩ := C.st.K.1 ci _ hc
  obtain ⟨cf, kf, fi, f, hi, hsl⟩ := hS k hk
  have hlay := C.ws _ (hin _ (u_in_lay hk))
  unfold u_lay at hlay
  rw [if_neg (by rw [hfin]; decide)] at hlay
  have hst := (u_facts hfc hkC (u_lays C.ws hin hk) hi).1
  have h6 := u_store hfc hkC hkind hlay hi hd hn hfit
  refine va_WputK C.hx C.hb (f := f) C.hown ((C.st.nb hlink).use rfl) hi hst (by rw [q2]; exact h6) q1 q3 (by rw [hsl]; exact k2_hasslot (q4 k hk)) rfl rfl hdg fun H' e1 e2 e3 => ?_
  rw [hsl] at e1 ⊢
  exact kk H' _ (hH.set ht ⟨_, hc, t_OB.to (V := updV (vp_V fs) k v) ⟨_, e1, q2, q3, t_set q4 hap hk v⟩ (fun j _ => vp_updV_set hl v j)⟩ e3) (hS0.put e2 e3 (hH.1 t _ ht).1)
theorem x_putF (C : XC p s m args meth c own cc nL ret E base) (hH : xH E base al w H) (hS0 : va_S (xA base) s.heap H locs) {C' ref : String} {T : u_T} {N ci index : Nat} {t : Tg} {fs : List Value} (ht : w t = some (.inr (ci, fs))) (hc : vwCl[ci]? = some (C', T, N)) (hin : ∀ w ∈ u_ws C' T N, w ∈ WS) (ty0 : Nat → FieldType) (hty : ∀ k, k < N → parseFieldDescriptor (T k).2.2.1 = some (ty0 k)) (hnm : ∀ a, a < N → ∀ b, b < N → a ≠ b → (T a).2.1 ≠ (T b).2.1) (k : Nat) (hk : k < N) (hlink : Cond.fieldLink own index ref (T k).2.1 (T k).2.2.1 ∈ WS) (hsame : (T k).1 = ref) (hfin : (T k).2.2.2 = true) (hin2 : meth.name = "<init>") (hdecl : (T k).1 = own) {v : Value} (hn : narrow (ty0 k) v = v) (hfit : fits (ty0 k) v = true) (hl : k < fs.length) {fs' : List Value} (hfs : fs.set k v = fs')
    (hdg : decode cc pc = .ok (.putfield index, 3)) (kk : ∀ (H1 : Heap) (locs1 : List Loc), xH E base al (xu w t (.inr (ci, fs'))) H1 → va_S (xA base) s.heap H1 locs1 → W p l e R s m args below meth c H1 locs1 cells slots Q (F0 m (pc + 3) ls rest)) : W p l e R s m args below meth c H locs cells slots Q (F0 m pc ls (v :: .ref (al t) :: rest)) := by
  have hd := hty k hk
  subst hsame hfs
  have hown := C.hown
  have hap := va_apart (own := own) C.ws hin ty0 hty hnm C.st.K hc
  obtain ⟨r, h1, cell, q1, q2, q3, q4⟩ := (hH.1 t _ ht).2
  have hr : r = (C', T, N) := Option.some.inj (h1.symm.trans hc)
  subst hr
  obtain ⟨hS, hfc, kC, hkC, hkind⟩ := C.st.K.1 ci _ hc
  obtain ⟨cf, kf, fi, f, hi, hsl⟩ := hS k hk
  have hlay := C.ws _ (hin _ (u_in_lay hk))
  unfold u_lay at hlay
  rw [if_pos hfin] at hlay
  have hst := (u_facts hfc hkC (u_lays C.ws hin hk) hi).1
  have hcf : m.cls = cf := by
    obtain ⟨_, _, c', _, _, _, -, -, hf', -, -, -, hown2, -⟩ := Cond.laysFinal_spec hlay
    have e1 : c' = cf := by have := hi.symm.trans hf'; simp at this; exact this.1.symm
    rw [hdecl] at hown2
    rw [← e1]; exact Option.some.inj (hown.symm.trans hown2)
  have h6 := u_fits hfc hkC hkind (Or.inr hlay) hi hd hn hfit
  refine W.putFinK C.hx C.hb hown (C.ws _ hlink) hi hst hcf hin2 (by rw [q2]; exact h6) q1 q3 (by rw [hsl]; exact k2_hasslot (q4 k hk)) rfl rfl hdg fun H' e1 e2 e3 => ?_
  rw [hsl] at e1 ⊢
  exact kk H' _ (hH.set ht ⟨_, hc, t_OB.to (V := updV (vp_V fs) k v) ⟨_, e1, q2, q3, t_set q4 hap hk v⟩ (fun j _ => vp_updV_set hl v j)⟩ e3) (hS0.put e2 e3 (hH.1 t _ ht).1)
theorem x_iald (C : XC p s m args meth c own cc nL ret E base) (hH : xH E base al w H) {t : Tg} {n : Nat} {f : Nat → Int32} (ht : w t = some (.inl (E.2.1 0, n, .inl f))) {i : Int32} {j : Nat} (hi : i = nI j) (hj : j < n) (hn : n < 2 ^ 31) (hdg : decode cc pc = .ok (.iaload, 1))
    (kk : W p l e R s m args below meth c H locs cells slots Q (F0 m (pc + 1) ls (.int (f j) :: rest))) : W p l e R s m args below meth c H locs cells slots Q (F0 m pc ls (.int i :: .ref (al t) :: rest)) := by
  subst hi
  exact va_iald C.hx C.hb C.st.K (hH.P ht) 0 0 rfl rfl (vp_in_nI hj hn) hdg (by rw [nI_clamp (by omega)]; exact kk)
theorem x_zald (C : XC p s m args meth c own cc nL ret E base) (hH : xH E base al w H) {t : Tg} {n : Nat} {f : Nat → Int32} (ht : w t = some (.inl (E.2.1 2, n, .inl f))) {i : Int32} {j : Nat} (hi : i = nI j) (hj : j < n) (hn : n < 2 ^ 31) (hdg : decode cc pc = .ok (.baload, 1))
    (kk : W p l e R s m args below meth c H locs cells slots Q (F0 m (pc + 1) ls (.int (f j) :: rest))) : W p l e R s m args below meth c H locs cells slots Q (F0 m pc ls (.int i :: .ref (al t) :: rest)) := by
  subst hi
  exact va_zald C.hx C.hb C.st.K (hH.P ht) 0 2 rfl rfl (vp_in_nI hj hn) hdg (by rw [nI_clamp (by omega)]; exact kk)
theorem x_lald (C : XC p s m args meth c own cc nL ret E base) (hH : xH E base al w H) {t : Tg} {n : Nat} {f : Nat → Int64} (ht : w t = some (.inl (E.2.1 1, n, .inr (.inl f)))) {i : Int32} {j : Nat} (hi : i = nI j) (hj : j < n) (hn : n < 2 ^ 31) (hdg : decode cc pc = .ok (.laload, 1))
    (kk : W p l e R s m args below meth c H locs cells slots Q (F0 m (pc + 1) ls (.long (f j) :: rest))) : W p l e R s m args below meth c H locs cells slots Q (F0 m pc ls (.int i :: .ref (al t) :: rest)) := by
  subst hi
  exact va_lald C.hx C.hb C.st.K (hH.P ht) 0 1 rfl rfl (vp_in_nI hj hn) hdg (by rw [nI_clamp (by omega)]; exact kk)
theorem x_iast (C : XC p s m args meth c own cc nL ret E base) (hH : xH E base al w H) (hS : va_S (xA base) s.heap H locs) {t : Tg} {n : Nat} {f : Nat → Int32} (ht : w t = some (.inl (E.2.1 0, n, .inl f))) {i x : Int32} {j : Nat} (hi : i = nI j) (hj : j < n) (hn : n < 2 ^ 31) (hdg : decode cc pc = .ok (.iastore, 1))
    (kk : ∀ (H1 : Heap) (locs1 : List Loc), xH E base al (xu w t (.inl (E.2.1 0, n, .inl (upd f j x)))) H1 → va_S (xA base) s.heap H1 locs1 → W p l e R s m args below meth c H1 locs1 cells slots Q (F0 m (pc + 1) ls rest)) : W p l e R s m args below meth c H locs cells slots Q (F0 m pc ls (.int x :: .int i :: .ref (al t) :: rest)) := by
  subst hi
  have hin := vp_in_nI hj hn
  refine W.iast C.hx C.hb (hH.1 t _ ht).2 ((C.st.K.2 0 _ rfl).1 n (fun j => .int (f j))) (fun q => by cases q) (by show ¬ (nI j < 0 ∨ (arrV _ _ _).slots.size ≤ _); rw [arrV_size]; exact hin) rfl rfl hdg fun H1 e z oq => ?_
  refine kk H1 _ (hH.set ht ?_ oq) (hS.put z oq (hH.1 t _ ht).1)
  show H1[al t]? = some (vp_cell _ _)
  rw [e, nI_clamp (by omega)]
  rw [vp_cell_i, vp_cell_i, arrV_store]
  congr 2
  funext q
  by_cases hq : q = j
  · subst hq
    simp [updV, upd]
  · simp [updV, upd, hq]
theorem x_zast (C : XC p s m args meth c own cc nL ret E base) (hH : xH E base al w H) (hS : va_S (xA base) s.heap H locs) {t : Tg} {n : Nat} {f : Nat → Int32} (ht : w t = some (.inl (E.2.1 2, n, .inl f))) {i x : Int32} {j : Nat} (hi : i = nI j) (hj : j < n) (hn : n < 2 ^ 31) (hx01 : x = 0 ∨ x = 1) (hdg : decode cc pc = .ok (.bastore, 1))
    (kk : ∀ (H1 : Heap) (locs1 : List Loc), xH E base al (xu w t (.inl (E.2.1 2, n, .inl (upd f j x)))) H1 → va_S (xA base) s.heap H1 locs1 → W p l e R s m args below meth c H1 locs1 cells slots Q (F0 m (pc + 1) ls rest)) : W p l e R s m args below meth c H locs cells slots Q (F0 m pc ls (.int x :: .int i :: .ref (al t) :: rest)) := by
  subst hi
  have hin := vp_in_nI hj hn
  have hx : vp_nar .boolean x = x := by rcases hx01 with h | h <;> subst h <;> decide
  refine W.zast C.hx C.hb (hH.1 t _ ht).2 ((C.st.K.2 2 _ rfl).1 n (fun j => .int (f j))) (fun q => by cases q) (by show ¬ (nI j < 0 ∨ (arrV _ _ _).slots.size ≤ _); rw [arrV_size]; exact hin) rfl rfl hdg fun H1 e z oq => ?_
  refine kk H1 _ (hH.set ht ?_ oq) (hS.put z oq (hH.1 t _ ht).1)
  show H1[al t]? = some (vp_cell _ _)
  rw [← hx, e, nI_clamp (by omega)]
  rw [vp_cell_i, vp_cell_i, arrV_store]
  congr 2
  funext q
  by_cases hq : q = j
  · subst hq
    simp [updV, upd, vp_nar]
    try rfl
  · simp [updV, upd, hq]
theorem x_last (C : XC p s m args meth c own cc nL ret E base) (hH : xH E base al w H) (hS : va_S (xA base) s.heap H locs) {t : Tg} {n : Nat} {f : Nat → Int64} (ht : w t = some (.inl (E.2.1 1, n, .inr (.inl f)))) {i : Int32} {x : Int64} {j : Nat} (hi : i = nI j) (hj : j < n) (hn : n < 2 ^ 31) (hdg : decode cc pc = .ok (.lastore, 1))
    (kk : ∀ (H1 : Heap) (locs1 : List Loc), xH E base al (xu w t (.inl (E.2.1 1, n, .inr (.inl (vp_updL f j x))))) H1 → va_S (xA base) s.heap H1 locs1 → W p l e R s m args below meth c H1 locs1 cells slots Q (F0 m (pc + 1) ls rest)) : W p l e R s m args below meth c H locs cells slots Q (F0 m pc ls (.long x :: .int i :: .ref (al t) :: rest)) := by
  subst hi
  have hin := vp_in_nI hj hn
  refine W.last C.hx C.hb (hH.1 t _ ht).2 ((C.st.K.2 1 _ rfl).1 n (fun j => .long (f j))) (fun q => by cases q) (by show ¬ (nI j < 0 ∨ (arrV _ _ _).slots.size ≤ _); rw [arrV_size]; exact hin) rfl rfl hdg fun H1 e z oq => ?_
  refine kk H1 _ (hH.set ht ?_ oq) (hS.put z oq (hH.1 t _ ht).1)
  show H1[al t]? = some (vp_cell _ _)
  rw [e, nI_clamp (by omega)]
  rw [vp_cell_l, vp_cell_l, arrV_store]
  congr 2
  funext q
  by_cases hq : q = j
  · subst hq
    simp [updV, vp_updL]
  · simp [updV, vp_updL, hq]
theorem x_aldq (C : XC p s m args meth c own cc nL ret E base) (hH : xH E base al w H) (k0 : Nat) {Cn : String} {t : Tg} {n : Nat} {f : Nat → Option Nat} (hk : (xtys E)[k0]? = some (E.2.1 k0, .object Cn)) (ht : w t = some (.inl (E.2.1 k0, n, .inr (.inr (.inr (.inr f)))))) {i : Int32} {j : Nat} (hi : i = nI j) (hj : j < n) (hn : n < 2 ^ 31) {v : Value} (hv : va_rf (f j) = v) (hdg : decode cc pc = .ok (.aaload, 1))
    (kk : W p l e R s m args below meth c H locs cells slots Q (F0 m (pc + 1) ls (v :: rest))) : W p l e R s m args below meth c H locs cells slots Q (F0 m pc ls (.int i :: .ref (al t) :: rest)) := by
  subst hi hv
  exact va_aldq C.hx C.hb C.st.K (hH.P ht) 0 k0 rfl hk (vp_in_nI hj hn) hdg (by rw [nI_clamp (by omega)]; exact kk)
theorem x_astq (C : XC p s m args meth c own cc nL ret E base) (hH : xH E base al w H) (hS : va_S (xA base) s.heap H locs) (k0 : Nat) {r : vw_C} {ci : Nat} {vs : List Value} {t tv : Tg} {n : Nat} {f : Nat → Option Nat} (hk : (xtys E)[k0]? = some (E.2.1 k0, .object r.1)) (ht : w t = some (.inl (E.2.1 k0, n, .inr (.inr (.inr (.inr f)))))) (hv : w tv = some (.inr (ci, vs))) (hc : vwCl[ci]? = some r) {i : Int32} {j : Nat} (hi : i = nI j) (hj : j < n) (hn : n < 2 ^ 31) (hdg : decode cc pc = .ok (.aastore, 1))
    (kk : ∀ (H1 : Heap) (locs1 : List Loc), xH E base al (xu w t (.inl (E.2.1 k0, n, .inr (.inr (.inr (.inr (va_up f j (some (al tv))))))))) H1 → va_S (xA base) s.heap H1 locs1 → W p l e R s m args below meth c H1 locs1 cells slots Q (F0 m (pc + 1) ls rest)) : W p l e R s m args below meth c H locs cells slots Q (F0 m pc ls (.ref (al tv) :: .int i :: .ref (al t) :: rest)) := by
  subst hi
  have hin := vp_in_nI hj hn
  have h0 : ¬ nI j < 0 := fun q => hin (Or.inl q)
  obtain ⟨r', hr', cellV, g1, g2, g3, -⟩ := (hH.1 tv _ hv).2
  have hcls := (C.st.K.1 ci r hc).2
  obtain ⟨kA, comp, k1, k2, k3, -⟩ := (C.st.K.2 k0 _ hk).2
  have hcomp : comp = E.1.1 ci := Option.some.inj (k3.symm.trans hcls.1)
  subst hcomp
  obtain ⟨kC, hkC, -⟩ := hcls.2
  refine W.aast C.hx C.hb (hH.1 t _ ht).2 (fun q h => by cases h) (fun h => by cases h) k1 k2 rfl hkC ⟨h0, by show _ < (arrV _ _ _).slots.size; rw [arrV_size, nI_clamp (by omega)]; exact hj⟩ g1 (fun q h => by rw [g3] at h; cases h) (by rw [g2]; exact hkC) (by rw [g2]; exact va_assign hcls) rfl rfl hdg fun H1 e z oq => ?_
  refine kk H1 _ (hH.set ht ?_ oq) (hS.put z oq (hH.1 t _ ht).1)
  show H1[al t]? = some (vp_cell _ _)
  rw [e, nI_clamp (by omega)]
  rw [vp_cell_q, vp_cell_q, arrV_store]
  congr 2
  funext q
  by_cases hq : q = j
  · subst hq
    simp [updV, va_up, va_rf]
  · simp [updV, va_up, hq]
theorem x_astqN (C : XC p s m args meth c own cc nL ret E base) (hH : xH E base al w H) (hS : va_S (xA base) s.heap H locs) (k0 : Nat) {Cn : String} {t : Tg} {n : Nat} {f : Nat → Option Nat} (hk : (xtys E)[k0]? = some (E.2.1 k0, .object Cn)) (ht : w t = some (.inl (E.2.1 k0, n, .inr (.inr (.inr (.inr f)))))) {i : Int32} {j : Nat} (hi : i = nI j) (hj : j < n) (hn : n < 2 ^ 31) (hdg : decode cc pc = .ok (.aastore, 1))
    (kk : ∀ (H1 : Heap) (locs1 : List Loc), xH E base al (xu w t (.inl (E.2.1 k0, n, .inr (.inr (.inr (.inr (va_up f j none))))))) H1 → va_S (xA base) s.heap H1 locs1 → W p l e R s m args below meth c H1 locs1 cells slots Q (F0 m (pc + 1) ls rest)) : W p l e R s m args below meth c H locs cells slots Q (F0 m pc ls (.null :: .int i :: .ref (al t) :: rest)) := by
  subst hi
  have hin := vp_in_nI hj hn
  have hAr := (C.st.K.2 k0 _ hk).1
  refine va_WaastN (C := Cn) C.hx C.hb (hH.1 t _ ht).2 (hAr n (fun j => va_rf (f j))) (fun h => by cases h) (by show ¬ (nI j < 0 ∨ (arrV _ _ _).slots.size ≤ _); rw [arrV_size]; exact hin) rfl rfl hdg fun H1 e z oq => ?_
  refine kk H1 _ (hH.set ht ?_ oq) (hS.put z oq (hH.1 t _ ht).1)
  show H1[al t]? = some (vp_cell _ _)
  rw [e, nI_clamp (by omega)]
  rw [vp_cell_q, vp_cell_q, arrV_store]
  congr 2
  funext q
  by_cases hq : q = j
  · subst hq
    simp [updV, va_up, va_rf]
  · simp [updV, va_up, hq]
theorem x_alen (C : XC p s m args meth c own cc nL ret E base) (hH : xH E base al w H) (k0 : Nat) {ty : FieldType} (hk : (xtys E)[k0]? = some (E.2.1 k0, ty)) {t : Tg} {x : vp_A} (ht : w t = some (.inl (E.2.1 k0, x))) {v : Int32} (hv : nI x.1 = v) (hdg : decode cc pc = .ok (.arraylength, 1))
    (kk : W p l e R s m args below meth c H locs cells slots Q (F0 m (pc + 1) ls (.int v :: rest))) : W p l e R s m args below meth c H locs cells slots Q (F0 m pc ls (.ref (al t) :: rest)) :=
  va_alen C.hx C.hb C.st.K (hH.P ht) 0 k0 rfl hk hv hdg kk
end XR
end
section
theorem nw_61 : Cond.methodLinkNest "Dataroom" 24 ⟨"Dataroom$Knowledge", "<init>", "()V"⟩ "Dataroom" ∈ NB := nb1 (i := 61) rfl rfl
theorem nw_67 : Cond.fieldLinkNest "Dataroom$Party" 54 "Dataroom$Knowledge" "learned" "I" "Dataroom" ∈ NB := nb1 (i := 67) rfl rfl
theorem nw_76 : Cond.methodLinkNest "Dataroom" 31 ⟨"Dataroom$Marks", "<init>", "()V"⟩ "Dataroom" ∈ NB := nb1 (i := 76) rfl rfl
theorem nw_121 : Cond.castable "java/lang/IllegalArgumentException" "java/lang/IllegalArgumentException" ∈ NB := nb1 (i := 121) rfl rfl
theorem nw_122 : Cond.declares ⟨"java/lang/RuntimeException", "<init>", "()V"⟩ ∈ NB := nb1 (i := 122) rfl rfl
theorem nw_123 : Cond.declares ⟨"java/lang/RuntimeException", "<init>", "(Ljava/lang/String;)V"⟩ ∈ NB := nb1 (i := 123) rfl rfl
theorem nw_124 : Cond.declares ⟨"java/lang/Exception", "<init>", "()V"⟩ ∈ NB := nb1 (i := 124) rfl rfl
theorem nw_125 : Cond.declares ⟨"java/lang/Exception", "<init>", "(Ljava/lang/String;)V"⟩ ∈ NB := nb1 (i := 125) rfl rfl
theorem nw_126 : Cond.declares ⟨"java/lang/Throwable", "<init>", "()V"⟩ ∈ NB := nb1 (i := 126) rfl rfl
theorem nw_127 : Cond.declares ⟨"java/lang/Throwable", "<init>", "(Ljava/lang/String;)V"⟩ ∈ NB := nb1 (i := 127) rfl rfl
theorem nw_159 : Cond.native ⟨"java/lang/Throwable", "fillInStackTrace", "(I)Ljava/lang/Throwable;"⟩ ∈ NB := nb1 (i := 159) rfl rfl
theorem nw_193 : Cond.castable "java/lang/IllegalStateException" "java/lang/IllegalStateException" ∈ NB := nb1 (i := 193) rfl rfl
theorem nw_214 : Cond.fieldLinkNest "Dataroom" 64 "Dataroom$Card" "number" "I" "Dataroom" ∈ NB := nb1 (i := 214) rfl rfl
theorem nw_216 : Cond.fieldLinkNest "Dataroom" 105 "Dataroom$Card" "sealedTill" "I" "Dataroom" ∈ NB := nb1 (i := 216) rfl rfl
theorem nw_266 : Cond.native ⟨"java/lang/Object", "getClass", "()Ljava/lang/Class;"⟩ ∈ NB := nb2 (i := 26) rfl rfl
theorem nw_278 : Cond.native ⟨"java/lang/System", "arraycopy", "(Ljava/lang/Object;ILjava/lang/Object;II)V"⟩ ∈ NB := nb2 (i := 38) rfl rfl
theorem nw_299 : Cond.castable "java/lang/IndexOutOfBoundsException" "java/lang/IndexOutOfBoundsException" ∈ NB := nb2 (i := 59) rfl rfl
theorem nw_356 : Cond.methodLinkNest "Dataroom$Party" 43 ⟨"Dataroom", "covers", "(II)Z"⟩ "Dataroom" ∈ NB := nb2 (i := 116) rfl rfl
theorem nw_363 : Cond.methodLinkNest "Dataroom$Knowledge" 19 ⟨"Dataroom", "holds", "(II)Z"⟩ "Dataroom" ∈ NB := nb2 (i := 123) rfl rfl
theorem nw_381 : Cond.methodLinkNest "Dataroom$Party" 34 ⟨"Dataroom$Knowledge", "<init>", "()V"⟩ "Dataroom" ∈ NB := nb2 (i := 141) rfl rfl
theorem nw_383 : Cond.fieldLinkNest "Dataroom$Answer" 29 "Dataroom$Party" "place" "I" "Dataroom" ∈ NB := nb2 (i := 143) rfl rfl
theorem nw_384 : Cond.fieldLinkNest "Dataroom" 131 "Dataroom$Party" "place" "I" "Dataroom" ∈ NB := nb2 (i := 144) rfl rfl
theorem nw_386 : Cond.fieldLinkNest "Dataroom" 87 "Dataroom$Party" "budget" "I" "Dataroom" ∈ NB := nb2 (i := 146) rfl rfl
theorem nw_389 : Cond.fieldLinkNest "Dataroom" 161 "Dataroom$Party" "known" "[LDataroom$Knowledge;" "Dataroom" ∈ NB := nb2 (i := 149) rfl rfl
theorem nw_545 : Cond.fieldLinkNest "Dataroom" 213 "Dataroom$Answer" "files" "I" "Dataroom" ∈ NB := nb3 (i := 65) rfl rfl
theorem nw_547 : Cond.fieldLinkNest "Dataroom" 227 "Dataroom$Answer" "bit" "I" "Dataroom" ∈ NB := nb3 (i := 67) rfl rfl
theorem nw_551 : Cond.fieldLinkNest "Dataroom" 216 "Dataroom$Answer" "recalled" "Z" "Dataroom" ∈ NB := nb3 (i := 71) rfl rfl
theorem nw_622 : Cond.methodLinkNest "Dataroom$Marks" 45 ⟨"Dataroom", "holds", "(II)Z"⟩ "Dataroom" ∈ NB := nb3 (i := 142) rfl rfl
theorem nw_901 : Cond.castable "Dataroom$Right" "java/lang/Object" ∈ NB := nb4 (i := 181) rfl rfl
theorem nw_902 : Cond.castable "Dataroom$Knowledge" "java/lang/Object" ∈ NB := nb4 (i := 182) rfl rfl
theorem nw_903 : Cond.castable "Dataroom" "java/lang/Object" ∈ NB := nb4 (i := 183) rfl rfl
theorem nw_904 : Cond.castable "java/util/ArrayList" "java/lang/Object" ∈ NB := nb4 (i := 184) rfl rfl
theorem nw_905 : Cond.castable "Dataroom$Marks" "java/lang/Object" ∈ NB := nb4 (i := 185) rfl rfl
theorem nw_906 : Cond.castable "DataroomModel" "java/lang/Object" ∈ NB := nb4 (i := 186) rfl rfl
theorem nw_907 : Cond.castable "java/lang/IllegalArgumentException" "java/lang/Object" ∈ NB := nb4 (i := 187) rfl rfl
theorem nw_908 : Cond.castable "java/lang/IllegalStateException" "java/lang/Object" ∈ NB := nb4 (i := 188) rfl rfl
theorem nw_909 : Cond.castable "Dataroom$Card" "java/lang/Object" ∈ NB := nb4 (i := 189) rfl rfl
theorem nw_910 : Cond.castable "java/lang/IndexOutOfBoundsException" "java/lang/Object" ∈ NB := nb4 (i := 190) rfl rfl
theorem nw_911 : Cond.castable "Dataroom$Party" "java/lang/Object" ∈ NB := nb4 (i := 191) rfl rfl
theorem nw_912 : Cond.castable "Dataroom$Answer" "java/lang/Object" ∈ NB := nb4 (i := 192) rfl rfl
theorem nw_913 : Cond.castable "java/lang/Throwable" "java/lang/Object" ∈ NB := nb4 (i := 193) rfl rfl
theorem nw_914 : Cond.castable "java/lang/String" "java/lang/Object" ∈ NB := nb4 (i := 194) rfl rfl
theorem nw_917 : Cond.declares ⟨"java/lang/Object", "getClass", "()Ljava/lang/Class;"⟩ ∈ NB := nb4 (i := 197) rfl rfl
theorem nw_918 : Cond.castable "[I" "java/lang/Object" ∈ NB := nb4 (i := 198) rfl rfl
theorem nw_919 : Cond.castable "[J" "java/lang/Object" ∈ NB := nb4 (i := 199) rfl rfl
theorem nw_920 : Cond.castable "[B" "java/lang/Object" ∈ NB := nb4 (i := 200) rfl rfl
theorem nw_921 : Cond.castable "[Ljava/lang/Object;" "java/lang/Object" ∈ NB := nb4 (i := 201) rfl rfl
theorem nw_922 : Cond.castable "[LDataroom$Right;" "java/lang/Object" ∈ NB := nb4 (i := 202) rfl rfl
theorem nw_923 : Cond.castable "[LDataroom$Knowledge;" "java/lang/Object" ∈ NB := nb4 (i := 203) rfl rfl
theorem nw_924 : Cond.castable "[Z" "java/lang/Object" ∈ NB := nb4 (i := 204) rfl rfl
end
section
/-! THE BASE, second part: making, entering, leaving, calling -/
theorem xH.kept {E : xE} {base : Nat} {al : Tg → Nat} {w : Tg → Option va_E} {H H1 : Heap} (h : xH E base al w H) (ho : ∀ q : Nat, q < H.size → H1[q]? = H[q]?) : xH E base al w H1 :=
  ⟨fun t e ht => ⟨(h.1 t e ht).1, (h.1 t e ht).2.kept (ho _ (h.lt ht))⟩, h.2⟩
section XR2
variable {p : Program} {l : Launch} {e : Env} {R : Room} {s : State} {m : MethodId} {args : Array Value} {below : List Frame} {meth : Method} {c : Code} {H : Heap} {locs : List Loc} {cells slots mc ms : Nat} {Q : State → Prop}
variable {cc : ByteArray} {pc nL : Nat} {ls : Array Slot} {rest : List Value} {own : String} {ret : Option FieldType} {E : xE} {base : Nat} {al : Tg → Nat} {w : Tg → Option va_E}
theorem xS_new {H1 : Heap} (hS : va_S (xA base) s.heap H locs) (hz : H1.size = H.size + 1) (ho : ∀ q : Nat, q < H.size → H1[q]? = H[q]?) : va_S (xA base) s.heap H1 locs :=
  ⟨Nat.le_trans hS.1 (by omega), fun x h1 h2 => (ho x (Nat.lt_of_lt_of_le h1 hS.1)).trans (hS.2.1 x h1 h2), hS.2.2⟩
theorem x_new (C : XC p s m args meth c own cc nL ret E base) (hH : xH E base al w H) (hS : va_S (xA base) s.heap H locs) (t : Tg) {C' : String} {T : u_T} {N ci index : Nat} (hc : vwCl[ci]? = some (C', T, N)) (hin : ∀ w ∈ u_ws C' T N, w ∈ WS) (ty : Nat → FieldType) (hty : ∀ k, k < N → parseFieldDescriptor (T k).2.2.1 = some (ty k)) (hcl : Cond.classLink own index C' ∈ WS) (hinst : Cond.instantiable C' N ∈ WS) (hini : Cond.initialized C' ∈ WS) {fs : List Value} (hfs : ∀ j, j < N → defaultValue (ty j) = vp_V fs j) (hcells : cells + 1 ≤ R.cells) (hslots : slots + N ≤ R.slots) (hdg : decode cc pc = .ok (.new index, 3))
    (kk : ∀ (H1 : Heap), xH E base (xa al t H.size) (xu w t (.inr (ci, fs))) H1 → va_S (xA base) s.heap H1 locs → W p l e R s m args below meth c H1 locs (cells + 1) (slots + N) Q (F0 m (pc + 3) ls (.ref (xa al t H.size t) :: rest))) : W p l e R s m args below meth c H locs cells slots Q (F0 m pc ls rest) := by
  have hKn := C.st.K.1 ci _ hc
  refine W.newcK C.hx C.hb C.hown (C.ws _ hcl) (C.ws _ hinst) (C.ws _ hini) rfl hdg hcells hslots hKn.2.1 rfl fun H1 kC hkC e1 z1 o1 => ?_
  have k1 := kk H1 (hH.new t (C.A hS) ⟨_, hc, (u_born ty C.ws hin hKn hkC e1 hty).to hfs⟩ o1) (xS_new hS z1 o1)
  rw [xa_self] at k1
  exact k1
theorem x_newa (C : XC p s m args meth c own cc nL ret E base) (hH : xH E base al w H) (hS : va_S (xA base) s.heap H locs) (t : Tg) (k0 : Nat) {atype : ArrayType} {ty : FieldType} (harr : Cond.arrayClass (newarray.typeOf atype) ∈ WS) (hty : newarray.typeOf atype = ty) (hk : (xtys E)[k0]? = some (E.2.1 k0, ty)) (hra : ∀ C0, ty ≠ .object C0)
    {n : Int32} {N' : Nat} {a0 : vp_A} (ha : ∀ cA : ClassId, vp_cell cA a0 = arrV cA N' (fun _ => defaultValue ty)) (hn : n = nI N') (hN : N' < 100000) (hcb : componentBytes ty ≤ 8) (hcells : cells + 1 ≤ R.cells) (hslots : slots + N' ≤ R.slots) (hdg : decode cc pc = .ok (.newarray atype, 2))
    (kk : ∀ (H1 : Heap), xH E base (xa al t H.size) (xu w t (.inl (E.2.1 k0, a0))) H1 → va_S (xA base) s.heap H1 locs → W p l e R s m args below meth c H1 locs (cells + 1) (slots + N') Q (F0 m (pc + 2) ls (.ref (xa al t H.size t) :: rest))) : W p l e R s m args below meth c H locs cells slots Q (F0 m pc ls (.int n :: rest)) := by
  subst hty hn
  have hb8 : N' * componentBytes (newarray.typeOf atype) ≤ 536870912 := Nat.le_trans (Nat.mul_le_mul_left N' hcb) (by omega)
  refine va_newaK C.hx C.hb (C.ws _ harr) rfl hdg rfl (nI_pos (by omega)) (nI_clamp (by omega)) hb8 hcells hslots rfl fun H1 cA e1 z1 o1 hAr hNm => ?_
  have hcA : cA = E.2.1 k0 := by
    have h2 := (C.st.K.2 k0 _ hk).2
    have h3 : s.vm.findClass ("[" ++ (newarray.typeOf atype).toString) = some (E.2.1 k0) := by
      revert h2
      unfold va_RA
      split
      · rename_i C0 heq; exact absurd heq (hra C0)
      · exact id
    exact Option.some.inj (hNm.symm.trans h3)
  subst hcA
  have k1 := kk H1 (hH.new t (C.A hS) (by show H1[H.size]? = some (vp_cell _ _); rw [ha]; exact e1) o1) (xS_new hS z1 o1)
  rw [xa_self] at k1
  exact k1
theorem x_newq (C : XC p s m args meth c own cc nL ret E base) (hH : xH E base al w H) (hS : va_S (xA base) s.heap H locs) (t : Tg) (k0 : Nat) {Cn : String} {index : Nat} (hcl : Cond.classLink own index Cn ∈ WS) (hao : va_AO Cn s) (hk : (xtys E)[k0]? = some (E.2.1 k0, .object Cn))
    {n : Int32} {N' : Nat} (hn : n = nI N') (hN : N' < 100000) (hcells : cells + 1 ≤ R.cells) (hslots : slots + N' ≤ R.slots) (hdg : decode cc pc = .ok (.anewarray index, 3))
    (kk : ∀ (H1 : Heap), xH E base (xa al t H.size) (xu w t (.inl (E.2.1 k0, N', .inr (.inr (.inr (.inr (fun _ => none))))))) H1 → va_S (xA base) s.heap H1 locs → W p l e R s m args below meth c H1 locs (cells + 1) (slots + N') Q (F0 m (pc + 3) ls (.ref (xa al t H.size t) :: rest))) : W p l e R s m args below meth c H locs cells slots Q (F0 m pc ls (.int n :: rest)) := by
  subst hn
  have hz : (nI N').toNatClampNeg = N' := nI_clamp (by omega)
  refine W.anew C.hx C.hb C.hown (C.ws _ hcl) (va_AO.use hao) rfl hdg rfl (nI_pos (by omega)) (by rw [hz]; omega) hcells (by rw [hz]; exact hslots) fun cA kA comp f1 f2 f3 f4 => ?_
  have hcA : cA = E.2.1 k0 := by
    obtain ⟨_, _, -, -, -, h4⟩ := (C.st.K.2 k0 _ hk).2
    exact Option.some.inj (f1.symm.trans h4)
  subst hcA
  rw [hz]
  generalize hH1 : H.push ({ cls := E.2.1 k0, slots := Array.replicate N' .null, vm := .none } : Cell) = H1
  have z1 : H1.size = H.size + 1 := by rw [← hH1, Array.size_push]
  have e1 : H1[H.size]? = some (arrV (E.2.1 k0) N' (fun _ => .null)) := by rw [← hH1, Array.getElem?_push_size, ← arrV_new]
  have o1 : ∀ q : Nat, q < H.size → H1[q]? = H[q]? := fun q hq => by rw [← hH1, Array.getElem?_push, if_neg (Nat.ne_of_lt hq)]
  have k1 := kk H1 (hH.new t (C.A hS) (by show H1[H.size]? = some (vp_cell _ _); rw [vp_cell_q]; exact e1) o1) (xS_new hS z1 o1)
  rw [xa_self] at k1
  exact k1
/-! leaving -/
theorem xQ_in {post : Option Value → Heap → Prop} {r : Option Value} (hS : va_S (xA base) s.heap H locs) (hp : post r H) : ∀ t : State, t.heap = H → s.WarmedH t.vm → xQ base post args s (.returned r) t :=
  fun t ht _ => ⟨⟨r, rfl, by rw [ht]; exact hp⟩, hS.F ht⟩
theorem x_reti {post : Option Value → Heap → Prop} {v : Int32} {ty : FieldType} (C : XC p s m args meth c own cc nL (some ty) E base) (hn : narrow ty (.int v) = .int v) (hS : va_S (xA base) s.heap H locs) (hc : cells ≤ mc) (hs : slots ≤ ms) (hdg : decode cc pc = .ok (.ireturn, 1)) (hp : post (some (.int v)) H) : W p l e R s m args below meth c H locs cells slots (MQ below (xQ base post) args s mc ms (xA base)) (F0 m pc ls [.int v]) :=
  W.widen hc hs (W.zret C.hx C.hb C.rt hn (xQ_in hS hp) hS.2.2 hdg C.locks)
theorem x_retv {post : Option Value → Heap → Prop} (C : XC p s m args meth c own cc nL none E base) (hS : va_S (xA base) s.heap H locs) (hc : cells ≤ mc) (hs : slots ≤ ms) (hdg : decode cc pc = .ok (.return_, 1)) (hp : post none H) : W p l e R s m args below meth c H locs cells slots (MQ below (xQ base post) args s mc ms (xA base)) (F0 m pc ls []) :=
  W.widen hc hs (W.vret C.hx C.hb C.rt (xQ_in hS hp) hS.2.2 hdg C.locks)
theorem x_retl {post : Option Value → Heap → Prop} {v : Int64} (C : XC p s m args meth c own cc nL (some .long) E base) (hS : va_S (xA base) s.heap H locs) (hc : cells ≤ mc) (hs : slots ≤ ms) (hdg : decode cc pc = .ok (.lreturn, 1)) (hp : post (some (.long v)) H) : W p l e R s m args below meth c H locs cells slots (MQ below (xQ base post) args s mc ms (xA base)) (F0 m pc ls [.long v]) :=
  W.widen hc hs (W.lret C.hx C.hb C.rt (xQ_in hS hp) hS.2.2 hdg C.locks)
theorem x_reta {post : Option Value → Heap → Prop} {v : Value} {rt : FieldType} (C : XC p s m args meth c own cc nL (some rt) E base) (hrt : (∃ n, rt = .object n) ∨ ∃ t, rt = .array t) (hv : v = .null ∨ ∃ a, v = .ref a) (hS : va_S (xA base) s.heap H locs) (hc : cells ≤ mc) (hs : slots ≤ ms) (hdg : decode cc pc = .ok (.areturn, 1)) (hp : post (some v) H) : W p l e R s m args below meth c H locs cells slots (MQ below (xQ base post) args s mc ms (xA base)) (F0 m pc ls [v]) :=
  W.widen hc hs (W.aret C.hx C.hb C.rt hrt hv (xQ_in hS hp) hS.2.2 hdg C.locks)
theorem x_init (C : XC p s m args meth c own cc nL ret E base) {idx a : Nat} (hl : Cond.methodLink own idx Lib.objectInit ∈ WS) (hi : Cond.instanceMethod Lib.objectInit ∈ WS) (hcd : Cond.code Lib.objectInit ⟨#[0xb1]⟩ 1 none ∈ WS) (hsize : ls.size = nL) (hd : decode cc pc = .ok (.invokespecial idx, 3)) (hf : 1 ≤ R.frames) (hlo : (rest.map fun v => v.category).sum + 12 ≤ R.locals)
    (kk : W p l e R s m args below meth c H locs cells slots Q (F0 m (pc + 3) ls rest)) : W p l e R s m args below meth c H locs cells slots Q (F0 m pc ls (.ref a :: rest)) :=
  W.objInit C.hx C.hb C.hown (C.ws _ hl) (C.ws _ hi) (C.ws _ hcd) rfl (hsize.trans C.2.2.1.symm) rfl hd hf (by show 2 * (F0 m pc ls rest).monitorRoom + _ + 12 ≤ _; simpa [JFrame.monitorRoom] using hlo) kk
/-! calls that return -/
theorem x_cont {a : Array Value} {post : Option Value → Heap → Prop} {st0 : List Value} (hr : va_Run p l e R s m args below meth c H locs cells slots mc ms (F0 m pc ls st0) rest (xQ base post a) (xA base)) (hS : va_S (xA base) s.heap H locs)
    (kk : ∀ (r : Option Value) (H1 : Heap) (locs1 : List Loc), post r H1 → va_S (xA base) s.heap H1 locs1 → W p l e R s m args below meth c H1 locs1 (cells + mc) (slots + ms) Q (F0 m (pc + 3) ls (r.toList ++ rest))) : W p l e R s m args below meth c H locs cells slots Q (F0 m pc ls st0) := by
  intro T hT X
  obtain ⟨v, st₀, t, T', L, h0, X', hL, e1, e2, ⟨⟨r, hv, hp⟩, hz, hk⟩, st⟩ := hr T hT X
  cases hv
  rw [h0] at hz hk
  obtain ⟨t2, a1, b1⟩ := kk v T'.heap (locs ++ L) (by rw [e1]; exact hp)
    ⟨Nat.le_trans hS.1 (by rw [e1]; exact hz), fun q h1 h2 => by rw [e1, hk q (Nat.lt_of_lt_of_le h1 hS.1) h2]; exact hS.2.1 q h1 h2, fun q hq => by
      rcases List.mem_append.mp hq with h | h
      · exact hS.2.2 q h
      · exact hL q h⟩ T' rfl X'
  exact ⟨t2, st t2 a1, b1⟩
end XR2
section XR3
variable {p : Program} {l : Launch} {e : Env} {R : Room} {s : State} {m : MethodId} {args : Array Value} {below : List Frame} {meth : Method} {c : Code} {H : Heap} {locs : List Loc} {cells slots : Nat} {Q : State → Prop}
variable {cc : ByteArray} {pc nL : Nat} {ls : Array Slot} {st0 : List Value} {own : String} {ret : Option FieldType} {E : xE} {base : Nat} {al : Tg → Nat} {w : Tg → Option va_E}
variable {y : MethodName} {b : ByteArray} {n k index : Nat} {ry : Option FieldType} {rm : Room} {As : List Value} {P : Heap → Prop} {post : Option Value → Heap → Prop}
theorem x_callV (C : XC p s m args meth c own cc nL ret E base) (hH : xH E base al w H) (hS : va_S (xA base) s.heap H locs) {t : Tg} {ci : Nat} {fs : List Value} {r : vw_C} (ht : w t = some (.inr (ci, fs))) (hc : vwCl[ci]? = some r) (hcls : r.1 = y.cls) (hM : xMet l y b n ry rm E base (.ref (al t) :: As) P post) (hP : P H)
    (hy : xY y b n ry k) (hin : Cond.instanceMethod y ∈ WS) (hsel : Cond.selects y.cls y y ∈ WS) (hl : Cond.methodLink own index y ∈ WS) (hk : As.length = k) (rest : List Value) (hst : st0 = As.reverse ++ .ref (al t) :: rest) (hsize : ls.size = nL) (h8 : (rest.map fun v => v.category).sum ≤ 8) (hR : rm.frames + 1 ≤ R.frames ∧ 8 + (n + 11) + rm.locals ≤ R.locals) (hdg : decode cc pc = .ok (.invokevirtual index, 3)) (hf : cells + rm.cells ≤ R.cells ∧ slots + rm.slots ≤ R.slots)
    (kk : ∀ (r : Option Value) (H1 : Heap) (locs1 : List Loc), post r H1 → va_S (xA base) s.heap H1 locs1 → W p l e R s m args below meth c H1 locs1 (cells + rm.cells) (slots + rm.slots) Q (F0 m (pc + 3) ls (r.toList ++ rest))) : W p l e R s m args below meth c H locs cells slots Q (F0 m pc ls st0) := by
  have recv := va_recv C.st.K (hH.P ht) hc (q0 := 0) rfl
  rw [hcls] at recv
  refine x_cont (va_runV (As := As) (rest := rest) (C := y.cls) (n := k) C.fix hM ⟨⟨rfl, rfl, hR.1, hR.2, pay_in C.ws (ws_self y b n ry hy.1), List.mem_cons_self, C.ws _ hy.1, C.ws _ hy.2.1, ⟨hy.2.2.1, hy.2.2.2.1⟩, fun sig h => ?_, C.ws _ hl⟩, C.ws _ hin, C.ws _ hsel⟩ ⟨xPc_blind E base _ P, recv, fun U hU hW => ⟨rfl, C.at hS hU hW, by rw [hU]; exact hP⟩⟩ rfl hk hsize hst (lv_room h8) hdg hf) hS kk
  have h2 := hy.2.2.2.2
  rw [h] at h2
  exact (Option.some.inj h2).symm
theorem x_callI (C : XC p s m args meth c own cc nL ret E base) (hS : va_S (xA base) s.heap H locs) {a : Nat} (hM : xMet l y b n none rm E base (.ref a :: As) P post) (hP : P H)
    (hy : xY y b n none k) (hin : Cond.instanceMethod y ∈ WS) (hnm : y.name = "<init>") (hl : Cond.methodLink own index y ∈ WS) (hk : As.length = k) (rest : List Value) (hst : st0 = As.reverse ++ .ref a :: rest) (hsize : ls.size = nL) (h8 : (rest.map fun v => v.category).sum ≤ 8) (hR : rm.frames + 1 ≤ R.frames ∧ 8 + (n + 11) + rm.locals ≤ R.locals) (hdg : decode cc pc = .ok (.invokespecial index, 3)) (hf : cells + rm.cells ≤ R.cells ∧ slots + rm.slots ≤ R.slots)
    (kk : ∀ (r : Option Value) (H1 : Heap) (locs1 : List Loc), post r H1 → va_S (xA base) s.heap H1 locs1 → W p l e R s m args below meth c H1 locs1 (cells + rm.cells) (slots + rm.slots) Q (F0 m (pc + 3) ls (r.toList ++ rest))) : W p l e R s m args below meth c H locs cells slots Q (F0 m pc ls st0) := by
  refine x_cont (va_runI (As := As) (rest := rest) (n := k) C.fix hM ⟨⟨rfl, rfl, hR.1, hR.2, pay_in C.ws (ws_self y b n none hy.1), List.mem_cons_self, C.ws _ hy.1, C.ws _ hy.2.1, ⟨hy.2.2.1, hy.2.2.2.1⟩, fun sig h => ?_, C.ws _ hl⟩, hnm, C.ws _ hin⟩ ⟨xPc_blind E base _ P, fun U hU hW => ⟨rfl, C.at hS hU hW, by rw [hU]; exact hP⟩⟩ rfl hk hsize hst (lv_room h8) hdg hf) hS kk
  have h2 := hy.2.2.2.2
  rw [h] at h2
  exact (Option.some.inj h2).symm
theorem x_callIN (C : XC p s m args meth c own cc nL ret E base) (hS : va_S (xA base) s.heap H locs) {a : Nat} {host : String} (hM : xMet l y b n none rm E base (.ref a :: As) P post) (hP : P H)
    (hy : xY y b n none k) (hin : Cond.instanceMethod y ∈ WS) (hnm : y.name = "<init>") (hl : Cond.methodLinkNest own index y host ∈ NB) (hk : As.length = k) (rest : List Value) (hst : st0 = As.reverse ++ .ref a :: rest) (hsize : ls.size = nL) (h8 : (rest.map fun v => v.category).sum ≤ 8) (hR : rm.frames + 1 ≤ R.frames ∧ 8 + (n + 11) + rm.locals ≤ R.locals) (hdg : decode cc pc = .ok (.invokespecial index, 3)) (hf : cells + rm.cells ≤ R.cells ∧ slots + rm.slots ≤ R.slots)
    (kk : ∀ (r : Option Value) (H1 : Heap) (locs1 : List Loc), post r H1 → va_S (xA base) s.heap H1 locs1 → W p l e R s m args below meth c H1 locs1 (cells + rm.cells) (slots + rm.slots) Q (F0 m (pc + 3) ls (r.toList ++ rest))) : W p l e R s m args below meth c H locs cells slots Q (F0 m pc ls st0) := by
  refine x_cont (va_runIN (As := As) (rest := rest) (n := k) (host := host) C.fix hM ⟨⟨⟨rfl, rfl, hR.1, hR.2, pay_in C.ws (ws_self y b n none hy.1), List.mem_cons_self⟩, C.ws _ hy.1, C.ws _ hy.2.1, ⟨hy.2.2.1, hy.2.2.2.1⟩, fun sig h => ?_, (C.st.nb hl).use rfl⟩, hnm, C.ws _ hin⟩ ⟨xPc_blind E base _ P, fun U hU hW => ⟨rfl, C.at hS hU hW, by rw [hU]; exact hP⟩⟩ rfl hk hsize hst (lv_room h8) hdg hf) hS kk
  have h2 := hy.2.2.2.2
  rw [h] at h2
  exact (Option.some.inj h2).symm
theorem x_callS (C : XC p s m args meth c own cc nL ret E base) (hS : va_S (xA base) s.heap H locs) (hM : xMet l y b n ry rm E base As P post) (hP : P H)
    (hy : xY y b n ry k) (hstt : Cond.static y ∈ WS) (hl : Cond.methodLink own index y ∈ WS) (hk : As.length = k) (rest : List Value) (hst : st0 = As.reverse ++ rest) (hsize : ls.size = nL) (h8 : (rest.map fun v => v.category).sum ≤ 8) (hR : rm.frames + 1 ≤ R.frames ∧ 8 + (n + 11) + rm.locals ≤ R.locals) (hdg : decode cc pc = .ok (.invokestatic index, 3)) (hf : cells + rm.cells ≤ R.cells ∧ slots + rm.slots ≤ R.slots)
    (kk : ∀ (r : Option Value) (H1 : Heap) (locs1 : List Loc), post r H1 → va_S (xA base) s.heap H1 locs1 → W p l e R s m args below meth c H1 locs1 (cells + rm.cells) (slots + rm.slots) Q (F0 m (pc + 3) ls (r.toList ++ rest))) : W p l e R s m args below meth c H locs cells slots Q (F0 m pc ls st0) := by
  refine x_cont (va_runS (As := As) (rest := rest) (n := k) C.fix hM ⟨⟨rfl, rfl, hR.1, hR.2, pay_in C.ws (ws_self y b n ry hy.1), List.mem_cons_self, C.ws _ hy.1, C.ws _ hy.2.1, ⟨hy.2.2.1, hy.2.2.2.1⟩, fun sig h => ?_, C.ws _ hl⟩, C.ws _ hstt⟩ ⟨xPc_blind E base _ P, fun U hU hW => ⟨rfl, C.at hS hU hW, by rw [hU]; exact hP⟩⟩ rfl hk hsize hst (lv_room h8) hdg hf) hS kk
  have h2 := hy.2.2.2.2
  rw [h] at h2
  exact (Option.some.inj h2).symm
theorem x_callSN (C : XC p s m args meth c own cc nL ret E base) (hS : va_S (xA base) s.heap H locs) {host : String} (hM : xMet l y b n ry rm E base As P post) (hP : P H)
    (hy : xY y b n ry k) (hstt : Cond.static y ∈ WS) (hl : Cond.methodLinkNest own index y host ∈ NB) (hk : As.length = k) (rest : List Value) (hst : st0 = As.reverse ++ rest) (hsize : ls.size = nL) (h8 : (rest.map fun v => v.category).sum ≤ 8) (hR : rm.frames + 1 ≤ R.frames ∧ 8 + (n + 11) + rm.locals ≤ R.locals) (hdg : decode cc pc = .ok (.invokestatic index, 3)) (hf : cells + rm.cells ≤ R.cells ∧ slots + rm.slots ≤ R.slots)
    (kk : ∀ (r : Option Value) (H1 : Heap) (locs1 : List Loc), post r H1 → va_S (xA base) s.heap H1 locs1 → W p l e R s m args below meth c H1 locs1 (cells + rm.cells) (slots + rm.slots) Q (F0 m (pc + 3) ls (r.toList ++ rest))) : W p l e R s m args below meth c H locs cells slots Q (F0 m pc ls st0) := by
  refine x_cont (va_runSN (As := As) (rest := rest) (n := k) (host := host) C.fix hM ⟨⟨⟨rfl, rfl, hR.1, hR.2, pay_in C.ws (ws_self y b n ry hy.1), List.mem_cons_self⟩, C.ws _ hy.1, C.ws _ hy.2.1, ⟨hy.2.2.1, hy.2.2.2.1⟩, fun sig h => ?_, (C.st.nb hl).use rfl⟩, C.ws _ hstt, trivial⟩ ⟨xPc_blind E base _ P, fun U hU hW => ⟨rfl, C.at hS hU hW, by rw [hU]; exact hP⟩⟩ rfl hk hsize hst (lv_room h8) hdg hf) hS kk
  have h2 := hy.2.2.2.2
  rw [h] at h2
  exact (Option.some.inj h2).symm
/-! calls that return or throw -/
variable {px : String → Heap → Prop}
theorem x_contX {a : Array Value} {mc ms : Nat} {rest : List Value} (hr : vx_Run p l e R s m args below meth c H locs cells slots mc ms (F0 m pc ls st0) rest (xQ base post a) (xX base px) (xA base)) (hS : va_S (xA base) s.heap H locs)
    (kx : ∀ (X : String) (ce : Cell) (q9 : Addr) (H1 : Heap) (locs1 : List Loc), px X H1 → va_S (xA base) s.heap H1 locs1 → H1[q9]? = some ce → ce.vm = .none → s.vm.findClass X = some ce.cls → vx_W p l e R s m args below meth c H1 locs1 (cells + mc) (slots + ms) Q (F0 m pc ls rest) q9)
    (kk : ∀ (r : Option Value) (H1 : Heap) (locs1 : List Loc), post r H1 → va_S (xA base) s.heap H1 locs1 → W p l e R s m args below meth c H1 locs1 (cells + mc) (slots + ms) Q (F0 m (pc + 3) ls (r.toList ++ rest))) : W p l e R s m args below meth c H locs cells slots Q (F0 m pc ls st0) := by
  have key : ∀ (st₀ t T' : State) (L : List Loc), st₀.heap = H → T'.heap = t.heap → (∀ z ∈ L, xA base z.base) → va_F (xA base) st₀ t → va_S (xA base) s.heap T'.heap (locs ++ L) := by
    intro st₀ t T' L h0 e1 hL hF
    obtain ⟨hz, hk⟩ := hF
    rw [h0] at hz hk
    exact ⟨Nat.le_trans hS.1 (by rw [e1]; exact hz), fun q h1 h2 => by rw [e1, hk q (Nat.lt_of_lt_of_le h1 hS.1) h2]; exact hS.2.1 q h1 h2, fun q hq => by
      rcases List.mem_append.mp hq with h | h
      · exact hS.2.2 q h
      · exact hL q h⟩
  intro T hT X
  rcases hr T hT X with ⟨v, st₀, t, T', L, h0, X', hL, e1, e2, ⟨⟨r, hv, hp⟩, hF⟩, st⟩ | ⟨q, st₀, t, T', L, E', ce, h0, X', hL, e1, e2, ⟨hp, hF⟩, hce, hcv, hcl, st⟩
  · cases hv
    obtain ⟨t2, a1, b1⟩ := kk v T'.heap (locs ++ L) (by rw [e1]; exact hp) (key _ _ _ _ h0 e1 hL hF) T' rfl X'
    exact ⟨t2, st t2 a1, b1⟩
  · obtain ⟨t2, a1, b1⟩ := kx E' ce q T'.heap (locs ++ L) (by rw [e1]; exact hp) (key _ _ _ _ h0 e1 hL hF) (by rw [e1]; exact hce) hcv hcl T' rfl X'
    exact ⟨t2, st.trans a1, b1⟩
theorem x_thrV (C : XC p s m args meth c own cc nL ret E base) (hH : xH E base al w H) (hS : va_S (xA base) s.heap H locs) {t : Tg} {ci : Nat} {fs : List Value} {r : vw_C} (ht : w t = some (.inr (ci, fs))) (hc : vwCl[ci]? = some r) (hcls : r.1 = y.cls) (hM : xMetX l y b n ry rm E base (.ref (al t) :: As) P post px) (hP : P H)
    (hy : xY y b n ry k) (hin : Cond.instanceMethod y ∈ WS) (hsel : Cond.selects y.cls y y ∈ WS) (hl : Cond.methodLink own index y ∈ WS) (hk : As.length = k) (rest : List Value) (hst : st0 = As.reverse ++ .ref (al t) :: rest) (hsize : ls.size = nL) (h8 : (rest.map fun v => v.category).sum ≤ 8) (hR : rm.frames + 1 ≤ R.frames ∧ 8 + (n + 11) + rm.locals ≤ R.locals) (hdg : decode cc pc = .ok (.invokevirtual index, 3)) (hf : cells + rm.cells ≤ R.cells ∧ slots + rm.slots ≤ R.slots)
    (kx : ∀ (X : String) (ce : Cell) (q9 : Addr) (H1 : Heap) (locs1 : List Loc), px X H1 → va_S (xA base) s.heap H1 locs1 → H1[q9]? = some ce → ce.vm = .none → s.vm.findClass X = some ce.cls → vx_W p l e R s m args below meth c H1 locs1 (cells + rm.cells) (slots + rm.slots) Q (F0 m pc ls rest) q9)
    (kk : ∀ (r : Option Value) (H1 : Heap) (locs1 : List Loc), post r H1 → va_S (xA base) s.heap H1 locs1 → W p l e R s m args below meth c H1 locs1 (cells + rm.cells) (slots + rm.slots) Q (F0 m (pc + 3) ls (r.toList ++ rest))) : W p l e R s m args below meth c H locs cells slots Q (F0 m pc ls st0) := by
  have recv := va_recv C.st.K (hH.P ht) hc (q0 := 0) rfl
  rw [hcls] at recv
  refine x_contX (vx_runV (As := As) (rest := rest) (C := y.cls) (n := k) C.fix hM ⟨⟨rfl, rfl, hR.1, hR.2, pay_in C.ws (ws_self y b n ry hy.1), List.mem_cons_self, C.ws _ hy.1, C.ws _ hy.2.1, ⟨hy.2.2.1, hy.2.2.2.1⟩, fun sig h => ?_, C.ws _ hl⟩, C.ws _ hin, C.ws _ hsel⟩ ⟨xPc_blind E base _ P, recv, fun U hU hW => ⟨rfl, C.at hS hU hW, by rw [hU]; exact hP⟩⟩ rfl hk hsize hst (lv_room h8) hdg hf) hS kx kk
  have h2 := hy.2.2.2.2
  rw [h] at h2
  exact (Option.some.inj h2).symm
theorem x_thrS (C : XC p s m args meth c own cc nL ret E base) (hS : va_S (xA base) s.heap H locs) (hM : xMetX l y b n ry rm E base As P post px) (hP : P H)
    (hy : xY y b n ry k) (hstt : Cond.static y ∈ WS) (hl : Cond.methodLink own index y ∈ WS) (hk : As.length = k) (rest : List Value) (hst : st0 = As.reverse ++ rest) (hsize : ls.size = nL) (h8 : (rest.map fun v => v.category).sum ≤ 8) (hR : rm.frames + 1 ≤ R.frames ∧ 8 + (n + 11) + rm.locals ≤ R.locals) (hdg : decode cc pc = .ok (.invokestatic index, 3)) (hf : cells + rm.cells ≤ R.cells ∧ slots + rm.slots ≤ R.slots)
    (kx : ∀ (X : String) (ce : Cell) (q9 : Addr) (H1 : Heap) (locs1 : List Loc), px X H1 → va_S (xA base) s.heap H1 locs1 → H1[q9]? = some ce → ce.vm = .none → s.vm.findClass X = some ce.cls → vx_W p l e R s m args below meth c H1 locs1 (cells + rm.cells) (slots + rm.slots) Q (F0 m pc ls rest) q9)
    (kk : ∀ (r : Option Value) (H1 : Heap) (locs1 : List Loc), post r H1 → va_S (xA base) s.heap H1 locs1 → W p l e R s m args below meth c H1 locs1 (cells + rm.cells) (slots + rm.slots) Q (F0 m (pc + 3) ls (r.toList ++ rest))) : W p l e R s m args below meth c H locs cells slots Q (F0 m pc ls st0) := by
  refine x_contX (vx_runS (As := As) (rest := rest) (n := k) C.fix hM ⟨⟨rfl, rfl, hR.1, hR.2, pay_in C.ws (ws_self y b n ry hy.1), List.mem_cons_self, C.ws _ hy.1, C.ws _ hy.2.1, ⟨hy.2.2.1, hy.2.2.2.1⟩, fun sig h => ?_, C.ws _ hl⟩, C.ws _ hstt⟩ ⟨xPc_blind E base _ P, fun U hU hW => ⟨rfl, C.at hS hU hW, by rw [hU]; exact hP⟩⟩ rfl hk hsize hst (lv_room h8) hdg hf) hS kx kk
  have h2 := hy.2.2.2.2
  rw [h] at h2
  exact (Option.some.inj h2).symm
end XR3
/-! entering -/
theorem xMet.of {l : Launch} {y : MethodName} {cc : ByteArray} {n : Nat} {ret : Option FieldType} {rm : Room} {E : xE} {base : Nat} {As : List Value} {P : Heap → Prop} {post : Option Value → Heap → Prop} (hy : plainName y.cls = true) (own : String) (ho : y.cls = own) (hn : (lg_sl As).length ≤ n)
    (body : ∀ (p : Program) (e : Env) (s : State) (m : MethodId) (below : List Frame) (meth : Method) (c : Code) (ls : Array Slot), XC p s m As.toArray meth c own cc n ret E base → meth.name = y.name → P s.heap → va_S (xA base) s.heap s.heap [] → lv_has ls n (lv_args 0 As) →
      W p l e rm s m As.toArray below meth c s.heap [] 0 0 (MQ below (xQ base post) As.toArray s rm.cells rm.slots (xA base)) (F0 m 0 ls [])) : xMet l y cc n ret rm E base As P post := by
  refine Met.ofW (cc := cc) (maxL := n) (ret := ret) hy rfl ?_
  intro p e s m args below meth c s₁ B hml hv
  obtain ⟨rfl, hst, hP⟩ := hv
  have hts := atoms_spec (ws := .code y cc n ret :: WS) B.pre
  have hown : s.vm.findClass y.cls = some m.cls := findClass_of_methodNamed B.named
  rw [ho] at hown
  rw [lg_entry_eq]
  exact body p e s m below meth c _ ⟨B.exec, B.bytes, hml, hown, fun w hw => hts w (List.mem_cons_of_mem _ hw), B.notSynchronized, B.returns, hst⟩ (name_of_methodNamed B.named B.method).1 hP va_S.rf (lv_entry As (n := n) hn)
theorem xMetX.of {l : Launch} {y : MethodName} {cc : ByteArray} {n : Nat} {ret : Option FieldType} {rm : Room} {E : xE} {base : Nat} {As : List Value} {P : Heap → Prop} {post : Option Value → Heap → Prop} {px : String → Heap → Prop} (hy : plainName y.cls = true) (own : String) (ho : y.cls = own) (hn : (lg_sl As).length ≤ n)
    (body : ∀ (p : Program) (e : Env) (s : State) (m : MethodId) (below : List Frame) (meth : Method) (c : Code) (ls : Array Slot), XC p s m As.toArray meth c own cc n ret E base → (∀ x ∈ c.exceptionTable.toList, False) → P s.heap → va_S (xA base) s.heap s.heap [] → lv_has ls n (lv_args 0 As) →
      W p l e rm s m As.toArray below meth c s.heap [] 0 0 (vx_MQ below (xQ base post) (xX base px) As.toArray s rm.cells rm.slots (xA base)) (F0 m 0 ls [])) : xMetX l y cc n ret rm E base As P post px := by
  refine vx_ofW (cc := cc) (maxL := n) (ret := ret) hy rfl ?_
  intro p e s m args below meth c s₁ B hml het hv
  obtain ⟨rfl, hst, hP⟩ := hv
  have hts := atoms_spec (ws := .code y cc n ret :: WS) B.pre
  have hown : s.vm.findClass y.cls = some m.cls := findClass_of_methodNamed B.named
  rw [ho] at hown
  rw [lg_entry_eq]
  exact body p e s m below meth c _ ⟨B.exec, B.bytes, hml, hown, fun w hw => hts w (List.mem_cons_of_mem _ hw), B.notSynchronized, B.returns, hst⟩ het hP va_S.rf (lv_entry As (n := n) hn)
end
section
theorem kX0_init : xY yX0_init cX0_init 6 none 5 := ⟨qw_541, qw_23, by decide +kernel, by decide +kernel, by decide +kernel⟩
theorem kX0_standsFor : xY yX0_standsFor cX0_standsFor 2 (some (.boolean)) 1 := ⟨qw_336, qw_23, by decide +kernel, by decide +kernel, by decide +kernel⟩
theorem kX0_tell : xY yX0_tell cX0_tell 2 (some (.int)) 1 := ⟨qw_583, qw_23, by decide +kernel, by decide +kernel, by decide +kernel⟩
theorem kX1_init : xY yX1_init cX1_init 2 none 1 := ⟨qw_211, qw_13, by decide +kernel, by decide +kernel, by decide +kernel⟩
theorem kX1_isClosedIn : xY yX1_isClosedIn cX1_isClosedIn 2 (some (.boolean)) 1 := ⟨qw_503, qw_13, by decide +kernel, by decide +kernel, by decide +kernel⟩
theorem kX2_init : xY yX2_init cX2_init 1 none 0 := ⟨qw_63, qw_5, by decide +kernel, by decide +kernel, by decide +kernel⟩
theorem kX2_forget : xY yX2_forget cX2_forget 2 none 0 := ⟨qw_351, qw_5, by decide +kernel, by decide +kernel, by decide +kernel⟩
theorem kX2_learn : xY yX2_learn cX2_learn 4 none 1 := ⟨qw_362, qw_5, by decide +kernel, by decide +kernel, by decide +kernel⟩
theorem kX2_learnFrom : xY yX2_learnFrom cX2_learnFrom 3 none 1 := ⟨qw_659, qw_5, by decide +kernel, by decide +kernel, by decide +kernel⟩
theorem kX2_knows : xY yX2_knows cX2_knows 4 (some (.boolean)) 1 := ⟨qw_520, qw_5, by decide +kernel, by decide +kernel, by decide +kernel⟩
theorem kX2_wouldReach : xY yX2_wouldReach cX2_wouldReach 3 (some (.boolean)) 2 := ⟨qw_516, qw_5, by decide +kernel, by decide +kernel, by decide +kernel⟩
theorem kX3_init : xY yX3_init cX3_init 1 none 0 := ⟨qw_78, qw_6, by decide +kernel, by decide +kernel, by decide +kernel⟩
theorem kX3_begin : xY yX3_begin cX3_begin 3 none 1 := ⟨qw_605, qw_6, by decide +kernel, by decide +kernel, by decide +kernel⟩
theorem kX3_add : xY yX3_add cX3_add 4 none 1 := ⟨qw_612, qw_6, by decide +kernel, by decide +kernel, by decide +kernel⟩
theorem kX3_sets : xY yX3_sets cX3_sets 3 (some (.int)) 0 := ⟨qw_626, qw_6, by decide +kernel, by decide +kernel, by decide +kernel⟩
theorem kX3_isMarked : xY yX3_isMarked cX3_isMarked 3 (some (.boolean)) 1 := ⟨qw_616, qw_6, by decide +kernel, by decide +kernel, by decide +kernel⟩
theorem kX3_crossed : xY yX3_crossed cX3_crossed 7 (some (.long)) 2 := ⟨qw_619, qw_6, by decide +kernel, by decide +kernel, by decide +kernel⟩
theorem kX4_init : xY yX4_init cX4_init 4 none 2 := ⟨qw_375, qw_21, by decide +kernel, by decide +kernel, by decide +kernel⟩
theorem kX4_rightFor : xY yX4_rightFor cX4_rightFor 2 (some ((.object "Dataroom$Right"))) 1 := ⟨qw_451, qw_21, by decide +kernel, by decide +kernel, by decide +kernel⟩
theorem kX4_setRight : xY yX4_setRight cX4_setRight 3 none 2 := ⟨qw_440, qw_21, by decide +kernel, by decide +kernel, by decide +kernel⟩
theorem kX4_rightIn : xY yX4_rightIn cX4_rightIn 4 (some (.int)) 2 := ⟨qw_490, qw_21, by decide +kernel, by decide +kernel, by decide +kernel⟩
theorem kX4_countQuestion : xY yX4_countQuestion cX4_countQuestion 3 none 1 := ⟨qw_533, qw_21, by decide +kernel, by decide +kernel, by decide +kernel⟩
theorem kX4_questions : xY yX4_questions cX4_questions 2 (some (.int)) 1 := ⟨qw_689, qw_21, by decide +kernel, by decide +kernel, by decide +kernel⟩
theorem kX4_learn : xY yX4_learn cX4_learn 4 none 2 := ⟨qw_355, qw_21, by decide +kernel, by decide +kernel, by decide +kernel⟩
theorem kX4_forget : xY yX4_forget cX4_forget 2 none 0 := ⟨qw_347, qw_21, by decide +kernel, by decide +kernel, by decide +kernel⟩
theorem kX4_learnedInAll : xY yX4_learnedInAll cX4_learnedInAll 3 (some (.int)) 0 := ⟨qw_524, qw_21, by decide +kernel, by decide +kernel, by decide +kernel⟩
theorem kX4_costOf : xY yX4_costOf cX4_costOf 5 (some (.int)) 2 := ⟨qw_528, qw_21, by decide +kernel, by decide +kernel, by decide +kernel⟩
theorem kX4_wouldFindUnread : xY yX4_wouldFindUnread cX4_wouldFindUnread 5 (some (.boolean)) 3 := ⟨qw_507, qw_21, by decide +kernel, by decide +kernel, by decide +kernel⟩
theorem kX4_wouldFind : xY yX4_wouldFind cX4_wouldFind 5 (some (.boolean)) 3 := ⟨qw_512, qw_21, by decide +kernel, by decide +kernel, by decide +kernel⟩
theorem kX5_init : xY yX5_init cX5_init 4 none 3 := ⟨qw_425, qw_22, by decide +kernel, by decide +kernel, by decide +kernel⟩
theorem kX5_in : xY yX5_in cX5_in 2 (some (.int)) 1 := ⟨qw_495, qw_22, by decide +kernel, by decide +kernel, by decide +kernel⟩
theorem kX6_init : xY yX6_init cX6_init 1 none 0 := ⟨qw_29, qw_1, by decide +kernel, by decide +kernel, by decide +kernel⟩
theorem kX6_file : xY yX6_file cX6_file 2 (some (.int)) 1 := ⟨qw_115, qw_1, by decide +kernel, by decide +kernel, by decide +kernel⟩
theorem kX6_change : xY yX6_change cX6_change 6 (some (.int)) 2 := ⟨qw_288, qw_1, by decide +kernel, by decide +kernel, by decide +kernel⟩
theorem kX6_party : xY yX6_party cX6_party 3 (some (.int)) 1 := ⟨qw_370, qw_1, by decide +kernel, by decide +kernel, by decide +kernel⟩
theorem kX6_budget : xY yX6_budget cX6_budget 5 (some (.int)) 2 := ⟨qw_408, qw_1, by decide +kernel, by decide +kernel, by decide +kernel⟩
theorem kX6_right : xY yX6_right cX6_right 7 none 5 := ⟨qw_420, qw_1, by decide +kernel, by decide +kernel, by decide +kernel⟩
theorem kX6_takeBack : xY yX6_takeBack cX6_takeBack 4 (some (.int)) 2 := ⟨qw_447, qw_1, by decide +kernel, by decide +kernel, by decide +kernel⟩
theorem kX6_seal : xY yX6_seal cX6_seal 4 none 2 := ⟨qw_458, qw_1, by decide +kernel, by decide +kernel, by decide +kernel⟩
theorem kX6_pass : xY yX6_pass cX6_pass 2 (some (.int)) 1 := ⟨qw_465, qw_1, by decide +kernel, by decide +kernel, by decide +kernel⟩
theorem kX6_ask : xY yX6_ask cX6_ask 7 (some (.int)) 3 := ⟨qw_473, qw_1, by decide +kernel, by decide +kernel, by decide +kernel⟩
theorem kX6_cost : xY yX6_cost cX6_cost 5 (some (.int)) 3 := ⟨qw_571, qw_1, by decide +kernel, by decide +kernel, by decide +kernel⟩
theorem kX6_answer : xY yX6_answer cX6_answer 3 (some (.int)) 2 := ⟨qw_578, qw_1, by decide +kernel, by decide +kernel, by decide +kernel⟩
theorem kX6_spent : xY yX6_spent cX6_spent 2 (some (.int)) 1 := ⟨qw_590, qw_1, by decide +kernel, by decide +kernel, by decide +kernel⟩
theorem kX6_spentAnew : xY yX6_spentAnew cX6_spentAnew 5 (some (.int)) 1 := ⟨qw_597, qw_1, by decide +kernel, by decide +kernel, by decide +kernel⟩
theorem kX6_finds : xY yX6_finds cX6_finds 6 (some (.int)) 2 := ⟨qw_642, qw_1, by decide +kernel, by decide +kernel, by decide +kernel⟩
theorem kX6_together : xY yX6_together cX6_together 5 (some (.int)) 2 := ⟨qw_650, qw_1, by decide +kernel, by decide +kernel, by decide +kernel⟩
theorem kX6_rightTo : xY yX6_rightTo cX6_rightTo 4 (some (.int)) 2 := ⟨qw_667, qw_1, by decide +kernel, by decide +kernel, by decide +kernel⟩
theorem kX6_isSealed : xY yX6_isSealed cX6_isSealed 2 (some (.boolean)) 1 := ⟨qw_674, qw_1, by decide +kernel, by decide +kernel, by decide +kernel⟩
theorem kX6_count : xY yX6_count cX6_count 4 (some (.int)) 2 := ⟨qw_681, qw_1, by decide +kernel, by decide +kernel, by decide +kernel⟩
theorem kX6_partyAt : xY yX6_partyAt cX6_partyAt 2 (some ((.object "Dataroom$Party"))) 1 := ⟨qw_412, qw_1, by decide +kernel, by decide +kernel, by decide +kernel⟩
theorem kX6_fileAt : xY yX6_fileAt cX6_fileAt 2 (some ((.object "Dataroom$Card"))) 1 := ⟨qw_292, qw_1, by decide +kernel, by decide +kernel, by decide +kernel⟩
theorem kX6_requireFile : xY yX6_requireFile cX6_requireFile 2 none 1 := ⟨qw_296, qw_1, by decide +kernel, by decide +kernel, by decide +kernel⟩
theorem kX6_requireRange : xY yX6_requireRange cX6_requireRange 3 none 3 := ⟨qw_118, qw_1, by decide +kernel, by decide +kernel, by decide +kernel⟩
theorem kX6_requireQuestion : xY yX6_requireQuestion cX6_requireQuestion 3 none 2 := ⟨qw_477, qw_1, by decide +kernel, by decide +kernel, by decide +kernel⟩
theorem kX6_holds : xY yX6_holds cX6_holds 2 (some (.boolean)) 2 := ⟨qw_339, qw_1, by decide +kernel, by decide +kernel, by decide +kernel⟩
theorem kX6_covers : xY yX6_covers cX6_covers 2 (some (.boolean)) 2 := ⟨qw_358, qw_1, by decide +kernel, by decide +kernel, by decide +kernel⟩
theorem kX6_refusalOf : xY yX6_refusalOf cX6_refusalOf 4 (some (.int)) 3 := ⟨qw_482, qw_1, by decide +kernel, by decide +kernel, by decide +kernel⟩
theorem kX6_lacksRight : xY yX6_lacksRight cX6_lacksRight 4 (some (.boolean)) 2 := ⟨qw_486, qw_1, by decide +kernel, by decide +kernel, by decide +kernel⟩
theorem kX6_hasSealed : xY yX6_hasSealed cX6_hasSealed 3 (some (.boolean)) 1 := ⟨qw_499, qw_1, by decide +kernel, by decide +kernel, by decide +kernel⟩
theorem kX6_sumOf : xY yX6_sumOf cX6_sumOf 5 (some (.int)) 2 := ⟨qw_537, qw_1, by decide +kernel, by decide +kernel, by decide +kernel⟩
theorem kX6_recall : xY yX6_recall cX6_recall 6 (some (.int)) 2 := ⟨qw_331, qw_1, by decide +kernel, by decide +kernel, by decide +kernel⟩
theorem kX6_learnAnew : xY yX6_learnAnew cX6_learnAnew 4 none 1 := ⟨qw_343, qw_1, by decide +kernel, by decide +kernel, by decide +kernel⟩
theorem kX6_countStanding : xY yX6_countStanding cX6_countStanding 4 (some (.int)) 1 := ⟨qw_685, qw_1, by decide +kernel, by decide +kernel, by decide +kernel⟩
theorem kX6_countKnownSets : xY yX6_countKnownSets cX6_countKnownSets 5 (some (.int)) 2 := ⟨qw_601, qw_1, by decide +kernel, by decide +kernel, by decide +kernel⟩
theorem kX6_generatorsOf : xY yX6_generatorsOf cX6_generatorsOf 3 (some (.int)) 1 := ⟨qw_635, qw_1, by decide +kernel, by decide +kernel, by decide +kernel⟩
theorem kX6_shareKnowledge : xY yX6_shareKnowledge cX6_shareKnowledge 5 none 2 := ⟨qw_654, qw_1, by decide +kernel, by decide +kernel, by decide +kernel⟩
theorem kX7_init : xY yX7_init cX7_init 1 none 0 := ⟨qw_694, qw_7, by decide +kernel, by decide +kernel, by decide +kernel⟩
theorem kX7_thrown : xY yX7_thrown cX7_thrown 1 (some (.int)) 0 := ⟨qw_758, qw_7, by decide +kernel, by decide +kernel, by decide +kernel⟩
theorem kX7_goesWell : xY yX7_goesWell cX7_goesWell 2 (some (.boolean)) 1 := ⟨qw_769, qw_7, by decide +kernel, by decide +kernel, by decide +kernel⟩
theorem kX7_in : xY yX7_in cX7_in 3 (some (.boolean)) 3 := ⟨qw_765, qw_7, by decide +kernel, by decide +kernel, by decide +kernel⟩
theorem kX7_isFile : xY yX7_isFile cX7_isFile 2 (some (.boolean)) 1 := ⟨qw_777, qw_7, by decide +kernel, by decide +kernel, by decide +kernel⟩
theorem kX7_isParty : xY yX7_isParty cX7_isParty 2 (some (.boolean)) 1 := ⟨qw_793, qw_7, by decide +kernel, by decide +kernel, by decide +kernel⟩
theorem kX7_file : xY yX7_file cX7_file 3 (some (.int)) 1 := ⟨qw_762, qw_7, by decide +kernel, by decide +kernel, by decide +kernel⟩
theorem kX7_recall : xY yX7_recall cX7_recall 6 (some (.int)) 2 := ⟨qw_781, qw_7, by decide +kernel, by decide +kernel, by decide +kernel⟩
theorem kX7_change : xY yX7_change cX7_change 4 (some (.int)) 2 := ⟨qw_773, qw_7, by decide +kernel, by decide +kernel, by decide +kernel⟩
theorem kX7_party : xY yX7_party cX7_party 3 (some (.int)) 1 := ⟨qw_785, qw_7, by decide +kernel, by decide +kernel, by decide +kernel⟩
theorem kX7_budget : xY yX7_budget cX7_budget 5 (some (.int)) 2 := ⟨qw_789, qw_7, by decide +kernel, by decide +kernel, by decide +kernel⟩
theorem kX7_right : xY yX7_right cX7_right 8 none 5 := ⟨qw_797, qw_7, by decide +kernel, by decide +kernel, by decide +kernel⟩
theorem kX7_takeBack : xY yX7_takeBack cX7_takeBack 4 (some (.int)) 2 := ⟨qw_801, qw_7, by decide +kernel, by decide +kernel, by decide +kernel⟩
theorem kX7_seal : xY yX7_seal cX7_seal 4 none 2 := ⟨qw_805, qw_7, by decide +kernel, by decide +kernel, by decide +kernel⟩
theorem kX7_pass : xY yX7_pass cX7_pass 3 (some (.int)) 1 := ⟨qw_809, qw_7, by decide +kernel, by decide +kernel, by decide +kernel⟩
theorem kX7_rightOf : xY yX7_rightOf cX7_rightOf 4 (some (.int)) 2 := ⟨qw_825, qw_7, by decide +kernel, by decide +kernel, by decide +kernel⟩
theorem kX7_reduce : xY yX7_reduce cX7_reduce 4 (some (.int)) 1 := ⟨qw_844, qw_7, by decide +kernel, by decide +kernel, by decide +kernel⟩
theorem kX7_highest : xY yX7_highest cX7_highest 3 (some (.int)) 1 := ⟨qw_847, qw_7, by decide +kernel, by decide +kernel, by decide +kernel⟩
theorem kX7_learn : xY yX7_learn cX7_learn 3 (some (.boolean)) 1 := ⟨qw_840, qw_7, by decide +kernel, by decide +kernel, by decide +kernel⟩
theorem kX7_know : xY yX7_know cX7_know 6 (some (.int)) 2 := ⟨qw_836, qw_7, by decide +kernel, by decide +kernel, by decide +kernel⟩
theorem kX7_spentBy : xY yX7_spentBy cX7_spentBy 4 (some (.int)) 1 := ⟨qw_855, qw_7, by decide +kernel, by decide +kernel, by decide +kernel⟩
theorem kX7_found : xY yX7_found cX7_found 3 (some (.int)) 0 := ⟨qw_851, qw_7, by decide +kernel, by decide +kernel, by decide +kernel⟩
theorem kX7_isAsked : xY yX7_isAsked cX7_isAsked 2 (some (.boolean)) 2 := ⟨qw_832, qw_7, by decide +kernel, by decide +kernel, by decide +kernel⟩
theorem kX7_costOf : xY yX7_costOf cX7_costOf 6 (some (.int)) 3 := ⟨qw_859, qw_7, by decide +kernel, by decide +kernel, by decide +kernel⟩
theorem kX7_wouldTell : xY yX7_wouldTell cX7_wouldTell 9 (some (.boolean)) 3 := ⟨qw_829, qw_7, by decide +kernel, by decide +kernel, by decide +kernel⟩
theorem kX7_refusal : xY yX7_refusal cX7_refusal 7 (some (.int)) 3 := ⟨qw_821, qw_7, by decide +kernel, by decide +kernel, by decide +kernel⟩
theorem kX7_isQuestion : xY yX7_isQuestion cX7_isQuestion 3 (some (.boolean)) 2 := ⟨qw_817, qw_7, by decide +kernel, by decide +kernel, by decide +kernel⟩
theorem kX7_ask : xY yX7_ask cX7_ask 8 (some (.int)) 3 := ⟨qw_813, qw_7, by decide +kernel, by decide +kernel, by decide +kernel⟩
theorem kX7_cost : xY yX7_cost cX7_cost 5 (some (.int)) 3 := ⟨qw_863, qw_7, by decide +kernel, by decide +kernel, by decide +kernel⟩
theorem kX7_answer : xY yX7_answer cX7_answer 4 (some (.int)) 2 := ⟨qw_867, qw_7, by decide +kernel, by decide +kernel, by decide +kernel⟩
theorem kX7_spent : xY yX7_spent cX7_spent 2 (some (.int)) 1 := ⟨qw_871, qw_7, by decide +kernel, by decide +kernel, by decide +kernel⟩
theorem kX7_spentAnew : xY yX7_spentAnew cX7_spentAnew 2 (some (.int)) 1 := ⟨qw_875, qw_7, by decide +kernel, by decide +kernel, by decide +kernel⟩
theorem kX7_findsBy : xY yX7_findsBy cX7_findsBy 5 (some (.int)) 2 := ⟨qw_883, qw_7, by decide +kernel, by decide +kernel, by decide +kernel⟩
theorem kX7_finds : xY yX7_finds cX7_finds 3 (some (.int)) 2 := ⟨qw_879, qw_7, by decide +kernel, by decide +kernel, by decide +kernel⟩
theorem kX7_together : xY yX7_together cX7_together 4 (some (.int)) 2 := ⟨qw_887, qw_7, by decide +kernel, by decide +kernel, by decide +kernel⟩
theorem kX7_rightTo : xY yX7_rightTo cX7_rightTo 3 (some (.int)) 2 := ⟨qw_891, qw_7, by decide +kernel, by decide +kernel, by decide +kernel⟩
theorem kX7_isSealed : xY yX7_isSealed cX7_isSealed 2 (some (.boolean)) 1 := ⟨qw_895, qw_7, by decide +kernel, by decide +kernel, by decide +kernel⟩
theorem kX7_count : xY yX7_count cX7_count 6 (some (.int)) 2 := ⟨qw_899, qw_7, by decide +kernel, by decide +kernel, by decide +kernel⟩
theorem kJ13_bitCount_95d88 : xY yJ13_bitCount_95d88 cJ13_bitCount_95d88 2 (some (.int)) 1 := ⟨qw_629, qw_24, by decide +kernel, by decide +kernel, by decide +kernel⟩
theorem kJ9_max_7cf53 : xY yJ9_max_7cf53 cJ9_max_7cf53 2 (some (.int)) 2 := ⟨qw_243, qw_15, by decide +kernel, by decide +kernel, by decide +kernel⟩
theorem kJ9_min_7cf53 : xY yJ9_min_7cf53 cJ9_min_7cf53 2 (some (.int)) 2 := ⟨qw_275, qw_15, by decide +kernel, by decide +kernel, by decide +kernel⟩
theorem kJxa1e45_init_da8c8 : xY yJxa1e45_init_da8c8 cJxa1e45_init_da8c8 1 none 0 := ⟨qw_43, qw_2, by decide +kernel, by decide +kernel, by decide +kernel⟩
theorem kJxc12de_init_da8c8 : xY yJxc12de_init_da8c8 cJxc12de_init_da8c8 1 none 0 := ⟨qw_40, qw_3, by decide +kernel, by decide +kernel, by decide +kernel⟩
theorem kJx4a65c_init_da8c8 : xY yJx4a65c_init_da8c8 cJx4a65c_init_da8c8 1 none 0 := ⟨qw_37, qw_4, by decide +kernel, by decide +kernel, by decide +kernel⟩
theorem kJx4a65c_grow_92f84 : xY yJx4a65c_grow_92f84 cJx4a65c_grow_92f84 4 (some ((.array (.object "java/lang/Object")))) 1 := ⟨qw_237, qw_4, by decide +kernel, by decide +kernel, by decide +kernel⟩
theorem kJx4a65c_grow_d5877 : xY yJx4a65c_grow_d5877 cJx4a65c_grow_d5877 1 (some ((.array (.object "java/lang/Object")))) 0 := ⟨qw_233, qw_4, by decide +kernel, by decide +kernel, by decide +kernel⟩
theorem kJx4a65c_size_8abf5 : xY yJx4a65c_size_8abf5 cJx4a65c_size_8abf5 1 (some (.int)) 0 := ⟨qw_190, qw_4, by decide +kernel, by decide +kernel, by decide +kernel⟩
theorem kJx4a65c_elementData_915e3 : xY yJx4a65c_elementData_915e3 cJx4a65c_elementData_915e3 2 (some ((.object "java/lang/Object"))) 1 := ⟨qw_326, qw_4, by decide +kernel, by decide +kernel, by decide +kernel⟩
theorem kJx4a65c_get_915e3 : xY yJx4a65c_get_915e3 cJx4a65c_get_915e3 2 (some ((.object "java/lang/Object"))) 1 := ⟨qw_316, qw_4, by decide +kernel, by decide +kernel, by decide +kernel⟩
theorem kJx4a65c_add_72be8 : xY yJx4a65c_add_72be8 cJx4a65c_add_72be8 4 none 3 := ⟨qw_229, qw_4, by decide +kernel, by decide +kernel, by decide +kernel⟩
theorem kJx4a65c_add_9ea2d : xY yJx4a65c_add_9ea2d cJx4a65c_add_9ea2d 2 (some (.boolean)) 1 := ⟨qw_225, qw_4, by decide +kernel, by decide +kernel, by decide +kernel⟩
theorem kJ7_copyOf_1904c : xY yJ7_copyOf_1904c cJ7_copyOf_1904c 2 (some ((.array (.object "java/lang/Object")))) 2 := ⟨qw_250, qw_16, by decide +kernel, by decide +kernel, by decide +kernel⟩
theorem kJ7_copyOf_6403c : xY yJ7_copyOf_6403c cJ7_copyOf_6403c 4 (some ((.array (.object "java/lang/Object")))) 3 := ⟨qw_269, qw_16, by decide +kernel, by decide +kernel, by decide +kernel⟩
theorem kJ15_checkIndex_7cf53 : xY yJ15_checkIndex_7cf53 cJ15_checkIndex_7cf53 2 (some (.int)) 2 := ⟨qw_319, qw_19, by decide +kernel, by decide +kernel, by decide +kernel⟩
theorem kJ8_newLength_cabcc : xY yJ8_newLength_cabcc cJ8_newLength_cabcc 4 (some (.int)) 3 := ⟨qw_240, qw_14, by decide +kernel, by decide +kernel, by decide +kernel⟩
theorem kJ8_hugeLength_7cf53 : xY yJ8_hugeLength_7cf53 cJ8_hugeLength_7cf53 3 (some (.int)) 2 := ⟨qw_247, qw_14, by decide +kernel, by decide +kernel, by decide +kernel⟩
theorem kJ3_checkIndex_8e157 : xY yJ3_checkIndex_8e157 cJ3_checkIndex_8e157 3 (some (.int)) 3 := ⟨qw_322, qw_20, by decide +kernel, by decide +kernel, by decide +kernel⟩
theorem iWX0 : ∀ w ∈ u_ws RX0 TX0 6, w ∈ WS := List.forall_mem_cons.mpr ⟨qw_552, List.forall_mem_cons.mpr ⟨qw_554, List.forall_mem_cons.mpr ⟨qw_556, List.forall_mem_cons.mpr ⟨qw_558, List.forall_mem_cons.mpr ⟨qw_560, List.forall_mem_cons.mpr ⟨qw_562, fun _ h => nomatch h⟩⟩⟩⟩⟩⟩
theorem iWX1 : ∀ w ∈ u_ws RX1 TX1 2, w ∈ WS := List.forall_mem_cons.mpr ⟨qw_217, List.forall_mem_cons.mpr ⟨qw_219, fun _ h => nomatch h⟩⟩
theorem iWX2 : ∀ w ∈ u_ws RX2 TX2 2, w ∈ WS := List.forall_mem_cons.mpr ⟨qw_68, List.forall_mem_cons.mpr ⟨qw_70, fun _ h => nomatch h⟩⟩
theorem iWX3 : ∀ w ∈ u_ws RX3 TX3 2, w ∈ WS := List.forall_mem_cons.mpr ⟨qw_82, List.forall_mem_cons.mpr ⟨qw_84, fun _ h => nomatch h⟩⟩
theorem iWX4 : ∀ w ∈ u_ws RX4 TX4 5, w ∈ WS := List.forall_mem_cons.mpr ⟨qw_391, List.forall_mem_cons.mpr ⟨qw_393, List.forall_mem_cons.mpr ⟨qw_395, List.forall_mem_cons.mpr ⟨qw_397, List.forall_mem_cons.mpr ⟨qw_399, fun _ h => nomatch h⟩⟩⟩⟩⟩
theorem iWX5 : ∀ w ∈ u_ws RX5 TX5 3, w ∈ WS := List.forall_mem_cons.mpr ⟨qw_430, List.forall_mem_cons.mpr ⟨qw_432, List.forall_mem_cons.mpr ⟨qw_434, fun _ h => nomatch h⟩⟩⟩
theorem iWX6 : ∀ w ∈ u_ws RX6 TX6 6, w ∈ WS := List.forall_mem_cons.mpr ⟨qw_94, List.forall_mem_cons.mpr ⟨qw_96, List.forall_mem_cons.mpr ⟨qw_98, List.forall_mem_cons.mpr ⟨qw_100, List.forall_mem_cons.mpr ⟨qw_102, List.forall_mem_cons.mpr ⟨qw_104, fun _ h => nomatch h⟩⟩⟩⟩⟩⟩
theorem iWX7 : ∀ w ∈ u_ws RX7 TX7 19, w ∈ WS := List.forall_mem_cons.mpr ⟨qw_715, List.forall_mem_cons.mpr ⟨qw_717, List.forall_mem_cons.mpr ⟨qw_719, List.forall_mem_cons.mpr ⟨qw_721, List.forall_mem_cons.mpr ⟨qw_723, List.forall_mem_cons.mpr ⟨qw_725, List.forall_mem_cons.mpr ⟨qw_727, List.forall_mem_cons.mpr ⟨qw_729, List.forall_mem_cons.mpr ⟨qw_731, List.forall_mem_cons.mpr ⟨qw_733, List.forall_mem_cons.mpr ⟨qw_735, List.forall_mem_cons.mpr ⟨qw_737, List.forall_mem_cons.mpr ⟨qw_739, List.forall_mem_cons.mpr ⟨qw_741, List.forall_mem_cons.mpr ⟨qw_743, List.forall_mem_cons.mpr ⟨qw_745, List.forall_mem_cons.mpr ⟨qw_747, List.forall_mem_cons.mpr ⟨qw_749, List.forall_mem_cons.mpr ⟨qw_751, fun _ h => nomatch h⟩⟩⟩⟩⟩⟩⟩⟩⟩⟩⟩⟩⟩⟩⟩⟩⟩⟩⟩
theorem iWJx4a65c : ∀ w ∈ u_ws RJx4a65c TJx4a65c 3, w ∈ WS := List.forall_mem_cons.mpr ⟨qw_56, List.forall_mem_cons.mpr ⟨qw_52, List.forall_mem_cons.mpr ⟨qw_54, fun _ h => nomatch h⟩⟩⟩
end
section
/-! whole numbers, truth values, bits, loops (the b_ rows are the kit's, out of laws/BITS) -/
def bt (x : Int32) (i : Nat) : Bool := x.toBitVec.getLsbD i
theorem b_ext {x y : Int32} (h : ∀ i, i < 32 → bt x i = bt y i) : x = y := Int32.toBitVec_inj.mp (BitVec.eq_of_getLsbD_eq (fun i hi => h i hi))
theorem b_or (x y : Int32) (i : Nat) : bt (x ||| y) i = (bt x i || bt y i) := by unfold bt; rw [Int32.toBitVec_or, BitVec.getLsbD_or]
theorem b_and (x y : Int32) (i : Nat) : bt (x &&& y) i = (bt x i && bt y i) := by unfold bt; rw [Int32.toBitVec_and, BitVec.getLsbD_and]
theorem b_xor (x y : Int32) (i : Nat) : bt (x ^^^ y) i = (bt x i ^^ bt y i) := by unfold bt; rw [Int32.toBitVec_xor, BitVec.getLsbD_xor]
theorem b_big {x : Int32} {i : Nat} (h : 32 ≤ i) : bt x i = false := BitVec.getLsbD_of_ge _ _ h
theorem b_0 (i : Nat) : bt 0 i = false := BitVec.getLsbD_zero
theorem s_l : ∀ n, n < 32 → ((nI n &&& 31).toBitVec.smod 32).toNat = n := by decide +kernel
theorem b_shl (n : Nat) (hn : n < 32) (x : Int32) {i : Nat} (hi : i < 32) : bt (x <<< (nI n &&& 31)) i = (decide (n ≤ i) && bt x (i - n)) := by
  unfold bt
  rw [Int32.toBitVec_shiftLeft]
  show (x.toBitVec <<< ((nI n &&& 31).toBitVec.smod 32).toNat).getLsbD i = _
  rw [s_l n hn, BitVec.getLsbD_shiftLeft]
  rcases Nat.lt_or_ge i n with h | h
  · simp [h, Nat.not_le.mpr h]
  · simp [hi, h, Nat.not_lt.mpr h]
theorem b_sshr (n : Nat) (hn : n < 32) (x : Int32) {i : Nat} (hi : i < 32) : bt (x >>> (nI n &&& 31)) i = if n + i < 32 then bt x (n + i) else bt x 31 := by
  unfold bt
  rw [Int32.toBitVec_shiftRight]
  show (x.toBitVec.sshiftRight ((nI n &&& 31).toBitVec.smod 32).toNat).getLsbD i = _
  rw [s_l n hn, BitVec.getLsbD_sshiftRight, BitVec.msb_eq_getLsbD_last]
  simp [hi]
theorem nf_sh : ∀ l, l < 32 → ((1 : Int32) <<< (nI l &&& 31)).toBitVec = BitVec.twoPow 32 l := by decide +kernel
theorem b_1 (i : Nat) : bt (nI 1) i = decide (i = 0) := by
  rcases Nat.lt_or_ge i 32 with h | h
  · have : ∀ i, i < 32 → bt (nI 1) i = decide (i = 0) := by decide +kernel
    exact this i h
  · rw [b_big h]
    simp; omega
def ob (b : Bool) : Int32 := if b then 1 else 0
theorem ob_0 {b : Bool} : ob b = 0 ↔ b = false := by cases b <;> decide
theorem ob_n {b : Bool} : ¬ ob b = 0 ↔ b = true := by cases b <;> decide
theorem ob_1 {b : Bool} : ob b = nI 1 ↔ b = true := by cases b <;> decide
theorem ob_n1 {b : Bool} : ¬ ob b = nI 1 ↔ b = false := by cases b <;> decide
theorem ob_01 (b : Bool) : ob b = 0 ∨ ob b = 1 := by cases b <;> decide
theorem ob_nar {b : Bool} : narrow .boolean (.int (ob b)) = .int (ob b) := by cases b <;> rfl
theorem ob_t : nI 1 = ob true := rfl
theorem ob_f : nI 0 = ob false := rfl
theorem hd_bt (x : Int32) {k : Nat} (hk : k < 32) : (x >>> (nI k &&& 31)) &&& nI 1 = ob (bt x k) := by
  apply b_ext
  intro i hi
  rw [b_and, b_sshr k hk x hi, b_1]
  rcases Nat.eq_zero_or_pos i with h | h
  · subst h
    simp only [Nat.add_zero, hk, if_true, decide_true, Bool.and_true]
    cases bt x k <;> decide +kernel
  · have hn : ¬ i = 0 := by omega
    rw [decide_eq_false hn, Bool.and_false]
    cases bt x k
    · exact (b_0 i).symm
    · show false = bt (nI 1) i
      rw [b_1, decide_eq_false hn]
def dI (j : Nat) : Int32 := nI j + (-1)
theorem dI_s (j : Nat) : dI (j + 1) = nI j := pk_m1 j
theorem dI_sub (j : Nat) : nI j - nI 1 = dI j := by
  unfold dI
  rw [Int32.sub_eq_add_neg]
  rfl
theorem dI_dec (j : Nat) : dI (j + 1) + Int32.ofInt (-1) = dI j := by
  rw [dI_s]; rfl
theorem dI_lt {j : Nat} (h : j < 2 ^ 31) : dI j < 0 ↔ j = 0 := by
  cases j with
  | zero => decide +kernel
  | succ j => rw [dI_s]; exact ⟨fun q => absurd q (nI_pos (by omega)), fun q => by cases q⟩
theorem dI_ge {j : Nat} (h : j < 2 ^ 31) : 0 ≤ dI j ↔ 0 < j := by
  cases j with
  | zero => decide +kernel
  | succ j => rw [dI_s]; exact ⟨fun _ => Nat.succ_pos j, fun _ => nI_pos' (by omega)⟩
theorem nI_eq0 {j : Nat} (h : j < 2 ^ 31) : nI j = 0 ↔ j = 0 := nI_eq (a := j) (b := 0) h (by decide)
theorem nI_le0 {j : Nat} (h : j < 2 ^ 31) : nI j ≤ 0 ↔ j = 0 := (nI_leI (a := j) (b := 0) h (by decide)).trans (by omega)
theorem nI_gt0 {j : Nat} (h : j < 2 ^ 31) : 0 < nI j ↔ 0 < j := nI_ltI (a := 0) (b := j) (by decide) h
theorem lp_up {P : Nat → Prop} {n : Nat} (h : ∀ i, i ≤ n → (i < n → P (i + 1)) → P i) : ∀ i, i ≤ n → P i := by
  have key : ∀ k i, i ≤ n → n - i = k → P i := by
    intro k
    induction k with
    | zero => intro i hi hk; exact h i hi (fun q => absurd q (by omega))
    | succ k ih => intro i hi hk; exact h i hi (fun q => ih (i + 1) q (by omega))
  exact fun i hi => key (n - i) i hi rfl
theorem lp_dn {P : Nat → Prop} (h0 : P 0) (h : ∀ j, P j → P (j + 1)) : ∀ j, P j := by
  intro j
  induction j with
  | zero => exact h0
  | succ j ih => exact h j ih
theorem tg_ne {w : Tg → Option va_E} {t t' : Tg} {e e' : va_E} (h : w t = some e) (h' : w t' = some e') (n : e ≠ e') : t ≠ t' := fun q => n (by subst q; exact Option.some.inj (h.symm.trans h'))
section LRE
variable {p : Program} {l : Launch} {e : Env} {R : Room} {s : State} {m : MethodId} {args : Array Value} {below : List Frame} {meth : Method} {c : Code} {H : Heap} {locs : List Loc} {cells slots : Nat} {Q : State → Prop} {pc : Nat} {ls : Array Slot} {rest : List Value}
theorem lv_re {x y : Int32} (h : x = y) (k : W p l e R s m args below meth c H locs cells slots Q (F0 m pc ls (.int y :: rest))) : W p l e R s m args below meth c H locs cells slots Q (F0 m pc ls (.int x :: rest)) := h ▸ k
theorem lv_rel {x y : Int64} (h : x = y) (k : W p l e R s m args below meth c H locs cells slots Q (F0 m pc ls (.long y :: rest))) : W p l e R s m args below meth c H locs cells slots Q (F0 m pc ls (.long x :: rest)) := h ▸ k
theorem lv_rev {x y : Value} (h : x = y) (k : W p l e R s m args below meth c H locs cells slots Q (F0 m pc ls (y :: rest))) : W p l e R s m args below meth c H locs cells slots Q (F0 m pc ls (x :: rest)) := h ▸ k
end LRE
/-- what is left of x by the rows f below n -/
def red (f : Nat → Int32) : Nat → Int32 → Int32
  | 0, x => x
  | n + 1, x => red f n (if bt x n then x ^^^ f n else x)
/-- the rows behind a learned set (not reduced to its end) -/
def lrF (f : Nat → Int32) : Nat → Int32 → (Nat → Int32)
  | 0, _ => f
  | n + 1, x => if bt x n then (if f n = 0 then upd f n x else lrF f n (x ^^^ f n)) else lrF f n x
/-- by how much the number of rows grows -/
def lrG (f : Nat → Int32) : Nat → Int32 → Nat
  | 0, _ => 0
  | n + 1, x => if bt x n then (if f n = 0 then 1 else lrG f n (x ^^^ f n)) else lrG f n x
section LAD
variable {p : Program} {l : Launch} {e : Env} {R : Room} {s : State} {m : MethodId} {args : Array Value} {below : List Frame} {meth : Method} {c : Code} {H : Heap} {locs : List Loc} {cells slots : Nat} {Q : State → Prop} {pc : Nat} {ls : Array Slot} {rest : List Value}
theorem lv_adr {a b : Nat} (h : a = b) (k : W p l e R s m args below meth c H locs cells slots Q (F0 m pc ls (.ref b :: rest))) : W p l e R s m args below meth c H locs cells slots Q (F0 m pc ls (.ref a :: rest)) := h ▸ k
theorem lv_adr2 {a b : Nat} {v : Value} (h : a = b) (k : W p l e R s m args below meth c H locs cells slots Q (F0 m pc ls (v :: .ref b :: rest))) : W p l e R s m args below meth c H locs cells slots Q (F0 m pc ls (v :: .ref a :: rest)) := h ▸ k
theorem lv_adr3 {a b : Nat} {v u : Value} (h : a = b) (k : W p l e R s m args below meth c H locs cells slots Q (F0 m pc ls (v :: u :: .ref b :: rest))) : W p l e R s m args below meth c H locs cells slots Q (F0 m pc ls (v :: u :: .ref a :: rest)) := h ▸ k
end LAD
end
section
def wre (f : Nat → Int32) (x z : Int32) : Bool := decide (red f 16 (x ^^^ z) = 0) && !decide (red f 16 x = 0)
def cov (x : Int32) (k : Nat) : Bool := decide (x = -1) || decide (x = nI k)
def fz (f : Nat → Int32) (i : Nat) : Nat → Int32 := fun j => if j < i then 0 else f j
theorem fz_0 (f : Nat → Int32) : fz f 0 = f := by funext j; simp [fz]
theorem fz_s (f : Nat → Int32) (i : Nat) : upd (fz f i) i (nI 0) = fz f (i + 1) := by
  funext j
  by_cases h : j = i
  · subst h; simp [upd, fz, nI_0]
  · by_cases k : j < i
    · simp [upd, fz, h, k, Nat.lt_succ_of_lt k]
    · have k2 : ¬ j < i + 1 := by omega
      simp [upd, fz, h, k, k2]
theorem fz_all (f : Nat → Int32) : fz f 16 = fun j => if j < 16 then 0 else f j := rfl
set_option maxHeartbeats 4000000 in
set_option maxRecDepth 100000 in
theorem c_holds (l : Launch) {E : xE} {base : Nat} {al : Tg → Nat} {w : Tg → Option va_E} {x : Int32} {k : Nat} (hk : k < 32) : xMet l yX6_holds cX6_holds 2 (some (.boolean)) ({ frames := 0, cells := 0, slots := 0, locals := 0 } : Room) E base [.int x, .int (nI k)] (fun H => xH E base al w H) (fun r H => r = some (.int (ob (bt x k))) ∧ xH E base al w H) := by
  refine xMet.of (by decide +kernel) "Dataroom" rfl (Nat.le_of_ble_eq_true rfl) ?_
  intro p9 e9 s m9 below meth c9 ls C hin hP hS hl
  have hx := C.hx
  have hb := C.hb
  have hH := hP
  have hl : lv_has ls 2 [(0, .int x), (1, .int (nI k))] := hl
  obtain ⟨post, hpost⟩ : ∃ zz9 : Option Value → Heap → Prop, zz9 = (fun r H => r = some (.int (ob (bt x k))) ∧ xH E base al w H) := ⟨_, rfl⟩
  rw [← hpost]
  generalize hQ : (MQ below (xQ base post) ([.int x, .int (nI k)] : List Value).toArray s 0 0 (xA base)) = Q
  refine lv_iload_n hx hb dX6_holds_0 rfl (lv_at hl 0 rfl) ?_
  refine lv_iload_n hx hb dX6_holds_1 rfl (lv_at hl 1 rfl) ?_
  refine lv_ishr hx hb dX6_holds_2 ?_
  refine lv_iconst (v := nI 1) hx hb dX6_holds_3 (by decide +kernel) ?_
  refine lv_iand hx hb dX6_holds_4 ?_
  refine lv_re (hd_bt x (k := k) (by omega)) ?_
  refine lv_if_eq (tgt := 12) hx hb dX6_holds_5 (by decide) (fun c_1 => ?_) (fun c_1 => ?_)
  · skip
    replace c_1 := ob_0.mp c_1
    refine lv_iconst (v := nI 0) hx hb dX6_holds_12 (by decide +kernel) ?_
    rw [← hQ]
    refine x_reti C rfl hS (Nat.le_of_ble_eq_true rfl) (Nat.le_of_ble_eq_true rfl) dX6_holds_13 ?_
    rw [hpost]
    exact ⟨by rw [c_1]; rfl, hH⟩
  · skip
    replace c_1 := ob_n.mp c_1
    refine lv_iconst (v := nI 1) hx hb dX6_holds_8 (by decide +kernel) ?_
    refine lv_goto (tgt := 13) hx hb dX6_holds_9 (by decide) ?_
    rw [← hQ]
    refine x_reti C rfl hS (Nat.le_of_ble_eq_true rfl) (Nat.le_of_ble_eq_true rfl) dX6_holds_13 ?_
    rw [hpost]
    exact ⟨by rw [c_1]; rfl, hH⟩

set_option maxHeartbeats 4000000 in
set_option maxRecDepth 100000 in
theorem c_covers (l : Launch) {E : xE} {base : Nat} {al : Tg → Nat} {w : Tg → Option va_E} {x : Int32} {k : Nat} : xMet l yX6_covers cX6_covers 2 (some (.boolean)) ({ frames := 0, cells := 0, slots := 0, locals := 0 } : Room) E base [.int x, .int (nI k)] (fun H => xH E base al w H) (fun r H => r = some (.int (ob (cov x k))) ∧ xH E base al w H) := by
  refine xMet.of (by decide +kernel) "Dataroom" rfl (Nat.le_of_ble_eq_true rfl) ?_
  intro p9 e9 s m9 below meth c9 ls C hin hP hS hl
  have hx := C.hx
  have hb := C.hb
  have hH := hP
  have hl : lv_has ls 2 [(0, .int x), (1, .int (nI k))] := hl
  obtain ⟨post, hpost⟩ : ∃ zz9 : Option Value → Heap → Prop, zz9 = (fun r H => r = some (.int (ob (cov x k))) ∧ xH E base al w H) := ⟨_, rfl⟩
  rw [← hpost]
  generalize hQ : (MQ below (xQ base post) ([.int x, .int (nI k)] : List Value).toArray s 0 0 (xA base)) = Q
  refine lv_iload_n hx hb dX6_covers_0 rfl (lv_at hl 0 rfl) ?_
  refine lv_iconst (v := (-1)) hx hb dX6_covers_1 (by decide +kernel) ?_
  refine lv_icmp_eq (tgt := 10) hx hb dX6_covers_2 (by decide) (fun c_1 => ?_) (fun c_1 => ?_)
  · skip
    refine lv_iconst (v := nI 1) hx hb dX6_covers_10 (by decide +kernel) ?_
    refine lv_goto (tgt := 15) hx hb dX6_covers_11 (by decide) ?_
    rw [← hQ]
    refine x_reti C rfl hS (Nat.le_of_ble_eq_true rfl) (Nat.le_of_ble_eq_true rfl) dX6_covers_15 ?_
    rw [hpost]
    exact ⟨by rw [show cov x k = true by unfold cov; simp [c_1]]; rfl, hH⟩
  · skip
    refine lv_iload_n hx hb dX6_covers_5 rfl (lv_at hl 0 rfl) ?_
    refine lv_iload_n hx hb dX6_covers_6 rfl (lv_at hl 1 rfl) ?_
    refine lv_icmp_ne (tgt := 14) hx hb dX6_covers_7 (by decide) (fun c_2 => ?_) (fun c_2 => ?_)
    · skip
      refine lv_iconst (v := nI 0) hx hb dX6_covers_14 (by decide +kernel) ?_
      rw [← hQ]
      refine x_reti C rfl hS (Nat.le_of_ble_eq_true rfl) (Nat.le_of_ble_eq_true rfl) dX6_covers_15 ?_
      rw [hpost]
      exact ⟨by rw [show cov x k = false by unfold cov; simp [c_1, c_2]]; rfl, hH⟩
    · skip
      refine lv_iconst (v := nI 1) hx hb dX6_covers_10 (by decide +kernel) ?_
      refine lv_goto (tgt := 15) hx hb dX6_covers_11 (by decide) ?_
      rw [← hQ]
      refine x_reti C rfl hS (Nat.le_of_ble_eq_true rfl) (Nat.le_of_ble_eq_true rfl) dX6_covers_15 ?_
      rw [hpost]
      exact ⟨by rw [show cov x k = true by unfold cov; simp [c_1, c_2]]; rfl, hH⟩

set_option maxHeartbeats 4000000 in
set_option maxRecDepth 100000 in
theorem c_forget (l : Launch) {E : xE} {base : Nat} {al : Tg → Nat} {w : Tg → Option va_E} {t tr : Tg} {n : Int32} {f : Nat → Int32} (ht : w t = some (.inr (3, [.ref (al tr), .int n]))) (hr : w tr = some (.inl (E.2.1 0, 16, .inl f))) : xMet l yX2_forget cX2_forget 2 none ({ frames := 0, cells := 0, slots := 0, locals := 0 } : Room) E base [.ref (al t)] (fun H => xH E base al w H) (fun r H => r = none ∧ xH E base al (xu (xu w tr (.inl (E.2.1 0, 16, .inl (fun j => if j < 16 then 0 else f j)))) t (.inr (3, [.ref (al tr), .int (nI 0)]))) H) := by
  refine xMet.of (by decide +kernel) "Dataroom$Knowledge" rfl (Nat.le_of_ble_eq_true rfl) ?_
  intro p9 e9 s m9 below meth c9 ls C hin hP hS hl
  have hx := C.hx
  have hb := C.hb
  have hH := hP
  have hl : lv_has ls 2 [(0, .ref (al t))] := hl
  obtain ⟨post, hpost⟩ : ∃ zz9 : Option Value → Heap → Prop, zz9 = (fun r H => r = none ∧ xH E base al (xu (xu w tr (.inl (E.2.1 0, 16, .inl (fun j => if j < 16 then 0 else f j)))) t (.inr (3, [.ref (al tr), .int (nI 0)]))) H) := ⟨_, rfl⟩
  rw [← hpost]
  generalize hQ : (MQ below (xQ base post) ([.ref (al t)] : List Value).toArray s 0 0 (xA base)) = Q
  refine lv_iconst (v := nI 0) hx hb dX2_forget_0 (by decide +kernel) ?_
  refine lv_istore_n (lv' := [(1, .int (nI 0)), (0, .ref (al t))]) hx hb dX2_forget_1 rfl hl (by decide) rfl (fun ls hl => ?_)
  have lp2 : ∀ (i : Nat), i ≤ 16 → ∀  (H : Heap) (locs : List Loc) (ls : Array Slot), xH E base al (xu w tr (.inl (E.2.1 0, 16, .inl (fz f i)))) H → va_S (xA base) s.heap H locs → lv_has ls 2 [(1, .int (nI i)), (0, .ref (al t))] → W p9 l e9 ({ frames := 0, cells := 0, slots := 0, locals := 0 } : Room) s m9 ([.ref (al t)] : List Value).toArray below meth c9 H locs 0 0 Q (F0 m9 2 ls []) := by
    refine lp_up ?_
    intro i hii ih2  H locs ls hH hS hl
    have ht1 : xu w tr (.inl (E.2.1 0, 16, .inl (fz f i))) t = some (.inr (3, [.ref (al tr), .int n])) := xu_of (tg_ne ht hr (by nofun)) ht
    have hr1 : xu w tr (.inl (E.2.1 0, 16, .inl (fz f i))) tr = some (.inl (E.2.1 0, 16, .inl (fz f i))) := xu_self _ _ _
    refine lv_iload_n hx hb dX2_forget_2 rfl (lv_at hl 0 rfl) ?_
    refine lv_aload_n hx hb dX2_forget_3 rfl (lv_at hl 1 rfl) ?_
    refine x_get C hH (ci := 3) (T := TX2) (N := 2) ht1 rfl iWX2 0 (by decide) qw_65 rfl rfl dX2_forget_4 ?_
    refine x_alen (v := nI 16) C hH 0 rfl hr1 rfl dX2_forget_7 ?_
    refine lv_icmp_ge (tgt := 24) hx hb dX2_forget_8 (by decide) (fun c_1 => ?_) (fun c_1 => ?_)
    · skip
      replace c_1 := (nI_leI (by omega) (by omega)).mp c_1
      refine lv_aload_n hx hb dX2_forget_24 rfl (lv_at hl 1 rfl) ?_
      refine lv_iconst (v := nI 0) hx hb dX2_forget_25 (by decide +kernel) ?_
      refine x_put C hH hS (ci := 3) (T := TX2) (N := 2) (fs' := [.ref (al tr), .int (nI 0)]) ht1 rfl iWX2 tyX2 tyX2_ok nmX2 1 (by decide) qw_66 rfl rfl rfl rfl (Nat.le_of_ble_eq_true rfl) rfl dX2_forget_26 (fun H locs hH hS => ?_)
      have hr1 := xu_of (t := t) (e := .inr (3, [.ref (al tr), .int (nI 0)])) (tg_ne hr1 ht1 (by nofun)) hr1
      have ht1 : (xu (xu w tr (.inl (E.2.1 0, 16, .inl (fz f i)))) t (.inr (3, [.ref (al tr), .int (nI 0)]))) t = some (.inr (3, [.ref (al tr), .int (nI 0)])) := xu_self _ _ _
      rw [← hQ]
      refine x_retv C hS (Nat.le_of_ble_eq_true rfl) (Nat.le_of_ble_eq_true rfl) dX2_forget_29 ?_
      rw [hpost]
      have e16 : i = 16 := by omega
      rw [e16, fz_all] at hH
      exact ⟨rfl, hH⟩
    · skip
      replace c_1 := mt (nI_leI (by omega) (by omega)).mpr c_1
      refine lv_aload_n hx hb dX2_forget_11 rfl (lv_at hl 1 rfl) ?_
      refine x_get C hH (ci := 3) (T := TX2) (N := 2) ht1 rfl iWX2 0 (by decide) qw_65 rfl rfl dX2_forget_12 ?_
      refine lv_iload_n hx hb dX2_forget_15 rfl (lv_at hl 0 rfl) ?_
      refine lv_iconst (v := nI 0) hx hb dX2_forget_16 (by decide +kernel) ?_
      refine x_iast C hH hS hr1 (j := i) rfl (by omega) (by omega) dX2_forget_17 (fun H locs hH hS => ?_)
      have ht1 := xu_of (t := tr) (e := .inl (E.2.1 0, 16, .inl (upd (fz f i) i (nI 0)))) (tg_ne ht1 hr1 (by nofun)) ht1
      have hr1 : (xu (xu w tr (.inl (E.2.1 0, 16, .inl (fz f i)))) tr (.inl (E.2.1 0, 16, .inl (upd (fz f i) i (nI 0))))) tr = some (.inl (E.2.1 0, 16, .inl (upd (fz f i) i (nI 0)))) := xu_self _ _ _
      refine lv_iinc (v := nI (i + 1)) (lv' := [(1, .int (nI (i + 1))), (0, .ref (al t))]) hx hb dX2_forget_18 hl (k := 0) rfl (nI_1 _) (by decide) rfl (fun ls hl => ?_)
      refine lv_goto (tgt := 2) hx hb dX2_forget_21 (by decide) ?_
      exact ih2 (by omega)  _ _ _  (by rw [xu_uu, fz_s] at hH; exact hH) hS (lv_sub hl [0, 1] rfl)
  exact lp2 0 (by omega)  _ _ _  (by rw [fz_0, xu_same hr]; exact hH) hS (lv_sub hl [0, 1] rfl)

set_option maxHeartbeats 4000000 in
set_option maxRecDepth 100000 in
theorem c_knows (l : Launch) {E : xE} {base : Nat} {x : Int32} {al : Tg → Nat} {w : Tg → Option va_E} {t tr : Tg} {n : Int32} {f : Nat → Int32} (ht : w t = some (.inr (3, [.ref (al tr), .int n]))) (hr : w tr = some (.inl (E.2.1 0, 16, .inl f))) : xMet l yX2_knows cX2_knows 4 (some (.boolean)) ({ frames := 1, cells := 0, slots := 0, locals := 21 } : Room) E base [.ref (al t), .int x] (fun H => xH E base al w H) (fun r H => r = some (.int (ob (decide (red f 16 x = 0)))) ∧ xH E base al w H) := by
  refine xMet.of (by decide +kernel) "Dataroom$Knowledge" rfl (Nat.le_of_ble_eq_true rfl) ?_
  intro p9 e9 s m9 below meth c9 ls C hin hP hS hl
  have hx := C.hx
  have hb := C.hb
  have hH := hP
  have hl : lv_has ls 4 [(0, .ref (al t)), (1, .int x)] := hl
  obtain ⟨post, hpost⟩ : ∃ zz9 : Option Value → Heap → Prop, zz9 = (fun r H => r = some (.int (ob (decide (red f 16 x = 0)))) ∧ xH E base al w H) := ⟨_, rfl⟩
  rw [← hpost]
  generalize hQ : (MQ below (xQ base post) ([.ref (al t), .int x] : List Value).toArray s 0 0 (xA base)) = Q
  refine lv_iload_n hx hb dX2_knows_0 rfl (lv_at hl 1 rfl) ?_
  refine lv_istore_n (lv' := [(2, .int x), (0, .ref (al t)), (1, .int x)]) hx hb dX2_knows_1 rfl hl (by decide) rfl (fun ls hl => ?_)
  refine lv_aload_n hx hb dX2_knows_2 rfl (lv_at hl 1 rfl) ?_
  refine x_get C hH (ci := 3) (T := TX2) (N := 2) ht rfl iWX2 0 (by decide) qw_65 rfl rfl dX2_knows_3 ?_
  refine x_alen (v := nI 16) C hH 0 rfl hr rfl dX2_knows_6 ?_
  refine lv_iconst (v := nI 1) hx hb dX2_knows_7 (by decide +kernel) ?_
  refine lv_isub hx hb dX2_knows_8 ?_
  refine lv_re (dI_sub _) ?_
  refine lv_istore_n (lv' := [(3, .int (dI 16)), (2, .int x), (0, .ref (al t)), (1, .int x)]) hx hb dX2_knows_9 rfl hl (by decide) rfl (fun ls hl => ?_)
  have lp10 : ∀ (j : Nat), j ≤ 16 → ∀ (y : Int32) (H : Heap) (locs : List Loc) (ls : Array Slot), red f j y = red f 16 x → xH E base al w H → va_S (xA base) s.heap H locs → lv_has ls 4 [(3, .int (dI j)), (2, .int y), (0, .ref (al t))] → W p9 l e9 ({ frames := 1, cells := 0, slots := 0, locals := 21 } : Room) s m9 ([.ref (al t), .int x] : List Value).toArray below meth c9 H locs 0 0 Q (F0 m9 10 ls []) := by
    refine lp_dn ?_ ?_
    · intro _ y H locs ls hv hH hS hl
      refine lv_iload_n hx hb dX2_knows_10 rfl (lv_at hl 0 rfl) ?_
      refine lv_if_lt (tgt := 37) hx hb dX2_knows_11 (by decide) (fun c_1 => ?_) (fun c_1 => absurd (by decide +kernel) c_1)
      clear c_1
      refine lv_iload_n hx hb dX2_knows_37 rfl (lv_at hl 1 rfl) ?_
      refine lv_if_ne (tgt := 45) hx hb dX2_knows_38 (by decide) (fun c_2 => ?_) (fun c_2 => ?_)
      · skip
        refine lv_iconst (v := nI 0) hx hb dX2_knows_45 (by decide +kernel) ?_
        rw [← hQ]
        refine x_reti C rfl hS (Nat.le_of_ble_eq_true rfl) (Nat.le_of_ble_eq_true rfl) dX2_knows_46 ?_
        rw [hpost]
        exact ⟨by rw [show decide (red f 16 x = 0) = false by rw [← hv]; exact decide_eq_false c_2]; rfl, hH⟩
      · skip
        refine lv_iconst (v := nI 1) hx hb dX2_knows_41 (by decide +kernel) ?_
        refine lv_goto (tgt := 46) hx hb dX2_knows_42 (by decide) ?_
        rw [← hQ]
        refine x_reti C rfl hS (Nat.le_of_ble_eq_true rfl) (Nat.le_of_ble_eq_true rfl) dX2_knows_46 ?_
        rw [hpost]
        exact ⟨by rw [show decide (red f 16 x = 0) = true by rw [← hv]; exact decide_eq_true c_2]; rfl, hH⟩
    · intro j ih10 hj y H locs ls hv hH hS hl
      refine lv_iload_n hx hb dX2_knows_10 rfl (lv_at hl 0 rfl) ?_
      refine lv_if_lt (tgt := 37) hx hb dX2_knows_11 (by decide) (fun c_3 => absurd ((dI_lt (by omega)).mp c_3) (Nat.succ_ne_zero _)) (fun _ => ?_)
      refine lv_iload_n hx hb dX2_knows_14 rfl (lv_at hl 1 rfl) ?_
      refine lv_iload_n hx hb dX2_knows_15 rfl (lv_at hl 0 rfl) ?_
      refine x_callSN C hS (by have z := c_holds l (E := E) (base := base) (al := al) (w := w) (x := y) (k := j) (by omega); rw [← dI_s] at z; exact z) hH kX6_holds qw_338 nw_363  rfl [] rfl hl.1 (Nat.le_of_ble_eq_true rfl) ⟨Nat.le_of_ble_eq_true rfl, Nat.le_of_ble_eq_true rfl⟩ dX2_knows_16 ⟨Nat.le_of_ble_eq_true rfl, Nat.le_of_ble_eq_true rfl⟩ (fun r_5 H locs hp_4 hS => ?_)
      obtain ⟨rfl, hH⟩ := hp_4
      refine lv_if_eq (tgt := 31) hx hb dX2_knows_19 (by decide) (fun c_6 => ?_) (fun c_6 => ?_)
      · skip
        replace c_6 := ob_0.mp c_6
        refine lv_iinc (v := dI j) (lv' := [(3, .int (dI j)), (2, .int y), (0, .ref (al t))]) hx hb dX2_knows_31 hl (k := 0) rfl (dI_dec _) (by decide) rfl (fun ls hl => ?_)
        refine lv_goto (tgt := 10) hx hb dX2_knows_34 (by decide) ?_
        exact ih10 (by omega) y _ _ _ (by rw [← hv]; show _ = red f j (if bt y j then y ^^^ f j else y); rw [c_6]; rfl) hH hS (lv_sub hl [0, 1, 2] rfl)
      · skip
        replace c_6 := ob_n.mp c_6
        refine lv_iload_n hx hb dX2_knows_22 rfl (lv_at hl 1 rfl) ?_
        refine lv_aload_n hx hb dX2_knows_23 rfl (lv_at hl 2 rfl) ?_
        refine x_get C hH (ci := 3) (T := TX2) (N := 2) ht rfl iWX2 0 (by decide) qw_65 rfl rfl dX2_knows_24 ?_
        refine lv_iload_n hx hb dX2_knows_27 rfl (lv_at hl 0 rfl) ?_
        refine x_iald C hH hr (j := j) (dI_s _) (by omega) (by omega) dX2_knows_28 ?_
        refine lv_ixor hx hb dX2_knows_29 ?_
        refine lv_istore_n (lv' := [(2, .int (y ^^^ f j)), (3, .int (dI (j + 1))), (0, .ref (al t))]) hx hb dX2_knows_30 rfl hl (by decide) rfl (fun ls hl => ?_)
        refine lv_iinc (v := dI j) (lv' := [(3, .int (dI j)), (2, .int (y ^^^ f j)), (0, .ref (al t))]) hx hb dX2_knows_31 hl (k := 1) rfl (dI_dec _) (by decide) rfl (fun ls hl => ?_)
        refine lv_goto (tgt := 10) hx hb dX2_knows_34 (by decide) ?_
        exact ih10 (by omega) (y ^^^ f j) _ _ _ (by rw [← hv]; show _ = red f j (if bt y j then y ^^^ f j else y); rw [c_6]; rfl) hH hS (lv_sub hl [0, 1, 2] rfl)
  exact lp10 16 (by omega) x _ _ _ rfl hH hS (lv_sub hl [0, 1, 2] rfl)

set_option maxHeartbeats 4000000 in
set_option maxRecDepth 100000 in
theorem c_wouldReach (l : Launch) {E : xE} {base : Nat} {x z : Int32} {al : Tg → Nat} {w : Tg → Option va_E} {t tr : Tg} {n : Int32} {f : Nat → Int32} (ht : w t = some (.inr (3, [.ref (al tr), .int n]))) (hr : w tr = some (.inl (E.2.1 0, 16, .inl f))) : xMet l yX2_wouldReach cX2_wouldReach 3 (some (.boolean)) ({ frames := 2, cells := 0, slots := 0, locals := 44 } : Room) E base [.ref (al t), .int x, .int z] (fun H => xH E base al w H) (fun r H => r = some (.int (ob (wre f x z))) ∧ xH E base al w H) := by
  refine xMet.of (by decide +kernel) "Dataroom$Knowledge" rfl (Nat.le_of_ble_eq_true rfl) ?_
  intro p9 e9 s m9 below meth c9 ls C hin hP hS hl
  have hx := C.hx
  have hb := C.hb
  have hH := hP
  have hl : lv_has ls 3 [(0, .ref (al t)), (1, .int x), (2, .int z)] := hl
  obtain ⟨post, hpost⟩ : ∃ zz9 : Option Value → Heap → Prop, zz9 = (fun r H => r = some (.int (ob (wre f x z))) ∧ xH E base al w H) := ⟨_, rfl⟩
  rw [← hpost]
  generalize hQ : (MQ below (xQ base post) ([.ref (al t), .int x, .int z] : List Value).toArray s 0 0 (xA base)) = Q
  refine lv_aload_n hx hb dX2_wouldReach_0 rfl (lv_at hl 0 rfl) ?_
  refine lv_iload_n hx hb dX2_wouldReach_1 rfl (lv_at hl 1 rfl) ?_
  refine lv_iload_n hx hb dX2_wouldReach_2 rfl (lv_at hl 2 rfl) ?_
  refine lv_ixor hx hb dX2_wouldReach_3 ?_
  refine x_callV C hH hS (ci := 3) (t := t) ht rfl rfl (c_knows l (E := E) (base := base) (x := (x ^^^ z)) ht hr) hH kX2_knows qw_518 qw_519 qw_517  rfl [] rfl hl.1 (Nat.le_of_ble_eq_true rfl) ⟨Nat.le_of_ble_eq_true rfl, Nat.le_of_ble_eq_true rfl⟩ dX2_wouldReach_4 ⟨Nat.le_of_ble_eq_true rfl, Nat.le_of_ble_eq_true rfl⟩ (fun r_2 H locs hp_1 hS => ?_)
  obtain ⟨rfl, hH⟩ := hp_1
  refine lv_if_eq (tgt := 22) hx hb dX2_wouldReach_7 (by decide) (fun c_3 => ?_) (fun c_3 => ?_)
  · skip
    replace c_3 := ob_0.mp c_3
    refine lv_iconst (v := nI 0) hx hb dX2_wouldReach_22 (by decide +kernel) ?_
    rw [← hQ]
    refine x_reti C rfl hS (Nat.le_of_ble_eq_true rfl) (Nat.le_of_ble_eq_true rfl) dX2_wouldReach_23 ?_
    rw [hpost]
    exact ⟨by simp only [wre, c_3]; rfl, hH⟩
  · skip
    replace c_3 := ob_n.mp c_3
    refine lv_aload_n hx hb dX2_wouldReach_10 rfl (lv_at hl 0 rfl) ?_
    refine lv_iload_n hx hb dX2_wouldReach_11 rfl (lv_at hl 1 rfl) ?_
    refine x_callV C hH hS (ci := 3) (t := t) ht rfl rfl (c_knows l (E := E) (base := base) (x := x) ht hr) hH kX2_knows qw_518 qw_519 qw_517  rfl [] rfl hl.1 (Nat.le_of_ble_eq_true rfl) ⟨Nat.le_of_ble_eq_true rfl, Nat.le_of_ble_eq_true rfl⟩ dX2_wouldReach_12 ⟨Nat.le_of_ble_eq_true rfl, Nat.le_of_ble_eq_true rfl⟩ (fun r_5 H locs hp_4 hS => ?_)
    obtain ⟨rfl, hH⟩ := hp_4
    refine lv_if_ne (tgt := 22) hx hb dX2_wouldReach_15 (by decide) (fun c_6 => ?_) (fun c_6 => ?_)
    · skip
      replace c_6 := ob_n.mp c_6
      refine lv_iconst (v := nI 0) hx hb dX2_wouldReach_22 (by decide +kernel) ?_
      rw [← hQ]
      refine x_reti C rfl hS (Nat.le_of_ble_eq_true rfl) (Nat.le_of_ble_eq_true rfl) dX2_wouldReach_23 ?_
      rw [hpost]
      exact ⟨by simp only [wre, c_3, c_6]; rfl, hH⟩
    · skip
      replace c_6 := ob_0.mp c_6
      refine lv_iconst (v := nI 1) hx hb dX2_wouldReach_18 (by decide +kernel) ?_
      refine lv_goto (tgt := 23) hx hb dX2_wouldReach_19 (by decide) ?_
      rw [← hQ]
      refine x_reti C rfl hS (Nat.le_of_ble_eq_true rfl) (Nat.le_of_ble_eq_true rfl) dX2_wouldReach_23 ?_
      rw [hpost]
      exact ⟨by simp only [wre, c_3, c_6]; rfl, hH⟩

set_option maxHeartbeats 4000000 in
set_option maxRecDepth 100000 in
theorem c_learn (l : Launch) {E : xE} {base : Nat} {x : Int32} {al : Tg → Nat} {w : Tg → Option va_E} {t tr : Tg} {n : Int32} {f : Nat → Int32} (ht : w t = some (.inr (3, [.ref (al tr), .int n]))) (hr : w tr = some (.inl (E.2.1 0, 16, .inl f))) : xMet l yX2_learn cX2_learn 4 none ({ frames := 1, cells := 0, slots := 0, locals := 21 } : Room) E base [.ref (al t), .int x] (fun H => xH E base al w H) (fun r H => r = none ∧ xH E base al (xu (xu w tr (.inl (E.2.1 0, 16, .inl (lrF f 16 x)))) t (.inr (3, [.ref (al tr), .int (n + nI (lrG f 16 x))]))) H) := by
  refine xMet.of (by decide +kernel) "Dataroom$Knowledge" rfl (Nat.le_of_ble_eq_true rfl) ?_
  intro p9 e9 s m9 below meth c9 ls C hin hP hS hl
  have hx := C.hx
  have hb := C.hb
  have hH := hP
  have hl : lv_has ls 4 [(0, .ref (al t)), (1, .int x)] := hl
  obtain ⟨post, hpost⟩ : ∃ zz9 : Option Value → Heap → Prop, zz9 = (fun r H => r = none ∧ xH E base al (xu (xu w tr (.inl (E.2.1 0, 16, .inl (lrF f 16 x)))) t (.inr (3, [.ref (al tr), .int (n + nI (lrG f 16 x))]))) H) := ⟨_, rfl⟩
  rw [← hpost]
  generalize hQ : (MQ below (xQ base post) ([.ref (al t), .int x] : List Value).toArray s 0 0 (xA base)) = Q
  refine lv_iload_n hx hb dX2_learn_0 rfl (lv_at hl 1 rfl) ?_
  refine lv_istore_n (lv' := [(2, .int x), (0, .ref (al t)), (1, .int x)]) hx hb dX2_learn_1 rfl hl (by decide) rfl (fun ls hl => ?_)
  refine lv_aload_n hx hb dX2_learn_2 rfl (lv_at hl 1 rfl) ?_
  refine x_get C hH (ci := 3) (T := TX2) (N := 2) ht rfl iWX2 0 (by decide) qw_65 rfl rfl dX2_learn_3 ?_
  refine x_alen (v := nI 16) C hH 0 rfl hr rfl dX2_learn_6 ?_
  refine lv_iconst (v := nI 1) hx hb dX2_learn_7 (by decide +kernel) ?_
  refine lv_isub hx hb dX2_learn_8 ?_
  refine lv_re (dI_sub _) ?_
  refine lv_istore_n (lv' := [(3, .int (dI 16)), (2, .int x), (0, .ref (al t)), (1, .int x)]) hx hb dX2_learn_9 rfl hl (by decide) rfl (fun ls hl => ?_)
  have lp10 : ∀ (j : Nat), j ≤ 16 → ∀ (y : Int32) (H : Heap) (locs : List Loc) (ls : Array Slot), lrF f j y = lrF f 16 x → lrG f j y = lrG f 16 x → xH E base al w H → va_S (xA base) s.heap H locs → lv_has ls 4 [(3, .int (dI j)), (2, .int y), (0, .ref (al t))] → W p9 l e9 ({ frames := 1, cells := 0, slots := 0, locals := 21 } : Room) s m9 ([.ref (al t), .int x] : List Value).toArray below meth c9 H locs 0 0 Q (F0 m9 10 ls []) := by
    refine lp_dn ?_ ?_
    · intro _ y H locs ls hv hg hH hS hl
      refine lv_iload_n hx hb dX2_learn_10 rfl (lv_at hl 0 rfl) ?_
      refine lv_if_lt (tgt := 67) hx hb dX2_learn_11 (by decide) (fun c_1 => ?_) (fun c_1 => absurd (by decide +kernel) c_1)
      clear c_1
      rw [← hQ]
      refine x_retv C hS (Nat.le_of_ble_eq_true rfl) (Nat.le_of_ble_eq_true rfl) dX2_learn_67 ?_
      rw [hpost]
      exact ⟨rfl, by rw [← hv, ← hg]; simp only [lrF, lrG]; rw [xu_same (xu_of (tg_ne ht hr (by nofun)) ht |> fun z => by simpa [nI_0] using z), xu_same hr]; exact hH⟩
    · intro j ih10 hj y H locs ls hv hg hH hS hl
      refine lv_iload_n hx hb dX2_learn_10 rfl (lv_at hl 0 rfl) ?_
      refine lv_if_lt (tgt := 67) hx hb dX2_learn_11 (by decide) (fun c_2 => absurd ((dI_lt (by omega)).mp c_2) (Nat.succ_ne_zero _)) (fun _ => ?_)
      refine lv_iload_n hx hb dX2_learn_14 rfl (lv_at hl 1 rfl) ?_
      refine lv_iload_n hx hb dX2_learn_15 rfl (lv_at hl 0 rfl) ?_
      refine x_callSN C hS (by have z := c_holds l (E := E) (base := base) (al := al) (w := w) (x := y) (k := j) (by omega); rw [← dI_s] at z; exact z) hH kX6_holds qw_338 nw_363  rfl [] rfl hl.1 (Nat.le_of_ble_eq_true rfl) ⟨Nat.le_of_ble_eq_true rfl, Nat.le_of_ble_eq_true rfl⟩ dX2_learn_16 ⟨Nat.le_of_ble_eq_true rfl, Nat.le_of_ble_eq_true rfl⟩ (fun r_4 H locs hp_3 hS => ?_)
      obtain ⟨rfl, hH⟩ := hp_3
      refine lv_if_ne (tgt := 25) hx hb dX2_learn_19 (by decide) (fun c_5 => ?_) (fun c_5 => ?_)
      · skip
        replace c_5 := ob_n.mp c_5
        refine lv_aload_n hx hb dX2_learn_25 rfl (lv_at hl 2 rfl) ?_
        refine x_get C hH (ci := 3) (T := TX2) (N := 2) ht rfl iWX2 0 (by decide) qw_65 rfl rfl dX2_learn_26 ?_
        refine lv_iload_n hx hb dX2_learn_29 rfl (lv_at hl 0 rfl) ?_
        refine x_iald C hH hr (j := j) (dI_s _) (by omega) (by omega) dX2_learn_30 ?_
        refine lv_if_ne (tgt := 52) hx hb dX2_learn_31 (by decide) (fun c_6 => ?_) (fun c_6 => ?_)
        · skip
          refine lv_iload_n hx hb dX2_learn_52 rfl (lv_at hl 1 rfl) ?_
          refine lv_aload_n hx hb dX2_learn_53 rfl (lv_at hl 2 rfl) ?_
          refine x_get C hH (ci := 3) (T := TX2) (N := 2) ht rfl iWX2 0 (by decide) qw_65 rfl rfl dX2_learn_54 ?_
          refine lv_iload_n hx hb dX2_learn_57 rfl (lv_at hl 0 rfl) ?_
          refine x_iald C hH hr (j := j) (dI_s _) (by omega) (by omega) dX2_learn_58 ?_
          refine lv_ixor hx hb dX2_learn_59 ?_
          refine lv_istore_n (lv' := [(2, .int (y ^^^ f j)), (3, .int (dI (j + 1))), (0, .ref (al t))]) hx hb dX2_learn_60 rfl hl (by decide) rfl (fun ls hl => ?_)
          refine lv_iinc (v := dI j) (lv' := [(3, .int (dI j)), (2, .int (y ^^^ f j)), (0, .ref (al t))]) hx hb dX2_learn_61 hl (k := 1) rfl (dI_dec _) (by decide) rfl (fun ls hl => ?_)
          refine lv_goto (tgt := 10) hx hb dX2_learn_64 (by decide) ?_
          exact ih10 (by omega) (y ^^^ f j) _ _ _ (by rw [← hv]; simp only [lrF, c_5, c_6]; rfl) (by rw [← hg]; simp only [lrG, c_5, c_6]; rfl) hH hS (lv_sub hl [0, 1, 2] rfl)
        · skip
          refine lv_aload_n hx hb dX2_learn_34 rfl (lv_at hl 2 rfl) ?_
          refine x_get C hH (ci := 3) (T := TX2) (N := 2) ht rfl iWX2 0 (by decide) qw_65 rfl rfl dX2_learn_35 ?_
          refine lv_iload_n hx hb dX2_learn_38 rfl (lv_at hl 0 rfl) ?_
          refine lv_iload_n hx hb dX2_learn_39 rfl (lv_at hl 1 rfl) ?_
          refine x_iast C hH hS hr (j := j) (dI_s _) (by omega) (by omega) dX2_learn_40 (fun H locs hH hS => ?_)
          have ht := xu_of (t := tr) (e := .inl (E.2.1 0, 16, .inl (upd f j y))) (tg_ne ht hr (by nofun)) ht
          have hr : (xu w tr (.inl (E.2.1 0, 16, .inl (upd f j y)))) tr = some (.inl (E.2.1 0, 16, .inl (upd f j y))) := xu_self _ _ _
          refine lv_aload_n hx hb dX2_learn_41 rfl (lv_at hl 2 rfl) ?_
          refine lv_dup hx hb dX2_learn_42 rfl ?_
          refine x_get C hH (ci := 3) (T := TX2) (N := 2) ht rfl iWX2 1 (by decide) qw_66 rfl rfl dX2_learn_43 ?_
          refine lv_iconst (v := nI 1) hx hb dX2_learn_46 (by decide +kernel) ?_
          refine lv_iadd hx hb dX2_learn_47 ?_
          refine x_put C hH hS (ci := 3) (T := TX2) (N := 2) (fs' := [.ref (al tr), .int (n + nI 1)]) ht rfl iWX2 tyX2 tyX2_ok nmX2 1 (by decide) qw_66 rfl rfl rfl rfl (Nat.le_of_ble_eq_true rfl) rfl dX2_learn_48 (fun H locs hH hS => ?_)
          have hr := xu_of (t := t) (e := .inr (3, [.ref (al tr), .int (n + nI 1)])) (tg_ne hr ht (by nofun)) hr
          have ht : (xu (xu w tr (.inl (E.2.1 0, 16, .inl (upd f j y)))) t (.inr (3, [.ref (al tr), .int (n + nI 1)]))) t = some (.inr (3, [.ref (al tr), .int (n + nI 1)])) := xu_self _ _ _
          rw [← hQ]
          refine x_retv C hS (Nat.le_of_ble_eq_true rfl) (Nat.le_of_ble_eq_true rfl) dX2_learn_51 ?_
          rw [hpost]
          exact ⟨rfl, by rw [← hv, ← hg]; simp only [lrF, lrG, c_5, c_6, if_true]; exact hH⟩
      · skip
        replace c_5 := ob_0.mp c_5
        refine lv_goto (tgt := 61) hx hb dX2_learn_22 (by decide) ?_
        refine lv_iinc (v := dI j) (lv' := [(3, .int (dI j)), (2, .int y), (0, .ref (al t))]) hx hb dX2_learn_61 hl (k := 0) rfl (dI_dec _) (by decide) rfl (fun ls hl => ?_)
        refine lv_goto (tgt := 10) hx hb dX2_learn_64 (by decide) ?_
        exact ih10 (by omega) y _ _ _ (by rw [← hv]; simp only [lrF, c_5]; rfl) (by rw [← hg]; simp only [lrG, c_5]; rfl) hH hS (lv_sub hl [0, 1, 2] rfl)
  exact lp10 16 (by omega) x _ _ _ rfl rfl hH hS (lv_sub hl [0, 1, 2] rfl)
end
section
/-! what is known: the kernel of 'red' is the span of what was learned, for rows with leading files of their own -/
theorem bx_ne {x y : Int32} {i : Nat} (h : bt x i ≠ bt y i) : x ≠ y := fun e => h (by rw [e])
theorem xor_0 (x : Int32) : x ^^^ 0 = x := by
  apply b_ext; intro i _; rw [b_xor, b_0]; simp
theorem xor_x (x : Int32) : x ^^^ x = 0 := by
  apply b_ext; intro i _; rw [b_xor, b_0]; simp
theorem xor_c (x y : Int32) : x ^^^ y = y ^^^ x := by
  apply b_ext; intro i _; rw [b_xor, b_xor, Bool.xor_comm]
theorem xor_a (x y z : Int32) : (x ^^^ y) ^^^ z = x ^^^ (y ^^^ z) := by
  apply b_ext; intro i _; rw [b_xor, b_xor, b_xor, b_xor, Bool.xor_assoc]
theorem xor_e {x y : Int32} : x ^^^ y = 0 ↔ x = y := by
  constructor
  · intro h
    have : (x ^^^ y) ^^^ y = 0 ^^^ y := by rw [h]
    rw [xor_a, xor_x, xor_0, xor_c, xor_0] at this
    exact this
  · intro h; rw [h, xor_x]
theorem xor_m (a b c d : Int32) : (a ^^^ b) ^^^ (c ^^^ d) = (a ^^^ c) ^^^ (b ^^^ d) := by
  apply b_ext; intro i _; simp only [b_xor]
  cases bt a i <;> cases bt b i <;> cases bt c i <;> cases bt d i <;> rfl
theorem red_z (f : Nat → Int32) : ∀ n, red f n 0 = 0
  | 0 => rfl
  | n + 1 => by show red f n (if bt 0 n then _ else _) = 0; rw [b_0]; exact red_z f n
theorem red_x (f : Nat → Int32) : ∀ (n : Nat) (x y : Int32), red f n (x ^^^ y) = red f n x ^^^ red f n y
  | 0, _, _ => rfl
  | n + 1, x, y => by
    show red f n (if bt (x ^^^ y) n then _ else _) = red f n (if bt x n then _ else _) ^^^ red f n (if bt y n then _ else _)
    rw [← red_x f n]
    congr 1
    rw [b_xor]
    cases bt x n <;> cases bt y n
    · rfl
    · show (x ^^^ y) ^^^ f n = x ^^^ (y ^^^ f n); exact xor_a _ _ _
    · show (x ^^^ y) ^^^ f n = (x ^^^ f n) ^^^ y; rw [xor_a, xor_c y, ← xor_a]
    · show x ^^^ y = (x ^^^ f n) ^^^ (y ^^^ f n); rw [xor_m, xor_x, xor_0]
theorem red_cong {f g : Nat → Int32} : ∀ (n : Nat) (x : Int32), (∀ j, j < n → f j = g j) → red f n x = red g n x
  | 0, _, _ => rfl
  | n + 1, x, h => by
    show red f n (if bt x n then x ^^^ f n else x) = red g n (if bt x n then x ^^^ g n else x)
    rw [h n (Nat.lt_succ_self n)]
    exact red_cong n _ (fun j hj => h j (Nat.lt_succ_of_lt hj))
/-- each row that isn't empty leads with its own place -/
def Ech (f : Nat → Int32) : Prop := ∀ k, k < 16 → f k ≠ 0 → bt (f k) k = true ∧ ∀ j, k < j → bt (f k) j = false
/-- no place from n on -/
def sml (n : Nat) (x : Int32) : Prop := ∀ j, n ≤ j → bt x j = false
theorem sml_0 {x : Int32} (h : sml 0 x) : x = 0 := b_ext fun i _ => by rw [h i (Nat.zero_le i), b_0]
theorem sml_x {n : Nat} {x y : Int32} (h : sml n x) (k : sml n y) : sml n (x ^^^ y) := fun j hj => by rw [b_xor, h j hj, k j hj]; rfl
theorem sml_z (n : Nat) : sml n 0 := fun j _ => b_0 j
theorem red_hi {f : Nat → Int32} (hE : Ech f) : ∀ (n : Nat) (x : Int32) (m : Nat), n ≤ 16 → n ≤ m → bt (red f n x) m = bt x m
  | 0, _, _, _, _ => rfl
  | n + 1, x, m, hn, hm => by
    show bt (red f n (if bt x n then x ^^^ f n else x)) m = bt x m
    rw [red_hi hE n _ m (by omega) (by omega)]
    cases bt x n
    · rfl
    · show bt (x ^^^ f n) m = bt x m
      rw [b_xor]
      by_cases h : f n = 0
      · rw [h, b_0]; simp
      · rw [(hE n (by omega) h).2 m (by omega)]; simp
theorem red_bit {f : Nat → Int32} (hE : Ech f) {k : Nat} (hk : f k ≠ 0) : ∀ (n : Nat) (x : Int32), n ≤ 16 → k < n → bt (red f n x) k = false
  | 0, _, _, h => absurd h (Nat.not_lt_zero k)
  | n + 1, x, hn, h => by
    show bt (red f n (if bt x n then x ^^^ f n else x)) k = false
    rcases Nat.lt_or_ge k n with q | q
    · exact red_bit hE hk n _ (by omega) q
    · have e : n = k := by omega
      subst e
      rw [red_hi hE n _ n (by omega) (Nat.le_refl n)]
      cases hx : bt x n
      · exact hx
      · show bt (x ^^^ f n) n = false
        rw [b_xor, hx, (hE n (by omega) hk).1]; rfl
theorem lrF_hi {f : Nat → Int32} : ∀ (n : Nat) (x : Int32) (m : Nat), n ≤ m → lrF f n x m = f m
  | 0, _, _, _ => rfl
  | n + 1, x, m, hm => by
    show (if bt x n then (if f n = 0 then upd f n x else lrF f n (x ^^^ f n)) else lrF f n x) m = f m
    split
    · split
      · show (if m = n then x else f m) = f m
        rw [if_neg (by omega)]
      · exact lrF_hi n _ m (by omega)
    · exact lrF_hi n _ m (by omega)
theorem sml_dn {n : Nat} {x : Int32} (h : sml (n + 1) x) (hb : bt x n = false) : sml n x := fun j hj => by
  rcases Nat.lt_or_ge n j with q | q
  · exact h j q
  · rw [show j = n by omega]; exact hb
theorem lr_ech {f : Nat → Int32} (hE : Ech f) : ∀ (n : Nat) (x : Int32), n ≤ 16 → sml n x → Ech (lrF f n x)
  | 0, _, _, _ => hE
  | n + 1, x, hn, hs => by
    show Ech (if bt x n then (if f n = 0 then upd f n x else lrF f n (x ^^^ f n)) else lrF f n x)
    by_cases hb : bt x n = true
    · rw [if_pos hb]
      by_cases h0 : f n = 0
      · rw [if_pos h0]
        intro k hk hne
        by_cases e : k = n
        · subst e
          have : upd f k x k = x := if_pos rfl
          rw [this]
          exact ⟨hb, fun j hj => hs j hj⟩
        · have : upd f n x k = f k := if_neg e
          rw [this] at hne ⊢
          exact hE k hk hne
      · rw [if_neg h0]
        refine lr_ech hE n _ (by omega) (sml_dn (sml_x hs fun j hj => (hE n (by omega) h0).2 j hj) ?_)
        rw [b_xor, hb, (hE n (by omega) h0).1]; rfl
    · rw [if_neg hb]
      exact lr_ech hE n _ (by omega) (sml_dn hs (by cases h : bt x n; rfl; exact absurd h hb))
theorem lr_ker {f : Nat → Int32} (hE : Ech f) : ∀ (n : Nat) (x : Int32), n ≤ 16 → sml n x → ∀ y, red (lrF f n x) n y = 0 ↔ red f n y = 0 ∨ red f n (y ^^^ x) = 0
  | 0, x, _, hs, y => by rw [sml_0 hs, xor_0]; exact (or_self_iff).symm
  | n + 1, x, hn, hs, y => by
    have hbx : ∀ b, bt x n = b → bt (y ^^^ x) n = (bt y n ^^ b) := fun b hb => by rw [b_xor, hb]
    by_cases hb : bt x n = true
    · by_cases h0 : f n = 0
      · have e1 : lrF f (n + 1) x = upd f n x := by show (if _ then _ else _) = _; rw [if_pos hb, if_pos h0]
        rw [e1]
        have un : upd f n x n = x := if_pos rfl
        have uc : ∀ z, red (upd f n x) n z = red f n z := fun z => red_cong n z (fun j hj => if_neg (by omega))
        show red (upd f n x) n (if bt y n then y ^^^ upd f n x n else y) = 0 ↔ red f n (if bt y n then y ^^^ f n else y) = 0 ∨ red f n (if bt (y ^^^ x) n then (y ^^^ x) ^^^ f n else y ^^^ x) = 0
        rw [uc, un, h0, xor_0, xor_0, ite_self, ite_self]
        have hn1 : ∀ z, bt z n = true → red f n z ≠ 0 := fun z hz => bx_ne (i := n) (by rw [red_hi hE n z n (by omega) (Nat.le_refl n), hz, b_0]; decide)
        cases hy : bt y n
        · have h1 : bt (y ^^^ x) n = true := by rw [hbx _ hb, hy]; rfl
          simp [hn1 _ h1]
        · simp [hn1 _ hy]
      · have e1 : lrF f (n + 1) x = lrF f n (x ^^^ f n) := by show (if _ then _ else _) = _; rw [if_pos hb, if_neg h0]
        rw [e1]
        have s1 : sml n (x ^^^ f n) := sml_dn (sml_x hs fun j hj => (hE n (by omega) h0).2 j hj) (by rw [b_xor, hb, (hE n (by omega) h0).1]; rfl)
        show red (lrF f n (x ^^^ f n)) n (if bt y n then y ^^^ lrF f n (x ^^^ f n) n else y) = 0 ↔ red f n (if bt y n then y ^^^ f n else y) = 0 ∨ red f n (if bt (y ^^^ x) n then (y ^^^ x) ^^^ f n else y ^^^ x) = 0
        rw [lrF_hi n _ n (Nat.le_refl n), lr_ker hE n _ (by omega) s1]
        have h2 : (if bt (y ^^^ x) n then (y ^^^ x) ^^^ f n else y ^^^ x) = (if bt y n then y ^^^ f n else y) ^^^ (x ^^^ f n) := by
          rw [hbx _ hb]
          cases hy : bt y n
          · show (y ^^^ x) ^^^ f n = y ^^^ (x ^^^ f n); exact xor_a _ _ _
          · show y ^^^ x = (y ^^^ f n) ^^^ (x ^^^ f n); rw [xor_m, xor_x, xor_0]
        rw [h2]
    · have hbf : bt x n = false := by cases h : bt x n; rfl; exact absurd h hb
      have e1 : lrF f (n + 1) x = lrF f n x := by show (if _ then _ else _) = _; rw [if_neg hb]
      rw [e1]
      show red (lrF f n x) n (if bt y n then y ^^^ lrF f n x n else y) = 0 ↔ red f n (if bt y n then y ^^^ f n else y) = 0 ∨ red f n (if bt (y ^^^ x) n then (y ^^^ x) ^^^ f n else y ^^^ x) = 0
      rw [lrF_hi n _ n (Nat.le_refl n), lr_ker hE n _ (by omega) (sml_dn hs hbf)]
      have h2 : (if bt (y ^^^ x) n then (y ^^^ x) ^^^ f n else y ^^^ x) = (if bt y n then y ^^^ f n else y) ^^^ x := by
        rw [hbx _ hbf]
        cases hy : bt y n
        · rfl
        · show (y ^^^ x) ^^^ f n = (y ^^^ f n) ^^^ x; rw [xor_a, xor_c x, ← xor_a]
      rw [h2]
theorem lr_gr {f : Nat → Int32} (hE : Ech f) : ∀ (n : Nat) (x : Int32), n ≤ 16 → sml n x → lrG f n x = if red f n x = 0 then 0 else 1
  | 0, x, _, hs => by rw [sml_0 hs]; rfl
  | n + 1, x, hn, hs => by
    show (if bt x n then (if f n = 0 then 1 else lrG f n (x ^^^ f n)) else lrG f n x) = if red f n (if bt x n then x ^^^ f n else x) = 0 then 0 else 1
    by_cases hb : bt x n = true
    · rw [if_pos hb, if_pos hb]
      by_cases h0 : f n = 0
      · rw [if_pos h0, if_neg]
        rw [h0, xor_0]
        exact bx_ne (i := n) (by rw [red_hi hE n x n (by omega) (Nat.le_refl n), hb, b_0]; decide)
      · rw [if_neg h0]
        exact lr_gr hE n _ (by omega) (sml_dn (sml_x hs fun j hj => (hE n (by omega) h0).2 j hj) (by rw [b_xor, hb, (hE n (by omega) h0).1]; rfl))
    · rw [if_neg hb, if_neg hb]
      exact lr_gr hE n _ (by omega) (sml_dn hs (by cases h : bt x n; rfl; exact absurd h hb))
/-- the reference's rows: what is left is put at its highest place -/
def hig (x : Int32) : Nat → Int32
  | 0 => -1
  | n + 1 => if bt x n then nI n else hig x n
def hiN (x : Int32) : Nat → Nat
  | 0 => 0
  | n + 1 => if bt x n then n else hiN x n
theorem hi_eq {x : Int32} : ∀ (n : Nat), ¬ sml 0 x → sml n x → hig x n = nI (hiN x n) ∧ hiN x n < n ∧ bt x (hiN x n) = true ∧ sml (hiN x n + 1) x
  | 0, h, hs => absurd hs h
  | n + 1, h, hs => by
    show (if bt x n then nI n else hig x n) = nI (if bt x n then n else hiN x n) ∧ (if bt x n then n else hiN x n) < n + 1 ∧ bt x (if bt x n then n else hiN x n) = true ∧ sml ((if bt x n then n else hiN x n) + 1) x
    by_cases hb : bt x n = true
    · rw [if_pos hb, if_pos hb]; exact ⟨rfl, Nat.lt_succ_self n, hb, hs⟩
    · rw [if_neg hb, if_neg hb]
      obtain ⟨a, b, c, d⟩ := hi_eq n h (sml_dn hs (by cases h : bt x n; rfl; exact absurd h hb))
      exact ⟨a, by omega, c, d⟩
def mlF (f : Nat → Int32) (x : Int32) : Nat → Int32 := if red f 16 x = 0 then f else upd f (hiN (red f 16 x) 16) (red f 16 x)
theorem red_fix {f : Nat → Int32} (hE : Ech f) (x : Int32) : ∀ n, n ≤ 16 → red f n (red f 16 x) = red f 16 x
  | 0, _ => rfl
  | n + 1, hn => by
    show red f n (if bt (red f 16 x) n then _ else _) = _
    by_cases h0 : f n = 0
    · rw [h0, xor_0, ite_self]; exact red_fix hE x n (by omega)
    · rw [red_bit hE h0 16 x (Nat.le_refl _) (by omega)]; exact red_fix hE x n (by omega)
theorem red_sml {f : Nat → Int32} (hE : Ech f) {x : Int32} (hs : sml 16 x) (n : Nat) (hn : n ≤ 16) : sml 16 (red f n x) := fun j hj => by
  rw [red_hi hE n x j hn (by omega)]; exact hs j hj
theorem ml_ker {f : Nat → Int32} (hE : Ech f) {x : Int32} (hs : sml 16 x) : Ech (mlF f x) ∧ ∀ y, red (mlF f x) 16 y = 0 ↔ red f 16 y = 0 ∨ red f 16 (y ^^^ x) = 0 := by
  unfold mlF
  by_cases h0 : red f 16 x = 0
  · rw [if_pos h0]
    exact ⟨hE, fun y => by rw [red_x, h0, xor_0]; exact (or_self_iff).symm⟩
  · rw [if_neg h0]
    have hr := red_sml hE hs 16 (Nat.le_refl _)
    have hrf := fun n hn => red_fix hE x n hn
    have hpv : ∀ k, k < 16 → f k ≠ 0 → bt (red f 16 x) k = false := fun k hk q => red_bit hE q 16 x (Nat.le_refl _) hk
    obtain ⟨L, hL⟩ : ∃ L, L = red f 16 x := ⟨_, rfl⟩
    rw [← hL] at h0 hr hrf hpv ⊢
    have hn0 : ¬ sml 0 L := fun q => h0 (sml_0 q)
    obtain ⟨-, hk, hbk, hsk⟩ := hi_eq 16 hn0 hr
    generalize hiN L 16 = k at hk hbk hsk ⊢
    have hfk : f k = 0 := Classical.byContradiction fun q => by rw [hpv k hk q] at hbk; cases hbk
    constructor
    · intro j hj hne
      by_cases e : j = k
      · subst e
        have : upd f j L j = L := if_pos rfl
        rw [this]
        exact ⟨hbk, fun i hi => hsk i hi⟩
      · have : upd f k L j = f j := if_neg e
        rw [this] at hne ⊢
        exact hE j hj hne
    · intro y
      have main : ∀ n, k < n → n ≤ 16 → ∀ y, red (upd f k L) n y = if bt (red f n y) k then red f n y ^^^ L else red f n y := by
        intro n
        induction n with
        | zero => intro h; exact absurd h (Nat.not_lt_zero k)
        | succ n ih =>
          intro hkn hn y
          rcases Nat.lt_or_ge k n with q | q
          · show red (upd f k L) n (if bt y n then y ^^^ upd f k L n else y) = if bt (red f n (if bt y n then y ^^^ f n else y)) k then red f n (if bt y n then y ^^^ f n else y) ^^^ L else red f n (if bt y n then y ^^^ f n else y)
            have un : upd f k L n = f n := if_neg (by omega)
            rw [un]
            exact ih q (by omega) _
          · have e : n = k := by omega
            subst e
            show red (upd f n L) n (if bt y n then y ^^^ upd f n L n else y) = if bt (red f n (if bt y n then y ^^^ f n else y)) n then red f n (if bt y n then y ^^^ f n else y) ^^^ L else red f n (if bt y n then y ^^^ f n else y)
            have un : upd f n L n = L := if_pos rfl
            rw [un, hfk, xor_0, ite_self, red_hi hE n y n (by omega) (Nat.le_refl n)]
            have uc : ∀ z, red (upd f n L) n z = red f n z := fun z => red_cong n z (fun j hj => if_neg (by omega))
            rw [uc]
            cases bt y n
            · rfl
            · show red f n (y ^^^ L) = red f n y ^^^ L
              rw [red_x, hrf n (by omega)]
      rw [main 16 hk (Nat.le_refl _) y, red_x, ← hL, xor_e]
      cases hb : bt (red f 16 y) k
      · constructor
        · intro q; exact Or.inl (by simpa using q)
        · rintro (q | q)
          · simpa using q
          · rw [q, hbk] at hb; cases hb
      · constructor
        · intro q; exact Or.inr (xor_e.mp (by simpa using q))
        · rintro (q | q)
          · rw [q, b_0] at hb; cases hb
          · simp [q, xor_x]
/-! what answers tell, one after another: c says which count, S their sets -/
def rws (c : Nat → Bool) (S : Nat → Int32) : Nat → (Nat → Int32)
  | 0 => fun _ => 0
  | a + 1 => if c a then lrF (rws c S a) 16 (S a) else rws c S a
def cnt (c : Nat → Bool) (S : Nat → Int32) : Nat → Nat
  | 0 => 0
  | a + 1 => cnt c S a + (if c a then lrG (rws c S a) 16 (S a) else 0)
def mrw (c : Nat → Bool) (S : Nat → Int32) : Nat → (Nat → Int32)
  | 0 => fun _ => 0
  | a + 1 => if c a then mlF (mrw c S a) (S a) else mrw c S a
def mct (c : Nat → Bool) (S : Nat → Int32) : Nat → Nat
  | 0 => 0
  | a + 1 => mct c S a + (if c a && !decide (red (mrw c S a) 16 (S a) = 0) then 1 else 0)
def spn (c : Nat → Bool) (S : Nat → Int32) : Nat → Int32 → Prop
  | 0, y => y = 0
  | a + 1, y => spn c S a y ∨ (c a = true ∧ spn c S a (y ^^^ S a))
theorem red_0 : ∀ (n : Nat) (x : Int32), red (fun _ => 0) n x = x
  | 0, _ => rfl
  | n + 1, x => by show red _ n (if bt x n then x ^^^ 0 else x) = x; rw [xor_0, ite_self]; exact red_0 n x
theorem ech_0 : Ech (fun _ => 0) := fun _ _ h => absurd rfl h
theorem rws_ok {c : Nat → Bool} {S : Nat → Int32} : ∀ (n : Nat), (∀ a, a < n → c a = true → sml 16 (S a)) → Ech (rws c S n) ∧ ∀ y, red (rws c S n) 16 y = 0 ↔ spn c S n y
  | 0, _ => ⟨ech_0, fun y => by show red (fun _ => 0) 16 y = 0 ↔ _; rw [red_0]; exact Iff.rfl⟩
  | n + 1, h => by
    obtain ⟨hE, hk⟩ := rws_ok n (fun a ha => h a (by omega))
    show Ech (if c n then _ else _) ∧ ∀ y, red (if c n then _ else _) 16 y = 0 ↔ _
    by_cases hc : c n = true
    · rw [if_pos hc]
      have hs := h n (Nat.lt_succ_self n) hc
      refine ⟨lr_ech hE 16 _ (Nat.le_refl _) hs, fun y => ?_⟩
      rw [lr_ker hE 16 _ (Nat.le_refl _) hs, hk, hk]
      exact ⟨fun q => q.elim Or.inl (fun q => Or.inr ⟨hc, q⟩), fun q => q.elim Or.inl (fun q => Or.inr q.2)⟩
    · rw [if_neg hc]
      refine ⟨hE, fun y => ?_⟩
      rw [hk]
      exact ⟨Or.inl, fun q => q.elim id (fun q => absurd q.1 hc)⟩
theorem mrw_ok {c : Nat → Bool} {S : Nat → Int32} : ∀ (n : Nat), (∀ a, a < n → c a = true → sml 16 (S a)) → Ech (mrw c S n) ∧ ∀ y, red (mrw c S n) 16 y = 0 ↔ spn c S n y
  | 0, _ => ⟨ech_0, fun y => by show red (fun _ => 0) 16 y = 0 ↔ _; rw [red_0]; exact Iff.rfl⟩
  | n + 1, h => by
    obtain ⟨hE, hk⟩ := mrw_ok n (fun a ha => h a (by omega))
    show Ech (if c n then _ else _) ∧ ∀ y, red (if c n then _ else _) 16 y = 0 ↔ _
    by_cases hc : c n = true
    · rw [if_pos hc]
      have hs := h n (Nat.lt_succ_self n) hc
      obtain ⟨m1, m2⟩ := ml_ker hE hs
      refine ⟨m1, fun y => ?_⟩
      rw [m2, hk, hk]
      exact ⟨fun q => q.elim Or.inl (fun q => Or.inr ⟨hc, q⟩), fun q => q.elim Or.inl (fun q => Or.inr q.2)⟩
    · rw [if_neg hc]
      refine ⟨hE, fun y => ?_⟩
      rw [hk]
      exact ⟨Or.inl, fun q => q.elim id (fun q => absurd q.1 hc)⟩
theorem mr_eq {c : Nat → Bool} {S : Nat → Int32} {n : Nat} (h : ∀ a, a < n → c a = true → sml 16 (S a)) (y : Int32) : red (mrw c S n) 16 y = 0 ↔ red (rws c S n) 16 y = 0 :=
  ((mrw_ok n h).2 y).trans ((rws_ok n h).2 y).symm
theorem mct_eq {c : Nat → Bool} {S : Nat → Int32} : ∀ (n : Nat), (∀ a, a < n → c a = true → sml 16 (S a)) → mct c S n = cnt c S n
  | 0, _ => rfl
  | n + 1, h => by
    show mct c S n + _ = cnt c S n + _
    rw [mct_eq n (fun a ha => h a (by omega))]
    by_cases hc : c n = true
    · rw [hc, if_pos rfl, lr_gr (rws_ok n (fun a ha => h a (by omega))).1 16 _ (Nat.le_refl _) (h n (Nat.lt_succ_self n) hc)]
      by_cases q : red (rws c S n) 16 (S n) = 0
      · rw [if_pos q, decide_eq_true ((mr_eq (fun a ha => h a (by omega)) _).mpr q)]; rfl
      · rw [if_neg q, decide_eq_false (fun z => q ((mr_eq (fun a ha => h a (by omega)) _).mp z))]; rfl
    · have hf : c n = false := by cases h : c n; rfl; exact absurd h hc
      rw [hf]; rfl
theorem cnt_le {c : Nat → Bool} {S : Nat → Int32} (n : Nat) : cnt c S n ≤ n := by
  have g1 : ∀ (f : Nat → Int32) (k : Nat) (x : Int32), lrG f k x ≤ 1 := by
    intro f k
    induction k with
    | zero => intro x; exact Nat.zero_le _
    | succ k ih =>
      intro x
      show (if bt x k then (if f k = 0 then 1 else lrG f k (x ^^^ f k)) else lrG f k x) ≤ 1
      split
      · split
        · exact Nat.le_refl _
        · exact ih _
      · exact ih _
  induction n with
  | zero => exact Nat.le_refl _
  | succ n ih =>
    show cnt c S n + (if c n then lrG (rws c S n) 16 (S n) else 0) ≤ n + 1
    have := g1 (rws c S n) 16 (S n)
    split <;> omega
end
section
theorem at_IAE : ∀ w ∈ Bundle.ownAtoms "Dataroom" 193 "java/lang/IllegalArgumentException" ["java/lang/RuntimeException", "java/lang/Exception"], vx_no w = true → (w ∈ WS ∨ w ∈ NB) := by
  refine List.forall_mem_append.mpr ⟨List.forall_mem_append.mpr ⟨List.forall_mem_append.mpr ⟨?_, ?_⟩, ?_⟩, ?_⟩
  · exact List.forall_mem_cons.mpr ⟨fun _ => Or.inl qw_8, List.forall_mem_cons.mpr ⟨fun _ => Or.inl qw_141, List.forall_mem_cons.mpr ⟨fun _ => Or.inl qw_150, List.forall_mem_cons.mpr ⟨fun _ => Or.inl qw_154, List.forall_mem_cons.mpr ⟨fun _ => Or.inl qw_157, List.forall_mem_cons.mpr ⟨fun _ => Or.inr nw_159, List.forall_mem_cons.mpr ⟨fun _ => Or.inl qw_142, List.forall_mem_cons.mpr ⟨fun _ => Or.inl qw_143, List.forall_mem_cons.mpr ⟨fun _ => Or.inl qw_31, List.forall_mem_cons.mpr ⟨fun _ => Or.inl qw_32, List.forall_mem_cons.mpr ⟨fun _ => Or.inl qw_144, List.forall_mem_cons.mpr ⟨fun _ => Or.inl qw_149, List.forall_mem_cons.mpr ⟨fun _ => Or.inl qw_155, List.forall_mem_cons.mpr ⟨fun _ => Or.inl qw_175, List.forall_mem_cons.mpr ⟨fun _ => Or.inl qw_131, List.forall_mem_cons.mpr ⟨fun _ => Or.inl qw_176, List.forall_mem_cons.mpr ⟨fun _ => Or.inl qw_133, List.forall_mem_cons.mpr ⟨fun _ => Or.inl qw_177, List.forall_mem_cons.mpr ⟨fun _ => Or.inl qw_135, List.forall_mem_cons.mpr ⟨fun _ => Or.inl qw_145, List.forall_mem_cons.mpr ⟨fun h => absurd h (by decide +kernel), List.forall_mem_cons.mpr ⟨fun _ => Or.inl qw_147, List.forall_mem_cons.mpr ⟨fun h => absurd h (by decide +kernel), List.forall_mem_cons.mpr ⟨fun _ => Or.inl qw_137, fun _ h => nomatch h⟩⟩⟩⟩⟩⟩⟩⟩⟩⟩⟩⟩⟩⟩⟩⟩⟩⟩⟩⟩⟩⟩⟩⟩
  · exact List.forall_mem_cons.mpr ⟨fun _ => Or.inl qw_171, List.forall_mem_cons.mpr ⟨fun _ => Or.inl qw_172, List.forall_mem_cons.mpr ⟨fun _ => Or.inl qw_174, List.forall_mem_cons.mpr ⟨fun _ => Or.inl qw_137, fun _ h => nomatch h⟩⟩⟩⟩
  · refine List.forall_mem_append.mpr ⟨?_, List.forall_mem_append.mpr ⟨?_, ?_⟩⟩
    · exact List.forall_mem_cons.mpr ⟨fun _ => Or.inl qw_162, List.forall_mem_cons.mpr ⟨fun _ => Or.inl qw_163, List.forall_mem_cons.mpr ⟨fun _ => Or.inl qw_164, List.forall_mem_cons.mpr ⟨fun _ => Or.inl qw_165, List.forall_mem_cons.mpr ⟨fun _ => Or.inr nw_123, fun _ h => nomatch h⟩⟩⟩⟩⟩
    · exact List.forall_mem_cons.mpr ⟨fun _ => Or.inl qw_165, List.forall_mem_cons.mpr ⟨fun _ => Or.inl qw_166, List.forall_mem_cons.mpr ⟨fun _ => Or.inl qw_167, List.forall_mem_cons.mpr ⟨fun _ => Or.inl qw_168, List.forall_mem_cons.mpr ⟨fun _ => Or.inr nw_125, fun _ h => nomatch h⟩⟩⟩⟩⟩
    · exact List.forall_mem_cons.mpr ⟨fun _ => Or.inl qw_168, List.forall_mem_cons.mpr ⟨fun _ => Or.inl qw_169, List.forall_mem_cons.mpr ⟨fun _ => Or.inl qw_170, List.forall_mem_cons.mpr ⟨fun _ => Or.inl qw_171, List.forall_mem_cons.mpr ⟨fun _ => Or.inr nw_127, fun _ h => nomatch h⟩⟩⟩⟩⟩
  · exact List.forall_mem_cons.mpr ⟨fun _ => Or.inl qw_161, List.forall_mem_cons.mpr ⟨fun _ => Or.inl qw_120, List.forall_mem_cons.mpr ⟨fun _ => Or.inr nw_121, List.forall_mem_cons.mpr ⟨fun _ => Or.inl qw_128, List.forall_mem_cons.mpr ⟨fun _ => Or.inl qw_129, List.forall_mem_cons.mpr ⟨fun _ => Or.inl qw_130, List.forall_mem_cons.mpr ⟨fun _ => Or.inl qw_132, List.forall_mem_cons.mpr ⟨fun _ => Or.inl qw_134, List.forall_mem_cons.mpr ⟨fun _ => Or.inl qw_136, List.forall_mem_cons.mpr ⟨fun h => absurd h (by decide +kernel), List.forall_mem_cons.mpr ⟨fun h => absurd h (by decide +kernel), List.forall_mem_cons.mpr ⟨fun _ => Or.inl qw_173, List.forall_mem_cons.mpr ⟨fun _ => Or.inl qw_139, List.forall_mem_cons.mpr ⟨fun _ => Or.inl qw_138, fun _ h => nomatch h⟩⟩⟩⟩⟩⟩⟩⟩⟩⟩⟩⟩⟩⟩
theorem at_ISE : ∀ w ∈ Bundle.ownAtoms "Dataroom" 48 "java/lang/IllegalStateException" ["java/lang/RuntimeException", "java/lang/Exception"], vx_no w = true → (w ∈ WS ∨ w ∈ NB) := by
  refine List.forall_mem_append.mpr ⟨List.forall_mem_append.mpr ⟨List.forall_mem_append.mpr ⟨?_, ?_⟩, ?_⟩, ?_⟩
  · exact List.forall_mem_cons.mpr ⟨fun _ => Or.inl qw_8, List.forall_mem_cons.mpr ⟨fun _ => Or.inl qw_141, List.forall_mem_cons.mpr ⟨fun _ => Or.inl qw_150, List.forall_mem_cons.mpr ⟨fun _ => Or.inl qw_154, List.forall_mem_cons.mpr ⟨fun _ => Or.inl qw_157, List.forall_mem_cons.mpr ⟨fun _ => Or.inr nw_159, List.forall_mem_cons.mpr ⟨fun _ => Or.inl qw_142, List.forall_mem_cons.mpr ⟨fun _ => Or.inl qw_143, List.forall_mem_cons.mpr ⟨fun _ => Or.inl qw_31, List.forall_mem_cons.mpr ⟨fun _ => Or.inl qw_32, List.forall_mem_cons.mpr ⟨fun _ => Or.inl qw_144, List.forall_mem_cons.mpr ⟨fun _ => Or.inl qw_149, List.forall_mem_cons.mpr ⟨fun _ => Or.inl qw_155, List.forall_mem_cons.mpr ⟨fun _ => Or.inl qw_175, List.forall_mem_cons.mpr ⟨fun _ => Or.inl qw_131, List.forall_mem_cons.mpr ⟨fun _ => Or.inl qw_176, List.forall_mem_cons.mpr ⟨fun _ => Or.inl qw_133, List.forall_mem_cons.mpr ⟨fun _ => Or.inl qw_177, List.forall_mem_cons.mpr ⟨fun _ => Or.inl qw_135, List.forall_mem_cons.mpr ⟨fun _ => Or.inl qw_145, List.forall_mem_cons.mpr ⟨fun h => absurd h (by decide +kernel), List.forall_mem_cons.mpr ⟨fun _ => Or.inl qw_147, List.forall_mem_cons.mpr ⟨fun h => absurd h (by decide +kernel), List.forall_mem_cons.mpr ⟨fun _ => Or.inl qw_137, fun _ h => nomatch h⟩⟩⟩⟩⟩⟩⟩⟩⟩⟩⟩⟩⟩⟩⟩⟩⟩⟩⟩⟩⟩⟩⟩⟩
  · exact List.forall_mem_cons.mpr ⟨fun _ => Or.inl qw_171, List.forall_mem_cons.mpr ⟨fun _ => Or.inl qw_172, List.forall_mem_cons.mpr ⟨fun _ => Or.inl qw_174, List.forall_mem_cons.mpr ⟨fun _ => Or.inl qw_137, fun _ h => nomatch h⟩⟩⟩⟩
  · refine List.forall_mem_append.mpr ⟨?_, List.forall_mem_append.mpr ⟨?_, ?_⟩⟩
    · exact List.forall_mem_cons.mpr ⟨fun _ => Or.inl qw_202, List.forall_mem_cons.mpr ⟨fun _ => Or.inl qw_203, List.forall_mem_cons.mpr ⟨fun _ => Or.inl qw_204, List.forall_mem_cons.mpr ⟨fun _ => Or.inl qw_165, List.forall_mem_cons.mpr ⟨fun _ => Or.inr nw_123, fun _ h => nomatch h⟩⟩⟩⟩⟩
    · exact List.forall_mem_cons.mpr ⟨fun _ => Or.inl qw_165, List.forall_mem_cons.mpr ⟨fun _ => Or.inl qw_166, List.forall_mem_cons.mpr ⟨fun _ => Or.inl qw_167, List.forall_mem_cons.mpr ⟨fun _ => Or.inl qw_168, List.forall_mem_cons.mpr ⟨fun _ => Or.inr nw_125, fun _ h => nomatch h⟩⟩⟩⟩⟩
    · exact List.forall_mem_cons.mpr ⟨fun _ => Or.inl qw_168, List.forall_mem_cons.mpr ⟨fun _ => Or.inl qw_169, List.forall_mem_cons.mpr ⟨fun _ => Or.inl qw_170, List.forall_mem_cons.mpr ⟨fun _ => Or.inl qw_171, List.forall_mem_cons.mpr ⟨fun _ => Or.inr nw_127, fun _ h => nomatch h⟩⟩⟩⟩⟩
  · exact List.forall_mem_cons.mpr ⟨fun _ => Or.inl qw_201, List.forall_mem_cons.mpr ⟨fun _ => Or.inl qw_192, List.forall_mem_cons.mpr ⟨fun _ => Or.inr nw_193, List.forall_mem_cons.mpr ⟨fun _ => Or.inl qw_194, List.forall_mem_cons.mpr ⟨fun _ => Or.inl qw_152, List.forall_mem_cons.mpr ⟨fun _ => Or.inl qw_195, List.forall_mem_cons.mpr ⟨fun _ => Or.inl qw_196, List.forall_mem_cons.mpr ⟨fun _ => Or.inl qw_197, List.forall_mem_cons.mpr ⟨fun _ => Or.inl qw_198, List.forall_mem_cons.mpr ⟨fun h => absurd h (by decide +kernel), List.forall_mem_cons.mpr ⟨fun h => absurd h (by decide +kernel), List.forall_mem_cons.mpr ⟨fun _ => Or.inl qw_173, List.forall_mem_cons.mpr ⟨fun _ => Or.inl qw_139, List.forall_mem_cons.mpr ⟨fun _ => Or.inl qw_199, fun _ h => nomatch h⟩⟩⟩⟩⟩⟩⟩⟩⟩⟩⟩⟩⟩⟩
theorem at_IOB : ∀ w ∈ Bundle.ownAtoms "Dataroom" 147 "java/lang/IndexOutOfBoundsException" ["java/lang/RuntimeException", "java/lang/Exception"], vx_no w = true → (w ∈ WS ∨ w ∈ NB) := by
  refine List.forall_mem_append.mpr ⟨List.forall_mem_append.mpr ⟨List.forall_mem_append.mpr ⟨?_, ?_⟩, ?_⟩, ?_⟩
  · exact List.forall_mem_cons.mpr ⟨fun _ => Or.inl qw_8, List.forall_mem_cons.mpr ⟨fun _ => Or.inl qw_141, List.forall_mem_cons.mpr ⟨fun _ => Or.inl qw_150, List.forall_mem_cons.mpr ⟨fun _ => Or.inl qw_154, List.forall_mem_cons.mpr ⟨fun _ => Or.inl qw_157, List.forall_mem_cons.mpr ⟨fun _ => Or.inr nw_159, List.forall_mem_cons.mpr ⟨fun _ => Or.inl qw_142, List.forall_mem_cons.mpr ⟨fun _ => Or.inl qw_143, List.forall_mem_cons.mpr ⟨fun _ => Or.inl qw_31, List.forall_mem_cons.mpr ⟨fun _ => Or.inl qw_32, List.forall_mem_cons.mpr ⟨fun _ => Or.inl qw_144, List.forall_mem_cons.mpr ⟨fun _ => Or.inl qw_149, List.forall_mem_cons.mpr ⟨fun _ => Or.inl qw_155, List.forall_mem_cons.mpr ⟨fun _ => Or.inl qw_175, List.forall_mem_cons.mpr ⟨fun _ => Or.inl qw_131, List.forall_mem_cons.mpr ⟨fun _ => Or.inl qw_176, List.forall_mem_cons.mpr ⟨fun _ => Or.inl qw_133, List.forall_mem_cons.mpr ⟨fun _ => Or.inl qw_177, List.forall_mem_cons.mpr ⟨fun _ => Or.inl qw_135, List.forall_mem_cons.mpr ⟨fun _ => Or.inl qw_145, List.forall_mem_cons.mpr ⟨fun h => absurd h (by decide +kernel), List.forall_mem_cons.mpr ⟨fun _ => Or.inl qw_147, List.forall_mem_cons.mpr ⟨fun h => absurd h (by decide +kernel), List.forall_mem_cons.mpr ⟨fun _ => Or.inl qw_137, fun _ h => nomatch h⟩⟩⟩⟩⟩⟩⟩⟩⟩⟩⟩⟩⟩⟩⟩⟩⟩⟩⟩⟩⟩⟩⟩⟩
  · exact List.forall_mem_cons.mpr ⟨fun _ => Or.inl qw_171, List.forall_mem_cons.mpr ⟨fun _ => Or.inl qw_172, List.forall_mem_cons.mpr ⟨fun _ => Or.inl qw_174, List.forall_mem_cons.mpr ⟨fun _ => Or.inl qw_137, fun _ h => nomatch h⟩⟩⟩⟩
  · refine List.forall_mem_append.mpr ⟨?_, List.forall_mem_append.mpr ⟨?_, ?_⟩⟩
    · exact List.forall_mem_cons.mpr ⟨fun _ => Or.inl qw_308, List.forall_mem_cons.mpr ⟨fun _ => Or.inl qw_309, List.forall_mem_cons.mpr ⟨fun _ => Or.inl qw_310, List.forall_mem_cons.mpr ⟨fun _ => Or.inl qw_165, List.forall_mem_cons.mpr ⟨fun _ => Or.inr nw_123, fun _ h => nomatch h⟩⟩⟩⟩⟩
    · exact List.forall_mem_cons.mpr ⟨fun _ => Or.inl qw_165, List.forall_mem_cons.mpr ⟨fun _ => Or.inl qw_166, List.forall_mem_cons.mpr ⟨fun _ => Or.inl qw_167, List.forall_mem_cons.mpr ⟨fun _ => Or.inl qw_168, List.forall_mem_cons.mpr ⟨fun _ => Or.inr nw_125, fun _ h => nomatch h⟩⟩⟩⟩⟩
    · exact List.forall_mem_cons.mpr ⟨fun _ => Or.inl qw_168, List.forall_mem_cons.mpr ⟨fun _ => Or.inl qw_169, List.forall_mem_cons.mpr ⟨fun _ => Or.inl qw_170, List.forall_mem_cons.mpr ⟨fun _ => Or.inl qw_171, List.forall_mem_cons.mpr ⟨fun _ => Or.inr nw_127, fun _ h => nomatch h⟩⟩⟩⟩⟩
  · exact List.forall_mem_cons.mpr ⟨fun _ => Or.inl qw_307, List.forall_mem_cons.mpr ⟨fun _ => Or.inl qw_298, List.forall_mem_cons.mpr ⟨fun _ => Or.inr nw_299, List.forall_mem_cons.mpr ⟨fun _ => Or.inl qw_300, List.forall_mem_cons.mpr ⟨fun _ => Or.inl qw_153, List.forall_mem_cons.mpr ⟨fun _ => Or.inl qw_301, List.forall_mem_cons.mpr ⟨fun _ => Or.inl qw_302, List.forall_mem_cons.mpr ⟨fun _ => Or.inl qw_303, List.forall_mem_cons.mpr ⟨fun _ => Or.inl qw_304, List.forall_mem_cons.mpr ⟨fun h => absurd h (by decide +kernel), List.forall_mem_cons.mpr ⟨fun h => absurd h (by decide +kernel), List.forall_mem_cons.mpr ⟨fun _ => Or.inl qw_173, List.forall_mem_cons.mpr ⟨fun _ => Or.inl qw_139, List.forall_mem_cons.mpr ⟨fun _ => Or.inl qw_305, fun _ h => nomatch h⟩⟩⟩⟩⟩⟩⟩⟩⟩⟩⟩⟩⟩⟩
theorem nb_ot {w : Cond} (h : w ∈ NB) : w.onTables = true := by
  have g := (List.mem_filter.mp h).2
  cases w with
  | castable a b => rfl
  | methodLinkNest a i x k => rfl
  | fieldLinkNest a i b n d k => rfl
  | native x => rfl
  | declares x => rfl
  | _ => cases g
abbrev xnm : List String := ["java/lang/RuntimeException", "java/lang/Exception"]
section XTH
variable {p : Program} {l : Launch} {e : Env} {R : Room} {s : State} {m : MethodId} {args : Array Value} {below : List Frame} {meth : Method} {c : Code} {H : Heap} {locs : List Loc} {cells slots mc ms : Nat} {Q : State → Prop}
variable {cc : ByteArray} {pc nL : Nat} {ls : Array Slot} {rest : List Value} {own : String} {ret : Option FieldType} {E : xE} {base : Nat} {al : Tg → Nat} {w : Tg → Option va_E}
theorem x_throw (C : XC p s m args meth c "Dataroom" cc nL ret E base) (het : ∀ x ∈ c.exceptionTable.toList, False) (hfl : l.stackTraces = false) {X text : String} {ik is ic : Nat} {post : Option Value → Heap → Prop} {px : String → Heap → Prop} (hat : ∀ w ∈ Bundle.ownAtoms "Dataroom" ic X xnm, vx_no w = true → (w ∈ WS ∨ w ∈ NB)) (hk : Cond.classLink "Dataroom" ik X ∈ WS) (hini : Cond.initialized X ∈ WS) (htx : (is, text) ∈ xtx) (hfit : Bundle.fit X = true) (hS : va_S (xA base) s.heap H locs) (hsize : ls.size = nL)
    (d0 : decode cc pc = .ok (.new ik, 3)) (d3 : decode cc (pc + 3) = .ok (.dup, 1)) (d4 : decode cc (pc + 4) = .ok (.ldc is, 2)) (d6 : decode cc (pc + 6) = .ok (.invokespecial ic, 3)) (d9 : decode cc (pc + 9) = .ok (.athrow, 1))
    (hRf : 5 < R.frames) (hRl : (rest.map fun v => v.category).sum + 82 ≤ R.locals) (hRc : cells + 1 ≤ R.cells) (hRs : slots + 6 ≤ R.slots) (hc : cells + 1 ≤ mc) (hs : slots + 6 ≤ ms)
    (hp : ∀ H1 : Heap, (∀ q : Nat, q < H.size → H1[q]? = H[q]?) → px X H1) : W p l e R s m args below meth c H locs cells slots (vx_MQ below (xQ base post) (xX base px) args s mc ms (xA base)) (F0 m pc ls rest) := by
  have key : ∀ w ∈ vx_atS "Dataroom" ic X xnm, w ∈ WS ∨ w ∈ NB := fun w hw => hat w (List.mem_filter.mp hw).1 (List.mem_filter.mp hw).2
  have good : ∀ w ∈ WS, vx_ot w = true := fun w hw => by unfold vx_ot; rw [(List.mem_filter.mp hw).2, Bool.or_true]
  refine vx_throwS (names := xnm) (A := xA base) C.hx C.hb hfl C.hown hfit (by decide +kernel) (C.ws _ hk) (C.ws _ hini) (C.st.2.2.1 _ htx) (fun w hw => ?_) (fun w hw => ?_) C.st.2.2.2.2.2.2.1 C.st.2.2.2.2.2.2.2.1 hS (hsize.trans C.2.2.1.symm) d0 d3 d4 d6 d9 (fun x hx => (het x hx).elim) hRf hRl hRc hRs C.locks (fun t _ hz ho => ⟨hp _ ho, ?_⟩) hS.2.2 hc hs
  · rcases key w hw with h | h
    · exact C.ws w h
    · exact (C.st.nb h).use (nb_ot h)
  · rcases List.mem_cons.mp hw with h | hw
    · rw [h]; exact good _ hk
    · rcases List.mem_cons.mp hw with h | hw
      · rw [h]; exact good _ hini
      · rcases key w hw with h | h
        · exact good w h
        · unfold vx_ot; rw [nb_ot h]; rfl
  · exact ⟨Nat.le_trans hS.1 hz, fun q h1 h2 => (ho q (Nat.lt_of_lt_of_le h1 hS.1)).trans (hS.2.1 q h1 h2)⟩
/-- what a callee threw goes on to the caller -/
theorem x_outX {X : String} {ce : Cell} {q9 : Addr} {post : Option Value → Heap → Prop} {px : String → Heap → Prop} (C : XC p s m args meth c own cc nL ret E base) (het : ∀ x ∈ c.exceptionTable.toList, False) (hS : va_S (xA base) s.heap H locs) (hce : H[q9]? = some ce) (hcv : ce.vm = .none) (hcl : s.vm.findClass X = some ce.cls) (hc : cells ≤ mc) (hs : slots ≤ ms) (hp : px X H) :
    vx_W p l e R s m args below meth c H locs cells slots (vx_MQ below (xQ base post) (xX base px) args s mc ms (xA base)) (F0 m pc ls rest) q9 :=
  vx_out (fun x hx => (het x hx).elim) C.locks hce hcv hcl (fun t ht _ => ⟨by rw [ht]; exact hp, hS.F ht⟩) hS.2.2 hc hs
theorem x_cast (C : XC p s m args meth c own cc nL ret E base) (hH : xH E base al w H) {t : Tg} {ci index : Nat} {fs : List Value} {r : vw_C} (ht : w t = some (.inr (ci, fs))) (hc : vwCl[ci]? = some r) (hl : Cond.classLink own index r.1 ∈ WS) (hdg : decode cc pc = .ok (.checkcast index, 3))
    (kk : W p l e R s m args below meth c H locs cells slots Q (F0 m (pc + 3) ls (.ref (al t) :: rest))) : W p l e R s m args below meth c H locs cells slots Q (F0 m pc ls (.ref (al t) :: rest)) :=
  va_castS C.hx C.hb C.hown (C.ws _ hl) (C.st.K.1 ci r hc).2 (va_recv C.st.K (hH.P ht) hc (q0 := 0) rfl) hdg kk
theorem x_getsL (C : XC p s m args meth c own cc nL ret E base) (hS : va_S (xA base) s.heap H locs) {index : Nat} (hl : Cond.fieldLink own index "Dataroom$Marks" "LACKING" "[J" ∈ WS) (hdg : decode cc pc = .ok (.getstatic index, 3))
    (kk : W p l e R s m args below meth c H locs cells slots Q (F0 m (pc + 3) ls (.ref (E.2.2 0) :: rest))) : W p l e R s m args below meth c H locs cells slots Q (F0 m pc ls rest) :=
  va_gets C.hx C.hb C.st.2.2.2.2.2.2.2.2.1 hS C.hown (C.ws _ hl) (fun _ h => h) hdg kk
theorem x_getsE (C : XC p s m args meth c own cc nL ret E base) (hS : va_S (xA base) s.heap H locs) {index : Nat} (hl : Cond.fieldLink own index "java/util/ArrayList" "DEFAULTCAPACITY_EMPTY_ELEMENTDATA" "[Ljava/lang/Object;" ∈ WS) (hdg : decode cc pc = .ok (.getstatic index, 3))
    (kk : W p l e R s m args below meth c H locs cells slots Q (F0 m (pc + 3) ls (.ref (E.2.2 1) :: rest))) : W p l e R s m args below meth c H locs cells slots Q (F0 m pc ls rest) :=
  va_gets C.hx C.hb C.st.2.2.2.2.2.2.2.2.2.1 hS C.hown (C.ws _ hl) (fun _ h => h) hdg kk
theorem x_atL (C : XC p s m args meth c own cc nL ret E base) (hS : va_S (xA base) s.heap H locs) : va_P E.1 vwCl [(E.2.2 0, .inl (E.2.1 1, 6, .inr (.inl lkf)))] H := by
  have h := C.st
  obtain ⟨-, -, -, -, -, -, -, -, -, -, h13, -, h15, -, h17⟩ := h
  intro k q hk
  have hz : k < 1 := (List.getElem?_eq_some_iff.mp hk).1
  rw [show k = 0 by omega] at hk
  cases hk
  exact h13.kept (hS.2.1 _ (Nat.lt_of_lt_of_le h15 h17) (Nat.not_le.mpr h15))
theorem x_atE (C : XC p s m args meth c own cc nL ret E base) (hS : va_S (xA base) s.heap H locs) : va_P E.1 vwCl [(E.2.2 1, .inl (E.2.1 5, 0, .inr (.inr (.inr (.inr (fun _ => none))))))] H := by
  have h := C.st
  obtain ⟨-, -, -, -, -, -, -, -, -, -, -, h14, -, h16, h17⟩ := h
  intro k q hk
  have hz : k < 1 := (List.getElem?_eq_some_iff.mp hk).1
  rw [show k = 0 by omega] at hk
  cases hk
  exact h14.kept (hS.2.1 _ (Nat.lt_of_lt_of_le h16 h17) (Nat.not_le.mpr h16))
theorem x_lenL (C : XC p s m args meth c own cc nL ret E base) (hS : va_S (xA base) s.heap H locs) (hdg : decode cc pc = .ok (.arraylength, 1))
    (kk : W p l e R s m args below meth c H locs cells slots Q (F0 m (pc + 1) ls (.int (nI 6) :: rest))) : W p l e R s m args below meth c H locs cells slots Q (F0 m pc ls (.ref (E.2.2 0) :: rest)) :=
  va_alen C.hx C.hb C.st.K (x_atL C hS) 0 1 rfl rfl rfl hdg kk
theorem x_lenE (C : XC p s m args meth c own cc nL ret E base) (hS : va_S (xA base) s.heap H locs) (hdg : decode cc pc = .ok (.arraylength, 1))
    (kk : W p l e R s m args below meth c H locs cells slots Q (F0 m (pc + 1) ls (.int (nI 0) :: rest))) : W p l e R s m args below meth c H locs cells slots Q (F0 m pc ls (.ref (E.2.2 1) :: rest)) :=
  va_alen C.hx C.hb C.st.K (x_atE C hS) 0 5 rfl rfl rfl hdg kk
theorem x_laldL (C : XC p s m args meth c own cc nL ret E base) (hS : va_S (xA base) s.heap H locs) {i : Int32} {j : Nat} (hi : i = nI j) (hj : j < 6) (hdg : decode cc pc = .ok (.laload, 1))
    (kk : W p l e R s m args below meth c H locs cells slots Q (F0 m (pc + 1) ls (.long (lkf j) :: rest))) : W p l e R s m args below meth c H locs cells slots Q (F0 m pc ls (.int i :: .ref (E.2.2 0) :: rest)) := by
  subst hi
  exact va_lald C.hx C.hb C.st.K (x_atL C hS) 0 1 rfl rfl (vp_in_nI hj (by decide)) hdg (by rw [nI_clamp (by omega)]; exact kk)
theorem x_astqO (C : XC p s m args meth c own cc nL ret E base) (hH : xH E base al w H) (hS : va_S (xA base) s.heap H locs) {r : vw_C} {ci : Nat} {vs : List Value} {t tv : Tg} {n : Nat} {f : Nat → Option Nat} (ht : w t = some (.inl (E.2.1 5, n, .inr (.inr (.inr (.inr f)))))) (hv : w tv = some (.inr (ci, vs))) (hc : vwCl[ci]? = some r) (hca : Cond.castable r.1 "java/lang/Object" ∈ NB) {i : Int32} {j : Nat} (hi : i = nI j) (hj : j < n) (hn : n < 2 ^ 31) (hdg : decode cc pc = .ok (.aastore, 1))
    (kk : ∀ (H1 : Heap) (locs1 : List Loc), xH E base al (xu w t (.inl (E.2.1 5, n, .inr (.inr (.inr (.inr (va_up f j (some (al tv))))))))) H1 → va_S (xA base) s.heap H1 locs1 → W p l e R s m args below meth c H1 locs1 cells slots Q (F0 m (pc + 1) ls rest)) : W p l e R s m args below meth c H locs cells slots Q (F0 m pc ls (.ref (al tv) :: .int i :: .ref (al t) :: rest)) := by
  subst hi
  have hin := vp_in_nI hj hn
  have h0 : ¬ nI j < 0 := fun q => hin (Or.inl q)
  obtain ⟨r', hr', cellV, g1, g2, g3, -⟩ := (hH.1 tv _ hv).2
  have hcls := (C.st.K.1 ci r hc).2
  obtain ⟨kA, comp, k1, k2, k3, -⟩ := (C.st.K.2 5 _ rfl).2
  obtain ⟨kE, hkE, -⟩ := Vm.findClass_spec k3
  obtain ⟨c0, t1, f1, f2, f3⟩ := Cond.castable_spec (va_Nw.use (A := args) rfl (C.st.nb hca))
  cases hcls.1.symm.trans f1
  cases k3.symm.trans f2
  obtain ⟨kC, hkC, -⟩ := hcls.2
  refine W.aast C.hx C.hb (hH.1 t _ ht).2 (fun q h => by cases h) (fun h => by cases h) k1 k2 rfl hkE ⟨h0, by show _ < (arrV _ _ _).slots.size; rw [arrV_size, nI_clamp (by omega)]; exact hj⟩ g1 (fun q h => by rw [g3] at h; cases h) (by rw [g2]; exact hkC) (by rw [g2]; exact f3) rfl rfl hdg fun H1 e z oq => ?_
  refine kk H1 _ (hH.set ht ?_ oq) (hS.put z oq (hH.1 t _ ht).1)
  show H1[al t]? = some (vp_cell _ _)
  rw [e, nI_clamp (by omega)]
  rw [vp_cell_q, vp_cell_q, arrV_store]
  congr 2
  funext q
  by_cases hq : q = j
  · subst hq
    simp [updV, va_up, va_rf]
  · simp [updV, va_up, hq]
/-- arrays of references that hold the same -/
theorem x_arrQ {t : Tg} {k0 n : Nat} {f g : Nat → Option Nat} (h : ∀ j, j < n → f j = g j) (hH : xH E base al (xu w t (.inl (E.2.1 k0, n, .inr (.inr (.inr (.inr f)))))) H) : xH E base al (xu w t (.inl (E.2.1 k0, n, .inr (.inr (.inr (.inr g)))))) H := by
  have hc : vp_cell (E.2.1 k0) (n, .inr (.inr (.inr (.inr f)))) = vp_cell (E.2.1 k0) (n, .inr (.inr (.inr (.inr g)))) := by
    rw [vp_cell_q, vp_cell_q]
    unfold arrV
    congr 1
    apply Array.ext
    · simp
    · intro i h1 h2
      have hi : i < n := by simpa using h1
      simp [h i hi]
  have h0 := (hH.1 t _ (xu_self _ _ _))
  have h2 := hH.set (xu_self _ _ _) (H1 := H) (e' := .inl (E.2.1 k0, n, .inr (.inr (.inr (.inr g))))) (by show H[al t]? = some _; rw [← hc]; exact h0.2) (fun _ _ => rfl)
  rw [xu_uu] at h2
  exact h2
theorem x_arrI {t : Tg} {k0 n : Nat} {f g : Nat → Int32} (h : ∀ j, j < n → f j = g j) (hH : xH E base al (xu w t (.inl (E.2.1 k0, n, .inl f))) H) : xH E base al (xu w t (.inl (E.2.1 k0, n, .inl g))) H := by
  have hc : vp_cell (E.2.1 k0) (n, .inl f) = vp_cell (E.2.1 k0) (n, .inl g) := by
    rw [vp_cell_i, vp_cell_i]
    unfold arrV
    congr 1
    apply Array.ext
    · simp
    · intro i h1 h2
      have hi : i < n := by simpa using h1
      simp [h i hi]
  have h0 := (hH.1 t _ (xu_self _ _ _))
  have h2 := hH.set (xu_self _ _ _) (H1 := H) (e' := .inl (E.2.1 k0, n, .inl g)) (by show H[al t]? = some _; rw [← hc]; exact h0.2) (fun _ _ => rfl)
  rw [xu_uu] at h2
  exact h2
end XTH
end
section
set_option maxHeartbeats 4000000 in
set_option maxRecDepth 100000 in
theorem c_size (l : Launch) {E : xE} {base : Nat} {al : Tg → Nat} {w : Tg → Option va_E} {tL : Tg} {mc : Int32} {a n : Nat} (hL : w tL = some (.inr (0, [.int mc, .ref a, .int (nI n)]))) : xMet l yJx4a65c_size_8abf5 cJx4a65c_size_8abf5 1 (some (.int)) ({ frames := 0, cells := 0, slots := 0, locals := 0 } : Room) E base [.ref (al tL)] (fun H => xH E base al w H) (fun r H => r = some (.int (nI n)) ∧ xH E base al w H) := by
  refine xMet.of (by decide +kernel) "java/util/ArrayList" rfl (Nat.le_of_ble_eq_true rfl) ?_
  intro p9 e9 s m9 below meth c9 ls C hin hP hS hl
  have hx := C.hx
  have hb := C.hb
  have hH := hP
  have hl : lv_has ls 1 [(0, .ref (al tL))] := hl
  obtain ⟨post, hpost⟩ : ∃ zz9 : Option Value → Heap → Prop, zz9 = (fun r H => r = some (.int (nI n)) ∧ xH E base al w H) := ⟨_, rfl⟩
  rw [← hpost]
  generalize hQ : (MQ below (xQ base post) ([.ref (al tL)] : List Value).toArray s 0 0 (xA base)) = Q
  refine lv_aload_n hx hb dJx4a65c_size_8abf5_0 rfl (lv_at hl 0 rfl) ?_
  refine x_get C hH (ci := 0) (T := TJx4a65c) (N := 3) hL rfl iWJx4a65c 2 (by decide) qw_48 rfl rfl dJx4a65c_size_8abf5_1 ?_
  rw [← hQ]
  refine x_reti C rfl hS (Nat.le_of_ble_eq_true rfl) (Nat.le_of_ble_eq_true rfl) dJx4a65c_size_8abf5_4 ?_
  rw [hpost]
  exact ⟨rfl, hH⟩

set_option maxHeartbeats 4000000 in
set_option maxRecDepth 100000 in
theorem c_pidx (l : Launch) {E : xE} {base : Nat} {al : Tg → Nat} {w : Tg → Option va_E} {i n : Nat} (hi : i < n) (hn : n < 2 ^ 31) : xMet l yJ3_checkIndex_8e157 cJ3_checkIndex_8e157 3 (some (.int)) ({ frames := 0, cells := 0, slots := 0, locals := 0 } : Room) E base [.int (nI i), .int (nI n), .null] (fun H => xH E base al w H) (fun r H => r = some (.int (nI i)) ∧ xH E base al w H) := by
  refine xMet.of (by decide +kernel) "jdk/internal/util/Preconditions" rfl (Nat.le_of_ble_eq_true rfl) ?_
  intro p9 e9 s m9 below meth c9 ls C hin hP hS hl
  have hx := C.hx
  have hb := C.hb
  have hH := hP
  have hl : lv_has ls 3 [(0, .int (nI i)), (1, .int (nI n)), (2, .null)] := hl
  obtain ⟨post, hpost⟩ : ∃ zz9 : Option Value → Heap → Prop, zz9 = (fun r H => r = some (.int (nI i)) ∧ xH E base al w H) := ⟨_, rfl⟩
  rw [← hpost]
  generalize hQ : (MQ below (xQ base post) ([.int (nI i), .int (nI n), .null] : List Value).toArray s 0 0 (xA base)) = Q
  refine lv_iload_n hx hb dJ3_checkIndex_8e157_0 rfl (lv_at hl 0 rfl) ?_
  refine lv_if_lt (tgt := 9) hx hb dJ3_checkIndex_8e157_1 (by decide) (fun c_1 => absurd c_1 (nI_pos (by omega))) (fun _ => ?_)
  refine lv_iload_n hx hb dJ3_checkIndex_8e157_4 rfl (lv_at hl 0 rfl) ?_
  refine lv_iload_n hx hb dJ3_checkIndex_8e157_5 rfl (lv_at hl 1 rfl) ?_
  refine lv_icmp_lt (tgt := 16) hx hb dJ3_checkIndex_8e157_6 (by decide) (fun c_2 => ?_) (fun c_2 => ?_)
  · skip
    replace c_2 := (nI_ltI (by omega) (by omega)).mp c_2
    refine lv_iload_n hx hb dJ3_checkIndex_8e157_16 rfl (lv_at hl 0 rfl) ?_
    rw [← hQ]
    refine x_reti C rfl hS (Nat.le_of_ble_eq_true rfl) (Nat.le_of_ble_eq_true rfl) dJ3_checkIndex_8e157_17 ?_
    rw [hpost]
    exact ⟨rfl, hH⟩
  · skip
    replace c_2 := mt (nI_ltI (by omega) (by omega)).mpr c_2
    exact absurd hi (by omega)

set_option maxHeartbeats 4000000 in
set_option maxRecDepth 100000 in
theorem c_cidx (l : Launch) {E : xE} {base : Nat} {al : Tg → Nat} {w : Tg → Option va_E} {i n : Nat} (hi : i < n) (hn : n < 2 ^ 31) : xMet l yJ15_checkIndex_7cf53 cJ15_checkIndex_7cf53 2 (some (.int)) ({ frames := 1, cells := 0, slots := 0, locals := 22 } : Room) E base [.int (nI i), .int (nI n)] (fun H => xH E base al w H) (fun r H => r = some (.int (nI i)) ∧ xH E base al w H) := by
  refine xMet.of (by decide +kernel) "java/util/Objects" rfl (Nat.le_of_ble_eq_true rfl) ?_
  intro p9 e9 s m9 below meth c9 ls C hin hP hS hl
  have hx := C.hx
  have hb := C.hb
  have hH := hP
  have hl : lv_has ls 2 [(0, .int (nI i)), (1, .int (nI n))] := hl
  obtain ⟨post, hpost⟩ : ∃ zz9 : Option Value → Heap → Prop, zz9 = (fun r H => r = some (.int (nI i)) ∧ xH E base al w H) := ⟨_, rfl⟩
  rw [← hpost]
  generalize hQ : (MQ below (xQ base post) ([.int (nI i), .int (nI n)] : List Value).toArray s 0 0 (xA base)) = Q
  refine lv_iload_n hx hb dJ15_checkIndex_7cf53_0 rfl (lv_at hl 0 rfl) ?_
  refine lv_iload_n hx hb dJ15_checkIndex_7cf53_1 rfl (lv_at hl 1 rfl) ?_
  refine lv_null hx hb dJ15_checkIndex_7cf53_2 ?_
  refine x_callS C hS (c_pidx l (E := E) (base := base) (al := al) (w := w) hi hn) hH kJ3_checkIndex_8e157 qw_321 qw_320  rfl [] rfl hl.1 (Nat.le_of_ble_eq_true rfl) ⟨Nat.le_of_ble_eq_true rfl, Nat.le_of_ble_eq_true rfl⟩ dJ15_checkIndex_7cf53_3 ⟨Nat.le_of_ble_eq_true rfl, Nat.le_of_ble_eq_true rfl⟩ (fun r_2 H locs hp_1 hS => ?_)
  obtain ⟨rfl, hH⟩ := hp_1
  rw [← hQ]
  refine x_reti C rfl hS (Nat.le_of_ble_eq_true rfl) (Nat.le_of_ble_eq_true rfl) dJ15_checkIndex_7cf53_6 ?_
  rw [hpost]
  exact ⟨rfl, hH⟩

set_option maxHeartbeats 4000000 in
set_option maxRecDepth 100000 in
theorem c_edat (l : Launch) {E : xE} {base : Nat} {al : Tg → Nat} {w : Tg → Option va_E} {tL tA : Tg} {mc : Int32} {n cap i v : Nat} {g : Nat → Option Nat} (hL : w tL = some (.inr (0, [.int mc, .ref (al tA), .int (nI n)]))) (hA : w tA = some (.inl (E.2.1 5, cap, .inr (.inr (.inr (.inr g)))))) (hi : i < n) (hc : n ≤ cap) (hn : cap < 1000) (hg : g i = some v) : xMet l yJx4a65c_elementData_915e3 cJx4a65c_elementData_915e3 2 (some ((.object "java/lang/Object"))) ({ frames := 0, cells := 0, slots := 0, locals := 0 } : Room) E base [.ref (al tL), .int (nI i)] (fun H => xH E base al w H) (fun r H => r = some (.ref v) ∧ xH E base al w H) := by
  refine xMet.of (by decide +kernel) "java/util/ArrayList" rfl (Nat.le_of_ble_eq_true rfl) ?_
  intro p9 e9 s m9 below meth c9 ls C hin hP hS hl
  have hx := C.hx
  have hb := C.hb
  have hH := hP
  have hl : lv_has ls 2 [(0, .ref (al tL)), (1, .int (nI i))] := hl
  obtain ⟨post, hpost⟩ : ∃ zz9 : Option Value → Heap → Prop, zz9 = (fun r H => r = some (.ref v) ∧ xH E base al w H) := ⟨_, rfl⟩
  rw [← hpost]
  generalize hQ : (MQ below (xQ base post) ([.ref (al tL), .int (nI i)] : List Value).toArray s 0 0 (xA base)) = Q
  refine lv_aload_n hx hb dJx4a65c_elementData_915e3_0 rfl (lv_at hl 0 rfl) ?_
  refine x_get C hH (ci := 0) (T := TJx4a65c) (N := 3) hL rfl iWJx4a65c 1 (by decide) qw_47 rfl rfl dJx4a65c_elementData_915e3_1 ?_
  refine lv_iload_n hx hb dJx4a65c_elementData_915e3_4 rfl (lv_at hl 1 rfl) ?_
  refine x_aldq C hH 5 rfl hA (j := i) rfl (by omega) (by omega) (v := .ref v) (by rw [hg]; rfl) dJx4a65c_elementData_915e3_5 ?_
  rw [← hQ]
  refine x_reta C (Or.inl ⟨_, rfl⟩) (Or.inr ⟨_, rfl⟩) hS (Nat.le_of_ble_eq_true rfl) (Nat.le_of_ble_eq_true rfl) dJx4a65c_elementData_915e3_6 ?_
  rw [hpost]
  exact ⟨rfl, hH⟩

set_option maxHeartbeats 4000000 in
set_option maxRecDepth 100000 in
theorem c_get (l : Launch) {E : xE} {base : Nat} {al : Tg → Nat} {w : Tg → Option va_E} {tL tA : Tg} {mc : Int32} {n cap i v : Nat} {g : Nat → Option Nat} (hL : w tL = some (.inr (0, [.int mc, .ref (al tA), .int (nI n)]))) (hA : w tA = some (.inl (E.2.1 5, cap, .inr (.inr (.inr (.inr g)))))) (hi : i < n) (hc : n ≤ cap) (hn : cap < 1000) (hg : g i = some v) : xMet l yJx4a65c_get_915e3 cJx4a65c_get_915e3 2 (some ((.object "java/lang/Object"))) ({ frames := 2, cells := 0, slots := 0, locals := 43 } : Room) E base [.ref (al tL), .int (nI i)] (fun H => xH E base al w H) (fun r H => r = some (.ref v) ∧ xH E base al w H) := by
  refine xMet.of (by decide +kernel) "java/util/ArrayList" rfl (Nat.le_of_ble_eq_true rfl) ?_
  intro p9 e9 s m9 below meth c9 ls C hin hP hS hl
  have hx := C.hx
  have hb := C.hb
  have hH := hP
  have hl : lv_has ls 2 [(0, .ref (al tL)), (1, .int (nI i))] := hl
  obtain ⟨post, hpost⟩ : ∃ zz9 : Option Value → Heap → Prop, zz9 = (fun r H => r = some (.ref v) ∧ xH E base al w H) := ⟨_, rfl⟩
  rw [← hpost]
  generalize hQ : (MQ below (xQ base post) ([.ref (al tL), .int (nI i)] : List Value).toArray s 0 0 (xA base)) = Q
  refine lv_iload_n hx hb dJx4a65c_get_915e3_0 rfl (lv_at hl 1 rfl) ?_
  refine lv_aload_n hx hb dJx4a65c_get_915e3_1 rfl (lv_at hl 0 rfl) ?_
  refine x_get C hH (ci := 0) (T := TJx4a65c) (N := 3) hL rfl iWJx4a65c 2 (by decide) qw_48 rfl rfl dJx4a65c_get_915e3_2 ?_
  refine x_callS C hS (c_cidx l (E := E) (base := base) (al := al) (w := w) hi (by omega)) hH kJ15_checkIndex_7cf53 qw_318 qw_317  rfl [] rfl hl.1 (Nat.le_of_ble_eq_true rfl) ⟨Nat.le_of_ble_eq_true rfl, Nat.le_of_ble_eq_true rfl⟩ dJx4a65c_get_915e3_5 ⟨Nat.le_of_ble_eq_true rfl, Nat.le_of_ble_eq_true rfl⟩ (fun r_2 H locs hp_1 hS => ?_)
  obtain ⟨rfl, hH⟩ := hp_1
  refine lv_pop hx hb dJx4a65c_get_915e3_8 rfl ?_
  refine lv_aload_n hx hb dJx4a65c_get_915e3_9 rfl (lv_at hl 0 rfl) ?_
  refine lv_iload_n hx hb dJx4a65c_get_915e3_10 rfl (lv_at hl 1 rfl) ?_
  refine x_callV C hH hS (ci := 0) (t := tL) hL rfl rfl (c_edat l (E := E) (base := base) hL hA hi hc hn hg) hH kJx4a65c_elementData_915e3 qw_324 qw_325 qw_323  rfl [] rfl hl.1 (Nat.le_of_ble_eq_true rfl) ⟨Nat.le_of_ble_eq_true rfl, Nat.le_of_ble_eq_true rfl⟩ dJx4a65c_get_915e3_11 ⟨Nat.le_of_ble_eq_true rfl, Nat.le_of_ble_eq_true rfl⟩ (fun r_4 H locs hp_3 hS => ?_)
  obtain ⟨rfl, hH⟩ := hp_3
  rw [← hQ]
  refine x_reta C (Or.inl ⟨_, rfl⟩) (Or.inr ⟨_, rfl⟩) hS (Nat.le_of_ble_eq_true rfl) (Nat.le_of_ble_eq_true rfl) dJx4a65c_get_915e3_14 ?_
  rw [hpost]
  exact ⟨rfl, hH⟩

set_option maxHeartbeats 4000000 in
set_option maxRecDepth 100000 in
theorem c_rRange (l : Launch) (hfl : l.stackTraces = false) {E : xE} {base : Nat} {al : Tg → Nat} {w : Tg → Option va_E} {v lo hi : Int32} : xMetX l yX6_requireRange cX6_requireRange 3 none ({ frames := 6, cells := 1, slots := 6, locals := 82 } : Room) E base [.int v, .int lo, .int hi] (fun H => xH E base al w H) (fun r H => r = none ∧ (lo ≤ v ∧ v ≤ hi) ∧ xH E base al w H) (fun X H => X = "java/lang/IllegalArgumentException" ∧ ¬ (lo ≤ v ∧ v ≤ hi) ∧ xH E base al w H) := by
  refine xMetX.of (by decide +kernel) "Dataroom" rfl (Nat.le_of_ble_eq_true rfl) ?_
  intro p9 e9 s m9 below meth c9 ls C het hP hS hl
  have hx := C.hx
  have hb := C.hb
  have hH := hP
  have hl : lv_has ls 3 [(0, .int v), (1, .int lo), (2, .int hi)] := hl
  obtain ⟨post, hpost⟩ : ∃ zz9 : Option Value → Heap → Prop, zz9 = (fun r H => r = none ∧ (lo ≤ v ∧ v ≤ hi) ∧ xH E base al w H) := ⟨_, rfl⟩
  obtain ⟨px, hpx⟩ : ∃ zz9 : String → Heap → Prop, zz9 = (fun X H => X = "java/lang/IllegalArgumentException" ∧ ¬ (lo ≤ v ∧ v ≤ hi) ∧ xH E base al w H) := ⟨_, rfl⟩
  rw [← hpost, ← hpx]
  generalize hQ : (vx_MQ below (xQ base post) (xX base px) ([.int v, .int lo, .int hi] : List Value).toArray s 1 6 (xA base)) = Q
  refine lv_iload_n hx hb dX6_requireRange_0 rfl (lv_at hl 0 rfl) ?_
  refine lv_iload_n hx hb dX6_requireRange_1 rfl (lv_at hl 1 rfl) ?_
  refine lv_icmp_lt (tgt := 10) hx hb dX6_requireRange_2 (by decide) (fun c_1 => ?_) (fun c_1 => ?_)
  · skip
    rw [← hQ]
    refine x_throw C het hfl at_IAE qw_119 qw_11 (List.mem_of_getElem? (i := 0) rfl) (by decide +kernel) hS hl.1 dX6_requireRange_10 dX6_requireRange_13 dX6_requireRange_14 dX6_requireRange_16 dX6_requireRange_19 (Nat.le_of_ble_eq_true rfl) (Nat.le_of_ble_eq_true rfl) (Nat.le_of_ble_eq_true rfl) (Nat.le_of_ble_eq_true rfl) (Nat.le_of_ble_eq_true rfl) (Nat.le_of_ble_eq_true rfl) (fun H1 ho => ?_)
    rw [hpx]
    exact ⟨rfl, fun q => absurd c_1 (Int32.not_lt.mpr q.1), hH.kept ho⟩
  · skip
    refine lv_iload_n hx hb dX6_requireRange_5 rfl (lv_at hl 0 rfl) ?_
    refine lv_iload_n hx hb dX6_requireRange_6 rfl (lv_at hl 2 rfl) ?_
    refine lv_icmp_le (tgt := 20) hx hb dX6_requireRange_7 (by decide) (fun c_2 => ?_) (fun c_2 => ?_)
    · skip
      rw [← hQ]
      refine vx_ret (x_retv C hS (Nat.le_of_ble_eq_true rfl) (Nat.le_of_ble_eq_true rfl) dX6_requireRange_20 ?_)
      rw [hpost]
      exact ⟨rfl, ⟨by have := c_1; have := c_2; exact ⟨Int32.not_lt.mp c_1, c_2⟩, hH⟩⟩
    · skip
      rw [← hQ]
      refine x_throw C het hfl at_IAE qw_119 qw_11 (List.mem_of_getElem? (i := 0) rfl) (by decide +kernel) hS hl.1 dX6_requireRange_10 dX6_requireRange_13 dX6_requireRange_14 dX6_requireRange_16 dX6_requireRange_19 (Nat.le_of_ble_eq_true rfl) (Nat.le_of_ble_eq_true rfl) (Nat.le_of_ble_eq_true rfl) (Nat.le_of_ble_eq_true rfl) (Nat.le_of_ble_eq_true rfl) (Nat.le_of_ble_eq_true rfl) (fun H1 ho => ?_)
      rw [hpx]
      exact ⟨rfl, fun q => c_2 q.2, hH.kept ho⟩

set_option maxHeartbeats 4000000 in
set_option maxRecDepth 100000 in
theorem c_stands (l : Launch) {E : xE} {base : Nat} {al : Tg → Nat} {w : Tg → Option va_E} {t : Tg} {a0 a1 a2 a3 a4 : Int32} {rc : Bool} (ht : w t = some (.inr (1, [.int a0, .int a1, .int a2, .int a3, .int a4, .int (ob rc)]))) {tp : Tg} {pl bu : Int32} {x1 x2 x3 : Nat} (hp : w tp = some (.inr (5, [.int pl, .int bu, .ref x1, .ref x2, .ref x3]))) : xMet l yX0_standsFor cX0_standsFor 2 (some (.boolean)) ({ frames := 0, cells := 0, slots := 0, locals := 0 } : Room) E base [.ref (al t), .ref (al tp)] (fun H => xH E base al w H) (fun r H => r = some (.int (ob (!rc && decide (a0 = pl)))) ∧ xH E base al w H) := by
  refine xMet.of (by decide +kernel) "Dataroom$Answer" rfl (Nat.le_of_ble_eq_true rfl) ?_
  intro p9 e9 s m9 below meth c9 ls C hin hP hS hl
  have hx := C.hx
  have hb := C.hb
  have hH := hP
  have hl : lv_has ls 2 [(0, .ref (al t)), (1, .ref (al tp))] := hl
  obtain ⟨post, hpost⟩ : ∃ zz9 : Option Value → Heap → Prop, zz9 = (fun r H => r = some (.int (ob (!rc && decide (a0 = pl)))) ∧ xH E base al w H) := ⟨_, rfl⟩
  rw [← hpost]
  generalize hQ : (MQ below (xQ base post) ([.ref (al t), .ref (al tp)] : List Value).toArray s 0 0 (xA base)) = Q
  refine lv_aload_n hx hb dX0_standsFor_0 rfl (lv_at hl 0 rfl) ?_
  refine x_get C hH (ci := 1) (T := TX0) (N := 6) ht rfl iWX0 5 (by decide) qw_550 rfl rfl dX0_standsFor_1 ?_
  refine lv_if_ne (tgt := 22) hx hb dX0_standsFor_4 (by decide) (fun c_1 => ?_) (fun c_1 => ?_)
  · skip
    replace c_1 := ob_n.mp c_1
    refine lv_iconst (v := nI 0) hx hb dX0_standsFor_22 (by decide +kernel) ?_
    rw [← hQ]
    refine x_reti C rfl hS (Nat.le_of_ble_eq_true rfl) (Nat.le_of_ble_eq_true rfl) dX0_standsFor_23 ?_
    rw [hpost]
    exact ⟨by simp only [c_1]; rfl, hH⟩
  · skip
    replace c_1 := ob_0.mp c_1
    refine lv_aload_n hx hb dX0_standsFor_7 rfl (lv_at hl 0 rfl) ?_
    refine x_get C hH (ci := 1) (T := TX0) (N := 6) ht rfl iWX0 0 (by decide) qw_543 rfl rfl dX0_standsFor_8 ?_
    refine lv_aload_n hx hb dX0_standsFor_11 rfl (lv_at hl 1 rfl) ?_
    refine x_getN C hH (ci := 5) (T := TX4) (N := 5) hp rfl iWX4 0 (by decide) nw_383 rfl rfl dX0_standsFor_12 ?_
    refine lv_icmp_ne (tgt := 22) hx hb dX0_standsFor_15 (by decide) (fun c_2 => ?_) (fun c_2 => ?_)
    · skip
      refine lv_iconst (v := nI 0) hx hb dX0_standsFor_22 (by decide +kernel) ?_
      rw [← hQ]
      refine x_reti C rfl hS (Nat.le_of_ble_eq_true rfl) (Nat.le_of_ble_eq_true rfl) dX0_standsFor_23 ?_
      rw [hpost]
      exact ⟨by simp only [c_1, c_2]; rfl, hH⟩
    · skip
      refine lv_iconst (v := nI 1) hx hb dX0_standsFor_18 (by decide +kernel) ?_
      refine lv_goto (tgt := 23) hx hb dX0_standsFor_19 (by decide) ?_
      rw [← hQ]
      refine x_reti C rfl hS (Nat.le_of_ble_eq_true rfl) (Nat.le_of_ble_eq_true rfl) dX0_standsFor_23 ?_
      rw [hpost]
      exact ⟨by simp only [c_1, c_2]; rfl, hH⟩

set_option maxHeartbeats 4000000 in
set_option maxRecDepth 100000 in
theorem c_closed (l : Launch) {E : xE} {base : Nat} {al : Tg → Nat} {w : Tg → Option va_E} {t : Tg} {c0 c1 : Int32} (ht : w t = some (.inr (2, [.int c0, .int c1]))) {h : Int32} : xMet l yX1_isClosedIn cX1_isClosedIn 2 (some (.boolean)) ({ frames := 0, cells := 0, slots := 0, locals := 0 } : Room) E base [.ref (al t), .int h] (fun H => xH E base al w H) (fun r H => r = some (.int (ob (decide (h ≤ c1)))) ∧ xH E base al w H) := by
  refine xMet.of (by decide +kernel) "Dataroom$Card" rfl (Nat.le_of_ble_eq_true rfl) ?_
  intro p9 e9 s m9 below meth c9 ls C hin hP hS hl
  have hx := C.hx
  have hb := C.hb
  have hH := hP
  have hl : lv_has ls 2 [(0, .ref (al t)), (1, .int h)] := hl
  obtain ⟨post, hpost⟩ : ∃ zz9 : Option Value → Heap → Prop, zz9 = (fun r H => r = some (.int (ob (decide (h ≤ c1)))) ∧ xH E base al w H) := ⟨_, rfl⟩
  rw [← hpost]
  generalize hQ : (MQ below (xQ base post) ([.ref (al t), .int h] : List Value).toArray s 0 0 (xA base)) = Q
  refine lv_iload_n hx hb dX1_isClosedIn_0 rfl (lv_at hl 1 rfl) ?_
  refine lv_aload_n hx hb dX1_isClosedIn_1 rfl (lv_at hl 0 rfl) ?_
  refine x_get C hH (ci := 2) (T := TX1) (N := 2) ht rfl iWX1 1 (by decide) qw_215 rfl rfl dX1_isClosedIn_2 ?_
  refine lv_icmp_gt (tgt := 12) hx hb dX1_isClosedIn_5 (by decide) (fun c_1 => ?_) (fun c_1 => ?_)
  · skip
    refine lv_iconst (v := nI 0) hx hb dX1_isClosedIn_12 (by decide +kernel) ?_
    rw [← hQ]
    refine x_reti C rfl hS (Nat.le_of_ble_eq_true rfl) (Nat.le_of_ble_eq_true rfl) dX1_isClosedIn_13 ?_
    rw [hpost]
    exact ⟨by rw [show decide (h ≤ c1) = false from decide_eq_false (Int32.not_le.mpr c_1)]; rfl, hH⟩
  · skip
    refine lv_iconst (v := nI 1) hx hb dX1_isClosedIn_8 (by decide +kernel) ?_
    refine lv_goto (tgt := 13) hx hb dX1_isClosedIn_9 (by decide) ?_
    rw [← hQ]
    refine x_reti C rfl hS (Nat.le_of_ble_eq_true rfl) (Nat.le_of_ble_eq_true rfl) dX1_isClosedIn_13 ?_
    rw [hpost]
    exact ⟨by rw [show decide (h ≤ c1) = true from decide_eq_true (Int32.not_lt.mp c_1)]; rfl, hH⟩

set_option maxHeartbeats 4000000 in
set_option maxRecDepth 100000 in
theorem c_in (l : Launch) {E : xE} {base : Nat} {al : Tg → Nat} {w : Tg → Option va_E} {t : Tg} {k a b : Int32} (ht : w t = some (.inr (6, [.int k, .int a, .int b]))) {h : Int32} : xMet l yX5_in cX5_in 2 (some (.int)) ({ frames := 0, cells := 0, slots := 0, locals := 0 } : Room) E base [.ref (al t), .int h] (fun H => xH E base al w H) (fun r H => r = some (.int (if a ≤ h ∧ h ≤ b then k else nI 0)) ∧ xH E base al w H) := by
  refine xMet.of (by decide +kernel) "Dataroom$Right" rfl (Nat.le_of_ble_eq_true rfl) ?_
  intro p9 e9 s m9 below meth c9 ls C hin hP hS hl
  have hx := C.hx
  have hb := C.hb
  have hH := hP
  have hl : lv_has ls 2 [(0, .ref (al t)), (1, .int h)] := hl
  obtain ⟨post, hpost⟩ : ∃ zz9 : Option Value → Heap → Prop, zz9 = (fun r H => r = some (.int (if a ≤ h ∧ h ≤ b then k else nI 0)) ∧ xH E base al w H) := ⟨_, rfl⟩
  rw [← hpost]
  generalize hQ : (MQ below (xQ base post) ([.ref (al t), .int h] : List Value).toArray s 0 0 (xA base)) = Q
  refine lv_aload_n hx hb dX5_in_0 rfl (lv_at hl 0 rfl) ?_
  refine x_get C hH (ci := 6) (T := TX5) (N := 3) ht rfl iWX5 1 (by decide) qw_428 rfl rfl dX5_in_1 ?_
  refine lv_iload_n hx hb dX5_in_4 rfl (lv_at hl 1 rfl) ?_
  refine lv_icmp_gt (tgt := 23) hx hb dX5_in_5 (by decide) (fun c_1 => ?_) (fun c_1 => ?_)
  · skip
    refine lv_iconst (v := nI 0) hx hb dX5_in_23 (by decide +kernel) ?_
    rw [← hQ]
    refine x_reti C rfl hS (Nat.le_of_ble_eq_true rfl) (Nat.le_of_ble_eq_true rfl) dX5_in_24 ?_
    rw [hpost]
    exact ⟨by rw [if_neg fun q => absurd c_1 (Int32.not_lt.mpr q.1)], hH⟩
  · skip
    refine lv_iload_n hx hb dX5_in_8 rfl (lv_at hl 1 rfl) ?_
    refine lv_aload_n hx hb dX5_in_9 rfl (lv_at hl 0 rfl) ?_
    refine x_get C hH (ci := 6) (T := TX5) (N := 3) ht rfl iWX5 2 (by decide) qw_429 rfl rfl dX5_in_10 ?_
    refine lv_icmp_gt (tgt := 23) hx hb dX5_in_13 (by decide) (fun c_2 => ?_) (fun c_2 => ?_)
    · skip
      refine lv_iconst (v := nI 0) hx hb dX5_in_23 (by decide +kernel) ?_
      rw [← hQ]
      refine x_reti C rfl hS (Nat.le_of_ble_eq_true rfl) (Nat.le_of_ble_eq_true rfl) dX5_in_24 ?_
      rw [hpost]
      exact ⟨by rw [if_neg fun q => absurd c_2 (Int32.not_lt.mpr q.2)], hH⟩
    · skip
      refine lv_aload_n hx hb dX5_in_16 rfl (lv_at hl 0 rfl) ?_
      refine x_get C hH (ci := 6) (T := TX5) (N := 3) ht rfl iWX5 0 (by decide) qw_427 rfl rfl dX5_in_17 ?_
      refine lv_goto (tgt := 24) hx hb dX5_in_20 (by decide) ?_
      rw [← hQ]
      refine x_reti C rfl hS (Nat.le_of_ble_eq_true rfl) (Nat.le_of_ble_eq_true rfl) dX5_in_24 ?_
      rw [hpost]
      exact ⟨by rw [if_pos ⟨Int32.not_lt.mp c_1, Int32.not_lt.mp c_2⟩], hH⟩
end
section
/-! a party in the world, and what it knows -/
def rIn (k a b h : Int32) : Int32 := if k = 0 then nI 0 else if a ≤ h ∧ h ≤ b then k else nI 0
def anyB (P : Nat → Bool) : Nat → Bool
  | 0 => false
  | n + 1 => anyB P n || P n
theorem anyB_t {P : Nat → Bool} {i : Nat} (h : P i = true) : ∀ n, i < n → anyB P n = true
  | 0, q => absurd q (Nat.not_lt_zero i)
  | n + 1, q => by
    show (anyB P n || P n) = true
    rcases Nat.lt_or_ge i n with k | k
    · rw [anyB_t h n k]; rfl
    · rw [show n = i by omega, h, Bool.or_true]
theorem anyB_iff {P : Nat → Bool} : ∀ n, anyB P n = true ↔ ∃ i, i < n ∧ P i = true
  | 0 => ⟨fun h => (by cases h), fun ⟨i, h, _⟩ => absurd h (Nat.not_lt_zero i)⟩
  | n + 1 => by
    constructor
    · intro h
      have h' : (anyB P n || P n) = true := h
      rcases Bool.or_eq_true_iff.mp h' with k | k
      · obtain ⟨i, a, b⟩ := (anyB_iff n).mp k
        exact ⟨i, by omega, b⟩
      · exact ⟨n, Nat.lt_succ_self n, k⟩
    · rintro ⟨i, a, b⟩
      exact anyB_t b _ a
theorem anyB_cong {P R : Nat → Bool} : ∀ {n : Nat}, (∀ i, i < n → P i = R i) → anyB P n = anyB R n
  | 0, _ => rfl
  | n + 1, h => by show (anyB P n || P n) = (anyB R n || R n); rw [anyB_cong (fun i hi => h i (by omega)), h n (Nat.lt_succ_self n)]
def sC (K : Nat → Nat) : Nat → Nat
  | 0 => 0
  | n + 1 => sC K n + K n
theorem sC_cong {K L : Nat → Nat} : ∀ {n : Nat}, (∀ i, i < n → K i = L i) → sC K n = sC L n
  | 0, _ => rfl
  | n + 1, h => by show sC K n + K n = sC L n + L n; rw [sC_cong (fun i hi => h i (by omega)), h n (Nat.lt_succ_self n)]
theorem sC_le {K : Nat → Nat} {c : Nat} (h : ∀ i, K i ≤ c) : ∀ n, sC K n ≤ n * c
  | 0 => Nat.zero_le _
  | n + 1 => by show sC K n + K n ≤ (n + 1) * c; have := sC_le h n; have := h n; rw [Nat.succ_mul]; omega
/-- how many of the bits that are asked a set is new for -/
def cC (KF : Nat → Nat → Int32) (bit x : Int32) : Nat → Nat
  | 0 => 0
  | b + 1 => cC KF bit x b + (if cov bit b && !decide (red (KF b) 16 x = 0) then 1 else 0)
theorem cC_le {KF : Nat → Nat → Int32} {bit x : Int32} : ∀ n, cC KF bit x n ≤ n
  | 0 => Nat.le_refl 0
  | n + 1 => by show cC KF bit x n + _ ≤ n + 1; have := cC_le (KF := KF) (bit := bit) (x := x) n; split <;> omega
def lK (KF : Nat → Nat → Int32) (bit x : Int32) (i : Nat) : Nat → Nat → Int32 := fun b => if b < i ∧ cov bit b = true then lrF (KF b) 16 x else KF b
def lC (KF : Nat → Nat → Int32) (KC : Nat → Nat) (bit x : Int32) (i : Nat) : Nat → Nat := fun b => if b < i ∧ cov bit b = true then KC b + lrG (KF b) 16 x else KC b
def PT (E : xE) (al : Tg → Nat) (w : Tg → Option va_E) (p : Nat) (bu : Int32) (rk rf rt fr : Nat → Int32) (KF : Nat → Nat → Int32) (KC : Nat → Nat) : Prop :=
  w (2, p, 0) = some (.inr (5, [.int (nI p), .int bu, .ref (al (2, p, 1)), .ref (al (2, p, 2)), .ref (al (2, p, 3))])) ∧
  w (2, p, 1) = some (.inl (E.2.1 4, 16, .inr (.inr (.inr (.inr (fun f => if rk f = 0 then none else some (al (3, p, f)))))))) ∧
  w (2, p, 2) = some (.inl (E.2.1 3, 8, .inr (.inr (.inr (.inr (fun b => some (al (4, p, b)))))))) ∧
  w (2, p, 3) = some (.inl (E.2.1 0, 5, .inl fr)) ∧
  (∀ f, f < 16 → rk f ≠ 0 → w (3, p, f) = some (.inr (6, [.int (rk f), .int (rf f), .int (rt f)]))) ∧
  (∀ b, b < 8 → w (4, p, b) = some (.inr (3, [.ref (al (5, p, b)), .int (nI (KC b))]))) ∧
  ∀ b, b < 8 → w (5, p, b) = some (.inl (E.2.1 0, 16, .inl (KF b)))
def kw (E : xE) (al : Tg → Nat) (w : Tg → Option va_E) (p : Nat) (KF : Nat → Nat → Int32) (KC : Nat → Nat) : Tg → Option va_E := fun t =>
  if t.1 = 4 ∧ t.2.1 = p ∧ t.2.2 < 8 then some (.inr (3, [.ref (al (5, p, t.2.2)), .int (nI (KC t.2.2))]))
  else if t.1 = 5 ∧ t.2.1 = p ∧ t.2.2 < 8 then some (.inl (E.2.1 0, 16, .inl (KF t.2.2))) else w t
section KW
variable {E : xE} {al : Tg → Nat} {w : Tg → Option va_E} {p : Nat} {bu : Int32} {rk rf rt fr : Nat → Int32} {KF KF' : Nat → Nat → Int32} {KC KC' : Nat → Nat}
theorem kw_4 {b : Nat} (hb : b < 8) : kw E al w p KF KC (4, p, b) = some (.inr (3, [.ref (al (5, p, b)), .int (nI (KC b))])) := if_pos ⟨rfl, rfl, hb⟩
theorem kw_5 {b : Nat} (hb : b < 8) : kw E al w p KF KC (5, p, b) = some (.inl (E.2.1 0, 16, .inl (KF b))) := (if_neg (fun h => by cases h.1)).trans (if_pos ⟨rfl, rfl, hb⟩)
theorem kw_o {t : Tg} (h : ¬ ((t.1 = 4 ∨ t.1 = 5) ∧ t.2.1 = p ∧ t.2.2 < 8)) : kw E al w p KF KC t = w t := by
  unfold kw
  rw [if_neg (fun q => h ⟨Or.inl q.1, q.2⟩), if_neg (fun q => h ⟨Or.inr q.1, q.2⟩)]
theorem kw_PT (h : PT E al w p bu rk rf rt fr KF KC) (KF' : Nat → Nat → Int32) (KC' : Nat → Nat) : PT E al (kw E al w p KF' KC') p bu rk rf rt fr KF' KC' := by
  obtain ⟨h0, h1, h2, h3, h4, h5, h6⟩ := h
  exact ⟨(kw_o (by simp)).trans h0, (kw_o (by simp)).trans h1, (kw_o (by simp)).trans h2, (kw_o (by simp)).trans h3, fun f hf hk => (kw_o (by simp)).trans (h4 f hf hk), fun b hb => kw_4 hb, fun b hb => kw_5 hb⟩
theorem kw_cong (h1 : ∀ b, b < 8 → KF b = KF' b) (h2 : ∀ b, b < 8 → KC b = KC' b) : kw E al w p KF KC = kw E al w p KF' KC' := by
  funext t
  unfold kw
  by_cases c1 : t.1 = 4 ∧ t.2.1 = p ∧ t.2.2 < 8
  · rw [if_pos c1, if_pos c1, h2 _ c1.2.2]
  · rw [if_neg c1, if_neg c1]
    by_cases c2 : t.1 = 5 ∧ t.2.1 = p ∧ t.2.2 < 8
    · rw [if_pos c2, if_pos c2, h1 _ c2.2.2]
    · rw [if_neg c2, if_neg c2]
theorem kw_self (h : PT E al w p bu rk rf rt fr KF KC) : kw E al w p KF KC = w := by
  obtain ⟨-, -, -, -, -, h5, h6⟩ := h
  funext t
  unfold kw
  obtain ⟨a, b, d⟩ := t
  by_cases c1 : a = 4 ∧ b = p ∧ d < 8
  · rw [if_pos c1]; obtain ⟨rfl, rfl, hd⟩ := c1; exact (h5 d hd).symm
  · rw [if_neg c1]
    by_cases c2 : a = 5 ∧ b = p ∧ d < 8
    · rw [if_pos c2]; obtain ⟨rfl, rfl, hd⟩ := c2; exact (h6 d hd).symm
    · rw [if_neg c2]
theorem kw_step {b n : Nat} {f : Nat → Int32} (hb : b < 8) : xu (xu (kw E al w p KF KC) (5, p, b) (.inl (E.2.1 0, 16, .inl f))) (4, p, b) (.inr (3, [.ref (al (5, p, b)), .int (nI n)])) = kw E al w p (va_up KF b f) (va_up KC b n) := by
  funext t
  obtain ⟨x, y, z⟩ := t
  by_cases c1 : x = 4 ∧ y = p ∧ z < 8
  · obtain ⟨rfl, rfl, hz⟩ := c1
    rw [kw_4 hz]
    by_cases e : z = b
    · subst e; rw [xu_self, va_up_self]
    · rw [xu_ne (by simp [e]), xu_ne (by simp), kw_4 hz, va_up_ne _ _ e]
  · by_cases c2 : x = 5 ∧ y = p ∧ z < 8
    · obtain ⟨rfl, rfl, hz⟩ := c2
      rw [kw_5 hz, xu_ne (by simp)]
      by_cases e : z = b
      · subst e; rw [xu_self, va_up_self]
      · rw [xu_ne (by simp [e]), kw_5 hz, va_up_ne _ _ e]
    · have n1 : ((x, y, z) : Tg) ≠ (4, p, b) := fun q => by cases q; exact c1 ⟨rfl, rfl, hb⟩
      have n2 : ((x, y, z) : Tg) ≠ (5, p, b) := fun q => by cases q; exact c2 ⟨rfl, rfl, hb⟩
      have n3 : ¬ (((x, y, z) : Tg).1 = 4 ∨ ((x, y, z) : Tg).1 = 5) ∨ ¬ (y = p ∧ z < 8) := by
        by_cases q : y = p ∧ z < 8
        · exact Or.inl fun r => r.elim (fun r => c1 ⟨r, q⟩) (fun r => c2 ⟨r, q⟩)
        · exact Or.inr q
      rw [xu_ne n1, xu_ne n2, kw_o (fun q => n3.elim (fun r => r q.1) (fun r => r q.2)), kw_o (fun q => n3.elim (fun r => r q.1) (fun r => r q.2))]
end KW
theorem lK_s {KF : Nat → Nat → Int32} {bit x : Int32} {i : Nat} (h : cov bit i = true) : va_up (lK KF bit x i) i (lrF (lK KF bit x i i) 16 x) = lK KF bit x (i + 1) := by
  have e : lK KF bit x i i = KF i := if_neg (fun q => absurd q.1 (Nat.lt_irrefl i))
  rw [e]
  funext b
  by_cases c : b = i
  · subst c; rw [va_up_self]; exact (if_pos ⟨Nat.lt_succ_self b, h⟩).symm
  · rw [va_up_ne _ _ c]
    show (if b < i ∧ cov bit b = true then lrF (KF b) 16 x else KF b) = (if b < i + 1 ∧ cov bit b = true then lrF (KF b) 16 x else KF b)
    by_cases k : b < i ∧ cov bit b = true
    · rw [if_pos k, if_pos ⟨by omega, k.2⟩]
    · rw [if_neg k, if_neg (fun q => k ⟨by omega, q.2⟩)]
theorem lK_n {KF : Nat → Nat → Int32} {bit x : Int32} {i : Nat} (h : cov bit i = false) : lK KF bit x i = lK KF bit x (i + 1) := by
  funext b
  show (if b < i ∧ cov bit b = true then lrF (KF b) 16 x else KF b) = (if b < i + 1 ∧ cov bit b = true then lrF (KF b) 16 x else KF b)
  by_cases k : b < i ∧ cov bit b = true
  · rw [if_pos k, if_pos ⟨by omega, k.2⟩]
  · rw [if_neg k, if_neg (fun q => by
      by_cases e : b = i
      · rw [e, h] at q; cases q.2
      · exact k ⟨by omega, q.2⟩)]
theorem lC_s {KF : Nat → Nat → Int32} {KC : Nat → Nat} {bit x : Int32} {i : Nat} (h : cov bit i = true) : va_up (lC KF KC bit x i) i (lC KF KC bit x i i + lrG (lK KF bit x i i) 16 x) = lC KF KC bit x (i + 1) := by
  have e : lK KF bit x i i = KF i := if_neg (fun q => absurd q.1 (Nat.lt_irrefl i))
  have e2 : lC KF KC bit x i i = KC i := if_neg (fun q => absurd q.1 (Nat.lt_irrefl i))
  rw [e, e2]
  funext b
  by_cases c : b = i
  · subst c; rw [va_up_self]; exact (if_pos ⟨Nat.lt_succ_self b, h⟩).symm
  · rw [va_up_ne _ _ c]
    show (if b < i ∧ cov bit b = true then KC b + lrG (KF b) 16 x else KC b) = (if b < i + 1 ∧ cov bit b = true then KC b + lrG (KF b) 16 x else KC b)
    by_cases k : b < i ∧ cov bit b = true
    · rw [if_pos k, if_pos ⟨by omega, k.2⟩]
    · rw [if_neg k, if_neg (fun q => k ⟨by omega, q.2⟩)]
theorem lC_n {KF : Nat → Nat → Int32} {KC : Nat → Nat} {bit x : Int32} {i : Nat} (h : cov bit i = false) : lC KF KC bit x i = lC KF KC bit x (i + 1) := by
  funext b
  show (if b < i ∧ cov bit b = true then KC b + lrG (KF b) 16 x else KC b) = (if b < i + 1 ∧ cov bit b = true then KC b + lrG (KF b) 16 x else KC b)
  by_cases k : b < i ∧ cov bit b = true
  · rw [if_pos k, if_pos ⟨by omega, k.2⟩]
  · rw [if_neg k, if_neg (fun q => by
      by_cases e : b = i
      · rw [e, h] at q; cases q.2
      · exact k ⟨by omega, q.2⟩)]
theorem lK_0 {KF : Nat → Nat → Int32} {bit x : Int32} : lK KF bit x 0 = KF := by funext b; exact if_neg (fun q => absurd q.1 (Nat.not_lt_zero b))
theorem lC_0 {KF : Nat → Nat → Int32} {KC : Nat → Nat} {bit x : Int32} : lC KF KC bit x 0 = KC := by funext b; exact if_neg (fun q => absurd q.1 (Nat.not_lt_zero b))
/-- nothing known below i -/
def gK (KF : Nat → Nat → Int32) (i : Nat) : Nat → Nat → Int32 := fun b => if b < i then fun _ => 0 else KF b
def gC (KC : Nat → Nat) (i : Nat) : Nat → Nat := fun b => if b < i then 0 else KC b
theorem gK_0 {KF : Nat → Nat → Int32} : gK KF 0 = KF := by funext b; exact if_neg (Nat.not_lt_zero b)
theorem gC_0 {KC : Nat → Nat} : gC KC 0 = KC := by funext b; exact if_neg (Nat.not_lt_zero b)
theorem gK_s {KF : Nat → Nat → Int32} {i : Nat} : va_up (gK KF i) i (fun _ => 0) = gK KF (i + 1) := by
  funext b
  by_cases c : b = i
  · subst c; rw [va_up_self]; exact (if_pos (Nat.lt_succ_self b)).symm
  · rw [va_up_ne _ _ c]
    show (if b < i then _ else _) = (if b < i + 1 then _ else _)
    by_cases k : b < i
    · rw [if_pos k, if_pos (by omega)]
    · rw [if_neg k, if_neg (by omega)]
theorem gC_s {KC : Nat → Nat} {i : Nat} : va_up (gC KC i) i 0 = gC KC (i + 1) := by
  funext b
  by_cases c : b = i
  · subst c; rw [va_up_self]; exact (if_pos (Nat.lt_succ_self b)).symm
  · rw [va_up_ne _ _ c]
    show (if b < i then _ else _) = (if b < i + 1 then _ else _)
    by_cases k : b < i
    · rw [if_pos k, if_pos (by omega)]
    · rw [if_neg k, if_neg (by omega)]
end
section
theorem xu_cm {w : Tg → Option va_E} {t u : Tg} {e e' : va_E} (h : t ≠ u) : xu (xu w t e) u e' = xu (xu w u e') t e := by
  funext z
  by_cases k : z = u
  · subst k; rw [xu_self, xu_ne (Ne.symm h), xu_self]
  · by_cases k2 : z = t
    · subst k2; rw [xu_ne k, xu_self, xu_self]
    · rw [xu_ne k, xu_ne k2, xu_ne k2, xu_ne k]
theorem x_forg {E : xE} {base : Nat} {al : Tg → Nat} {w : Tg → Option va_E} {H : Heap} {p b : Nat} {f : Nat → Int32} {v : va_E} (h : xH E base al (xu (xu w (5, p, b) (.inl (E.2.1 0, 16, .inl (fun j => if j < 16 then 0 else f j)))) (4, p, b) v) H) : xH E base al (xu (xu w (5, p, b) (.inl (E.2.1 0, 16, .inl (fun _ => 0)))) (4, p, b) v) H := by
  have hne : ((5, p, b) : Tg) ≠ (4, p, b) := by simp
  rw [xu_cm hne] at h ⊢
  exact x_arrI (fun j hj => if_pos hj) h
set_option maxHeartbeats 4000000 in
set_option maxRecDepth 100000 in
theorem c_rightFor0 (l : Launch) {E : xE} {base : Nat} {al : Tg → Nat} {w : Tg → Option va_E} {p : Nat} {bu : Int32} {rk rf rt fr : Nat → Int32} {KF : Nat → Nat → Int32} {KC : Nat → Nat} (hPT : PT E al w p bu rk rf rt fr KF KC) {f : Nat} (hf : f < 16) (hk : rk f = 0) : xMet l yX4_rightFor cX4_rightFor 2 (some ((.object "Dataroom$Right"))) ({ frames := 0, cells := 0, slots := 0, locals := 0 } : Room) E base [.ref (al (2, p, 0)), .int (nI f)] (fun H => xH E base al w H) (fun r H => r = some (.null) ∧ xH E base al w H) := by
  refine xMet.of (by decide +kernel) "Dataroom$Party" rfl (Nat.le_of_ble_eq_true rfl) ?_
  intro p9 e9 s m9 below meth c9 ls C hin hP hS hl
  have hx := C.hx
  have hb := C.hb
  have hH := hP
  have hl : lv_has ls 2 [(0, .ref (al (2, p, 0))), (1, .int (nI f))] := hl
  obtain ⟨post, hpost⟩ : ∃ zz9 : Option Value → Heap → Prop, zz9 = (fun r H => r = some (.null) ∧ xH E base al w H) := ⟨_, rfl⟩
  rw [← hpost]
  generalize hQ : (MQ below (xQ base post) ([.ref (al (2, p, 0)), .int (nI f)] : List Value).toArray s 0 0 (xA base)) = Q
  have hPT0 := hPT
  obtain ⟨h0, h1, h2, h3, h4, h5, h6⟩ := hPT
  refine lv_iload_n hx hb dX4_rightFor_0 rfl (lv_at hl 1 rfl) ?_
  refine lv_if_lt (tgt := 22) hx hb dX4_rightFor_1 (by decide) (fun c_1 => absurd c_1 (nI_pos (by omega))) (fun _ => ?_)
  refine lv_iload_n hx hb dX4_rightFor_4 rfl (lv_at hl 1 rfl) ?_
  refine lv_aload_n hx hb dX4_rightFor_5 rfl (lv_at hl 0 rfl) ?_
  refine x_get C hH (ci := 5) (T := TX4) (N := 5) h0 rfl iWX4 2 (by decide) qw_387 rfl rfl dX4_rightFor_6 ?_
  refine x_alen (v := nI 16) C hH 4 rfl h1 rfl dX4_rightFor_9 ?_
  refine lv_icmp_ge (tgt := 22) hx hb dX4_rightFor_10 (by decide) (fun c_2 => ?_) (fun c_2 => ?_)
  · skip
    replace c_2 := (nI_leI (by omega) (by omega)).mp c_2
    exact absurd hf (by omega)
  · skip
    replace c_2 := mt (nI_leI (by omega) (by omega)).mpr c_2
    refine lv_aload_n hx hb dX4_rightFor_13 rfl (lv_at hl 0 rfl) ?_
    refine x_get C hH (ci := 5) (T := TX4) (N := 5) h0 rfl iWX4 2 (by decide) qw_387 rfl rfl dX4_rightFor_14 ?_
    refine lv_iload_n hx hb dX4_rightFor_17 rfl (lv_at hl 1 rfl) ?_
    refine x_aldq C hH 4 rfl h1 (j := f) rfl (by omega) (by omega) (v := .null) (by rw [if_pos hk]; rfl) dX4_rightFor_18 ?_
    refine lv_goto (tgt := 23) hx hb dX4_rightFor_19 (by decide) ?_
    rw [← hQ]
    refine x_reta C (Or.inl ⟨_, rfl⟩) (Or.inl rfl) hS (Nat.le_of_ble_eq_true rfl) (Nat.le_of_ble_eq_true rfl) dX4_rightFor_23 ?_
    rw [hpost]
    exact ⟨rfl, hH⟩

set_option maxHeartbeats 4000000 in
set_option maxRecDepth 100000 in
theorem c_rightFor1 (l : Launch) {E : xE} {base : Nat} {al : Tg → Nat} {w : Tg → Option va_E} {p : Nat} {bu : Int32} {rk rf rt fr : Nat → Int32} {KF : Nat → Nat → Int32} {KC : Nat → Nat} (hPT : PT E al w p bu rk rf rt fr KF KC) {f : Nat} (hf : f < 16) (hk : ¬ rk f = 0) : xMet l yX4_rightFor cX4_rightFor 2 (some ((.object "Dataroom$Right"))) ({ frames := 0, cells := 0, slots := 0, locals := 0 } : Room) E base [.ref (al (2, p, 0)), .int (nI f)] (fun H => xH E base al w H) (fun r H => r = some (.ref (al (3, p, f))) ∧ xH E base al w H) := by
  refine xMet.of (by decide +kernel) "Dataroom$Party" rfl (Nat.le_of_ble_eq_true rfl) ?_
  intro p9 e9 s m9 below meth c9 ls C hin hP hS hl
  have hx := C.hx
  have hb := C.hb
  have hH := hP
  have hl : lv_has ls 2 [(0, .ref (al (2, p, 0))), (1, .int (nI f))] := hl
  obtain ⟨post, hpost⟩ : ∃ zz9 : Option Value → Heap → Prop, zz9 = (fun r H => r = some (.ref (al (3, p, f))) ∧ xH E base al w H) := ⟨_, rfl⟩
  rw [← hpost]
  generalize hQ : (MQ below (xQ base post) ([.ref (al (2, p, 0)), .int (nI f)] : List Value).toArray s 0 0 (xA base)) = Q
  have hPT0 := hPT
  obtain ⟨h0, h1, h2, h3, h4, h5, h6⟩ := hPT
  refine lv_iload_n hx hb dX4_rightFor_0 rfl (lv_at hl 1 rfl) ?_
  refine lv_if_lt (tgt := 22) hx hb dX4_rightFor_1 (by decide) (fun c_1 => absurd c_1 (nI_pos (by omega))) (fun _ => ?_)
  refine lv_iload_n hx hb dX4_rightFor_4 rfl (lv_at hl 1 rfl) ?_
  refine lv_aload_n hx hb dX4_rightFor_5 rfl (lv_at hl 0 rfl) ?_
  refine x_get C hH (ci := 5) (T := TX4) (N := 5) h0 rfl iWX4 2 (by decide) qw_387 rfl rfl dX4_rightFor_6 ?_
  refine x_alen (v := nI 16) C hH 4 rfl h1 rfl dX4_rightFor_9 ?_
  refine lv_icmp_ge (tgt := 22) hx hb dX4_rightFor_10 (by decide) (fun c_2 => ?_) (fun c_2 => ?_)
  · skip
    replace c_2 := (nI_leI (by omega) (by omega)).mp c_2
    exact absurd hf (by omega)
  · skip
    replace c_2 := mt (nI_leI (by omega) (by omega)).mpr c_2
    refine lv_aload_n hx hb dX4_rightFor_13 rfl (lv_at hl 0 rfl) ?_
    refine x_get C hH (ci := 5) (T := TX4) (N := 5) h0 rfl iWX4 2 (by decide) qw_387 rfl rfl dX4_rightFor_14 ?_
    refine lv_iload_n hx hb dX4_rightFor_17 rfl (lv_at hl 1 rfl) ?_
    refine x_aldq C hH 4 rfl h1 (j := f) rfl (by omega) (by omega) (v := .ref (al (3, p, f))) (by rw [if_neg hk]; rfl) dX4_rightFor_18 ?_
    refine lv_goto (tgt := 23) hx hb dX4_rightFor_19 (by decide) ?_
    rw [← hQ]
    refine x_reta C (Or.inl ⟨_, rfl⟩) (Or.inr ⟨_, rfl⟩) hS (Nat.le_of_ble_eq_true rfl) (Nat.le_of_ble_eq_true rfl) dX4_rightFor_23 ?_
    rw [hpost]
    exact ⟨rfl, hH⟩

set_option maxHeartbeats 4000000 in
set_option maxRecDepth 100000 in
theorem c_setRightN (l : Launch) {E : xE} {base : Nat} {al : Tg → Nat} {w : Tg → Option va_E} {p : Nat} {bu : Int32} {rk rf rt fr : Nat → Int32} {KF : Nat → Nat → Int32} {KC : Nat → Nat} (hPT : PT E al w p bu rk rf rt fr KF KC) {f : Nat} (hf : f < 16) : xMet l yX4_setRight cX4_setRight 3 none ({ frames := 0, cells := 0, slots := 0, locals := 0 } : Room) E base [.ref (al (2, p, 0)), .int (nI f), .null] (fun H => xH E base al w H) (fun r H => r = none ∧ xH E base al (xu w (2, p, 1) (.inl (E.2.1 4, 16, .inr (.inr (.inr (.inr (va_up (fun f => if rk f = 0 then none else some (al (3, p, f))) f none))))))) H) := by
  refine xMet.of (by decide +kernel) "Dataroom$Party" rfl (Nat.le_of_ble_eq_true rfl) ?_
  intro p9 e9 s m9 below meth c9 ls C hin hP hS hl
  have hx := C.hx
  have hb := C.hb
  have hH := hP
  have hl : lv_has ls 3 [(0, .ref (al (2, p, 0))), (1, .int (nI f)), (2, .null)] := hl
  obtain ⟨post, hpost⟩ : ∃ zz9 : Option Value → Heap → Prop, zz9 = (fun r H => r = none ∧ xH E base al (xu w (2, p, 1) (.inl (E.2.1 4, 16, .inr (.inr (.inr (.inr (va_up (fun f => if rk f = 0 then none else some (al (3, p, f))) f none))))))) H) := ⟨_, rfl⟩
  rw [← hpost]
  generalize hQ : (MQ below (xQ base post) ([.ref (al (2, p, 0)), .int (nI f), .null] : List Value).toArray s 0 0 (xA base)) = Q
  have hPT0 := hPT
  obtain ⟨h0, h1, h2, h3, h4, h5, h6⟩ := hPT
  refine lv_iload_n hx hb dX4_setRight_0 rfl (lv_at hl 1 rfl) ?_
  refine lv_if_lt (tgt := 20) hx hb dX4_setRight_1 (by decide) (fun c_1 => absurd c_1 (nI_pos (by omega))) (fun _ => ?_)
  refine lv_iload_n hx hb dX4_setRight_4 rfl (lv_at hl 1 rfl) ?_
  refine lv_aload_n hx hb dX4_setRight_5 rfl (lv_at hl 0 rfl) ?_
  refine x_get C hH (ci := 5) (T := TX4) (N := 5) h0 rfl iWX4 2 (by decide) qw_387 rfl rfl dX4_setRight_6 ?_
  refine x_alen (v := nI 16) C hH 4 rfl h1 rfl dX4_setRight_9 ?_
  refine lv_icmp_ge (tgt := 20) hx hb dX4_setRight_10 (by decide) (fun c_2 => ?_) (fun c_2 => ?_)
  · skip
    replace c_2 := (nI_leI (by omega) (by omega)).mp c_2
    exact absurd hf (by omega)
  · skip
    replace c_2 := mt (nI_leI (by omega) (by omega)).mpr c_2
    refine lv_aload_n hx hb dX4_setRight_13 rfl (lv_at hl 0 rfl) ?_
    refine x_get C hH (ci := 5) (T := TX4) (N := 5) h0 rfl iWX4 2 (by decide) qw_387 rfl rfl dX4_setRight_14 ?_
    refine lv_iload_n hx hb dX4_setRight_17 rfl (lv_at hl 1 rfl) ?_
    refine lv_aload_nN hx hb dX4_setRight_18 rfl (lv_at hl 2 rfl) ?_
    refine x_astqN C hH hS 4 rfl h1 (j := f) rfl (by omega) (by omega) dX4_setRight_19 (fun H locs hH hS => ?_)
    have h0 := xu_of (t := (2, p, 1)) (e := .inl (E.2.1 4, 16, .inr (.inr (.inr (.inr (va_up (fun f => if rk f = 0 then none else some (al (3, p, f))) f none)))))) (by simp) h0
    have h2 := xu_of (t := (2, p, 1)) (e := .inl (E.2.1 4, 16, .inr (.inr (.inr (.inr (va_up (fun f => if rk f = 0 then none else some (al (3, p, f))) f none)))))) (by simp) h2
    have h3 := xu_of (t := (2, p, 1)) (e := .inl (E.2.1 4, 16, .inr (.inr (.inr (.inr (va_up (fun f => if rk f = 0 then none else some (al (3, p, f))) f none)))))) (by simp) h3
    have h1 : (xu w (2, p, 1) (.inl (E.2.1 4, 16, .inr (.inr (.inr (.inr (va_up (fun f => if rk f = 0 then none else some (al (3, p, f))) f none))))))) (2, p, 1) = some (.inl (E.2.1 4, 16, .inr (.inr (.inr (.inr (va_up (fun f => if rk f = 0 then none else some (al (3, p, f))) f none)))))) := xu_self _ _ _
    rw [← hQ]
    refine x_retv C hS (Nat.le_of_ble_eq_true rfl) (Nat.le_of_ble_eq_true rfl) dX4_setRight_20 ?_
    rw [hpost]
    exact ⟨rfl, hH⟩

set_option maxHeartbeats 4000000 in
set_option maxRecDepth 100000 in
theorem c_setRight (l : Launch) {E : xE} {base : Nat} {al : Tg → Nat} {w : Tg → Option va_E} {p : Nat} {bu : Int32} {rk rf rt fr : Nat → Int32} {KF : Nat → Nat → Int32} {KC : Nat → Nat} (hPT : PT E al w p bu rk rf rt fr KF KC) {f : Nat} (hf : f < 16) {t : Tg} {k a b : Int32} (ht : w t = some (.inr (6, [.int k, .int a, .int b]))) : xMet l yX4_setRight cX4_setRight 3 none ({ frames := 0, cells := 0, slots := 0, locals := 0 } : Room) E base [.ref (al (2, p, 0)), .int (nI f), .ref (al t)] (fun H => xH E base al w H) (fun r H => r = none ∧ xH E base al (xu w (2, p, 1) (.inl (E.2.1 4, 16, .inr (.inr (.inr (.inr (va_up (fun f => if rk f = 0 then none else some (al (3, p, f))) f (some (al t))))))))) H) := by
  refine xMet.of (by decide +kernel) "Dataroom$Party" rfl (Nat.le_of_ble_eq_true rfl) ?_
  intro p9 e9 s m9 below meth c9 ls C hin hP hS hl
  have hx := C.hx
  have hb := C.hb
  have hH := hP
  have hl : lv_has ls 3 [(0, .ref (al (2, p, 0))), (1, .int (nI f)), (2, .ref (al t))] := hl
  obtain ⟨post, hpost⟩ : ∃ zz9 : Option Value → Heap → Prop, zz9 = (fun r H => r = none ∧ xH E base al (xu w (2, p, 1) (.inl (E.2.1 4, 16, .inr (.inr (.inr (.inr (va_up (fun f => if rk f = 0 then none else some (al (3, p, f))) f (some (al t))))))))) H) := ⟨_, rfl⟩
  rw [← hpost]
  generalize hQ : (MQ below (xQ base post) ([.ref (al (2, p, 0)), .int (nI f), .ref (al t)] : List Value).toArray s 0 0 (xA base)) = Q
  have hPT0 := hPT
  obtain ⟨h0, h1, h2, h3, h4, h5, h6⟩ := hPT
  refine lv_iload_n hx hb dX4_setRight_0 rfl (lv_at hl 1 rfl) ?_
  refine lv_if_lt (tgt := 20) hx hb dX4_setRight_1 (by decide) (fun c_1 => absurd c_1 (nI_pos (by omega))) (fun _ => ?_)
  refine lv_iload_n hx hb dX4_setRight_4 rfl (lv_at hl 1 rfl) ?_
  refine lv_aload_n hx hb dX4_setRight_5 rfl (lv_at hl 0 rfl) ?_
  refine x_get C hH (ci := 5) (T := TX4) (N := 5) h0 rfl iWX4 2 (by decide) qw_387 rfl rfl dX4_setRight_6 ?_
  refine x_alen (v := nI 16) C hH 4 rfl h1 rfl dX4_setRight_9 ?_
  refine lv_icmp_ge (tgt := 20) hx hb dX4_setRight_10 (by decide) (fun c_2 => ?_) (fun c_2 => ?_)
  · skip
    replace c_2 := (nI_leI (by omega) (by omega)).mp c_2
    exact absurd hf (by omega)
  · skip
    replace c_2 := mt (nI_leI (by omega) (by omega)).mpr c_2
    refine lv_aload_n hx hb dX4_setRight_13 rfl (lv_at hl 0 rfl) ?_
    refine x_get C hH (ci := 5) (T := TX4) (N := 5) h0 rfl iWX4 2 (by decide) qw_387 rfl rfl dX4_setRight_14 ?_
    refine lv_iload_n hx hb dX4_setRight_17 rfl (lv_at hl 1 rfl) ?_
    refine lv_aload_n hx hb dX4_setRight_18 rfl (lv_at hl 2 rfl) ?_
    refine x_astq C hH hS 4 (ci := 6) rfl h1 ht rfl (j := f) rfl (by omega) (by omega) dX4_setRight_19 (fun H locs hH hS => ?_)
    have h0 := xu_of (t := (2, p, 1)) (e := .inl (E.2.1 4, 16, .inr (.inr (.inr (.inr (va_up (fun f => if rk f = 0 then none else some (al (3, p, f))) f (some (al t)))))))) (by simp) h0
    have h2 := xu_of (t := (2, p, 1)) (e := .inl (E.2.1 4, 16, .inr (.inr (.inr (.inr (va_up (fun f => if rk f = 0 then none else some (al (3, p, f))) f (some (al t)))))))) (by simp) h2
    have h3 := xu_of (t := (2, p, 1)) (e := .inl (E.2.1 4, 16, .inr (.inr (.inr (.inr (va_up (fun f => if rk f = 0 then none else some (al (3, p, f))) f (some (al t)))))))) (by simp) h3
    have ht := xu_of (t := (2, p, 1)) (e := .inl (E.2.1 4, 16, .inr (.inr (.inr (.inr (va_up (fun f => if rk f = 0 then none else some (al (3, p, f))) f (some (al t)))))))) (tg_ne ht h1 (by nofun)) ht
    have h1 : (xu w (2, p, 1) (.inl (E.2.1 4, 16, .inr (.inr (.inr (.inr (va_up (fun f => if rk f = 0 then none else some (al (3, p, f))) f (some (al t))))))))) (2, p, 1) = some (.inl (E.2.1 4, 16, .inr (.inr (.inr (.inr (va_up (fun f => if rk f = 0 then none else some (al (3, p, f))) f (some (al t)))))))) := xu_self _ _ _
    rw [← hQ]
    refine x_retv C hS (Nat.le_of_ble_eq_true rfl) (Nat.le_of_ble_eq_true rfl) dX4_setRight_20 ?_
    rw [hpost]
    exact ⟨rfl, hH⟩

set_option maxHeartbeats 4000000 in
set_option maxRecDepth 100000 in
theorem c_rightIn0 (l : Launch) {E : xE} {base : Nat} {al : Tg → Nat} {w : Tg → Option va_E} {p : Nat} {bu : Int32} {rk rf rt fr : Nat → Int32} {KF : Nat → Nat → Int32} {KC : Nat → Nat} (hPT : PT E al w p bu rk rf rt fr KF KC) {f : Nat} {hh : Int32} (hf : f < 16) (hk : rk f = 0) : xMet l yX4_rightIn cX4_rightIn 4 (some (.int)) ({ frames := 2, cells := 0, slots := 0, locals := 60 } : Room) E base [.ref (al (2, p, 0)), .int hh, .int (nI f)] (fun H => xH E base al w H) (fun r H => r = some (.int (rIn (rk f) (rf f) (rt f) hh)) ∧ xH E base al w H) := by
  refine xMet.of (by decide +kernel) "Dataroom$Party" rfl (Nat.le_of_ble_eq_true rfl) ?_
  intro p9 e9 s m9 below meth c9 ls C hin hP hS hl
  have hx := C.hx
  have hb := C.hb
  have hH := hP
  have hl : lv_has ls 4 [(0, .ref (al (2, p, 0))), (1, .int hh), (2, .int (nI f))] := hl
  obtain ⟨post, hpost⟩ : ∃ zz9 : Option Value → Heap → Prop, zz9 = (fun r H => r = some (.int (rIn (rk f) (rf f) (rt f) hh)) ∧ xH E base al w H) := ⟨_, rfl⟩
  rw [← hpost]
  generalize hQ : (MQ below (xQ base post) ([.ref (al (2, p, 0)), .int hh, .int (nI f)] : List Value).toArray s 0 0 (xA base)) = Q
  have hPT0 := hPT
  obtain ⟨h0, h1, h2, h3, h4, h5, h6⟩ := hPT
  refine lv_aload_n hx hb dX4_rightIn_0 rfl (lv_at hl 0 rfl) ?_
  refine lv_iload_n hx hb dX4_rightIn_1 rfl (lv_at hl 2 rfl) ?_
  refine x_callV C hH hS (ci := 5) (t := (2, p, 0)) h0 rfl rfl (c_rightFor0 l (E := E) (base := base) hPT0 (f := f) hf hk) hH kX4_rightFor qw_449 qw_450 qw_491  rfl [] rfl hl.1 (Nat.le_of_ble_eq_true rfl) ⟨Nat.le_of_ble_eq_true rfl, Nat.le_of_ble_eq_true rfl⟩ dX4_rightIn_2 ⟨Nat.le_of_ble_eq_true rfl, Nat.le_of_ble_eq_true rfl⟩ (fun r_2 H locs hp_1 hS => ?_)
  obtain ⟨rfl, hH⟩ := hp_1
  refine lv_astore_nN (lv' := [(3, .null), (0, .ref (al (2, p, 0))), (1, .int hh), (2, .int (nI f))]) hx hb dX4_rightIn_5 rfl hl (by decide) rfl (fun ls hl => ?_)
  refine lv_aload_nN hx hb dX4_rightIn_6 rfl (lv_at hl 0 rfl) ?_
  refine lv_ifnonnullN hx hb dX4_rightIn_7 ?_
  refine lv_iconst (v := nI 0) hx hb dX4_rightIn_10 (by decide +kernel) ?_
  refine lv_goto (tgt := 19) hx hb dX4_rightIn_11 (by decide) ?_
  rw [← hQ]
  refine x_reti C rfl hS (Nat.le_of_ble_eq_true rfl) (Nat.le_of_ble_eq_true rfl) dX4_rightIn_19 ?_
  rw [hpost]
  exact ⟨by unfold rIn; rw [if_pos hk], hH⟩

set_option maxHeartbeats 4000000 in
set_option maxRecDepth 100000 in
theorem c_rightIn1 (l : Launch) {E : xE} {base : Nat} {al : Tg → Nat} {w : Tg → Option va_E} {p : Nat} {bu : Int32} {rk rf rt fr : Nat → Int32} {KF : Nat → Nat → Int32} {KC : Nat → Nat} (hPT : PT E al w p bu rk rf rt fr KF KC) {f : Nat} {hh : Int32} (hf : f < 16) (hk : ¬ rk f = 0) : xMet l yX4_rightIn cX4_rightIn 4 (some (.int)) ({ frames := 2, cells := 0, slots := 0, locals := 60 } : Room) E base [.ref (al (2, p, 0)), .int hh, .int (nI f)] (fun H => xH E base al w H) (fun r H => r = some (.int (rIn (rk f) (rf f) (rt f) hh)) ∧ xH E base al w H) := by
  refine xMet.of (by decide +kernel) "Dataroom$Party" rfl (Nat.le_of_ble_eq_true rfl) ?_
  intro p9 e9 s m9 below meth c9 ls C hin hP hS hl
  have hx := C.hx
  have hb := C.hb
  have hH := hP
  have hl : lv_has ls 4 [(0, .ref (al (2, p, 0))), (1, .int hh), (2, .int (nI f))] := hl
  obtain ⟨post, hpost⟩ : ∃ zz9 : Option Value → Heap → Prop, zz9 = (fun r H => r = some (.int (rIn (rk f) (rf f) (rt f) hh)) ∧ xH E base al w H) := ⟨_, rfl⟩
  rw [← hpost]
  generalize hQ : (MQ below (xQ base post) ([.ref (al (2, p, 0)), .int hh, .int (nI f)] : List Value).toArray s 0 0 (xA base)) = Q
  have hPT0 := hPT
  obtain ⟨h0, h1, h2, h3, h4, h5, h6⟩ := hPT
  refine lv_aload_n hx hb dX4_rightIn_0 rfl (lv_at hl 0 rfl) ?_
  refine lv_iload_n hx hb dX4_rightIn_1 rfl (lv_at hl 2 rfl) ?_
  refine x_callV C hH hS (ci := 5) (t := (2, p, 0)) h0 rfl rfl (c_rightFor1 l (E := E) (base := base) hPT0 (f := f) hf hk) hH kX4_rightFor qw_449 qw_450 qw_491  rfl [] rfl hl.1 (Nat.le_of_ble_eq_true rfl) ⟨Nat.le_of_ble_eq_true rfl, Nat.le_of_ble_eq_true rfl⟩ dX4_rightIn_2 ⟨Nat.le_of_ble_eq_true rfl, Nat.le_of_ble_eq_true rfl⟩ (fun r_2 H locs hp_1 hS => ?_)
  obtain ⟨rfl, hH⟩ := hp_1
  refine lv_astore_n (lv' := [(3, .ref (al (3, p, f))), (0, .ref (al (2, p, 0))), (1, .int hh), (2, .int (nI f))]) hx hb dX4_rightIn_5 rfl hl (by decide) rfl (fun ls hl => ?_)
  refine lv_aload_n hx hb dX4_rightIn_6 rfl (lv_at hl 0 rfl) ?_
  refine lv_ifnonnull (tgt := 14) hx hb dX4_rightIn_7 (by decide) ?_
  refine lv_aload_n hx hb dX4_rightIn_14 rfl (lv_at hl 0 rfl) ?_
  refine lv_iload_n hx hb dX4_rightIn_15 rfl (lv_at hl 2 rfl) ?_
  refine x_callV C hH hS (ci := 6) (t := (3, p, f)) (h4 f (by omega) hk) rfl rfl (c_in l (E := E) (base := base) (al := al) (h := hh) (h4 f hf hk)) hH kX5_in qw_493 qw_494 qw_492  rfl [] rfl hl.1 (Nat.le_of_ble_eq_true rfl) ⟨Nat.le_of_ble_eq_true rfl, Nat.le_of_ble_eq_true rfl⟩ dX4_rightIn_16 ⟨Nat.le_of_ble_eq_true rfl, Nat.le_of_ble_eq_true rfl⟩ (fun r_4 H locs hp_3 hS => ?_)
  obtain ⟨rfl, hH⟩ := hp_3
  rw [← hQ]
  refine x_reti C rfl hS (Nat.le_of_ble_eq_true rfl) (Nat.le_of_ble_eq_true rfl) dX4_rightIn_19 ?_
  rw [hpost]
  exact ⟨by unfold rIn; rw [if_neg hk], hH⟩

theorem c_rightIn (l : Launch) {E : xE} {base : Nat} {al : Tg → Nat} {w : Tg → Option va_E} {p : Nat} {bu : Int32} {rk rf rt fr : Nat → Int32} {KF : Nat → Nat → Int32} {KC : Nat → Nat} (hPT : PT E al w p bu rk rf rt fr KF KC) {f : Nat} {hh : Int32} (hf : f < 16) : xMet l yX4_rightIn cX4_rightIn 4 (some (.int)) ({ frames := 2, cells := 0, slots := 0, locals := 60 } : Room) E base [.ref (al (2, p, 0)), .int hh, .int (nI f)] (fun H => xH E base al w H) (fun r H => r = some (.int (rIn (rk f) (rf f) (rt f) hh)) ∧ xH E base al w H) := by
  by_cases hk : rk f = 0
  · exact c_rightIn0 l hPT hf hk
  · exact c_rightIn1 l hPT hf hk

set_option maxHeartbeats 4000000 in
set_option maxRecDepth 100000 in
theorem c_countQ (l : Launch) {E : xE} {base : Nat} {al : Tg → Nat} {w : Tg → Option va_E} {p : Nat} {bu : Int32} {rk rf rt fr : Nat → Int32} {KF : Nat → Nat → Int32} {KC : Nat → Nat} (hPT : PT E al w p bu rk rf rt fr KF KC) {k : Nat} (hk : k < 5) : xMet l yX4_countQuestion cX4_countQuestion 3 none ({ frames := 0, cells := 0, slots := 0, locals := 0 } : Room) E base [.ref (al (2, p, 0)), .int (-nI k)] (fun H => xH E base al w H) (fun r H => r = none ∧ xH E base al (xu w (2, p, 3) (.inl (E.2.1 0, 5, .inl (upd fr k (fr k + nI 1))))) H) := by
  refine xMet.of (by decide +kernel) "Dataroom$Party" rfl (Nat.le_of_ble_eq_true rfl) ?_
  intro p9 e9 s m9 below meth c9 ls C hin hP hS hl
  have hx := C.hx
  have hb := C.hb
  have hH := hP
  have hl : lv_has ls 3 [(0, .ref (al (2, p, 0))), (1, .int (-nI k))] := hl
  obtain ⟨post, hpost⟩ : ∃ zz9 : Option Value → Heap → Prop, zz9 = (fun r H => r = none ∧ xH E base al (xu w (2, p, 3) (.inl (E.2.1 0, 5, .inl (upd fr k (fr k + nI 1))))) H) := ⟨_, rfl⟩
  rw [← hpost]
  generalize hQ : (MQ below (xQ base post) ([.ref (al (2, p, 0)), .int (-nI k)] : List Value).toArray s 0 0 (xA base)) = Q
  have hPT0 := hPT
  obtain ⟨h0, h1, h2, h3, h4, h5, h6⟩ := hPT
  refine lv_iload_n hx hb dX4_countQuestion_0 rfl (lv_at hl 1 rfl) ?_
  refine lv_ineg hx hb dX4_countQuestion_1 ?_
  refine lv_re (y := nI k) (Int32.neg_neg) ?_
  refine lv_istore_n (lv' := [(2, .int (nI k)), (0, .ref (al (2, p, 0))), (1, .int (-nI k))]) hx hb dX4_countQuestion_2 rfl hl (by decide) rfl (fun ls hl => ?_)
  refine lv_iload_n hx hb dX4_countQuestion_3 rfl (lv_at hl 0 rfl) ?_
  refine lv_if_lt (tgt := 26) hx hb dX4_countQuestion_4 (by decide) (fun c_1 => absurd c_1 (nI_pos (by omega))) (fun _ => ?_)
  refine lv_iload_n hx hb dX4_countQuestion_7 rfl (lv_at hl 0 rfl) ?_
  refine lv_aload_n hx hb dX4_countQuestion_8 rfl (lv_at hl 1 rfl) ?_
  refine x_get C hH (ci := 5) (T := TX4) (N := 5) h0 rfl iWX4 4 (by decide) qw_390 rfl rfl dX4_countQuestion_9 ?_
  refine x_alen (v := nI 5) C hH 0 rfl h3 rfl dX4_countQuestion_12 ?_
  refine lv_icmp_ge (tgt := 26) hx hb dX4_countQuestion_13 (by decide) (fun c_2 => ?_) (fun c_2 => ?_)
  · skip
    replace c_2 := (nI_leI (by omega) (by omega)).mp c_2
    exact absurd hk (by omega)
  · skip
    replace c_2 := mt (nI_leI (by omega) (by omega)).mpr c_2
    refine lv_aload_n hx hb dX4_countQuestion_16 rfl (lv_at hl 1 rfl) ?_
    refine x_get C hH (ci := 5) (T := TX4) (N := 5) h0 rfl iWX4 4 (by decide) qw_390 rfl rfl dX4_countQuestion_17 ?_
    refine lv_iload_n hx hb dX4_countQuestion_20 rfl (lv_at hl 0 rfl) ?_
    refine lv_dup2_11 hx hb dX4_countQuestion_21 rfl rfl ?_
    refine x_iald C hH h3 (j := k) rfl (by omega) (by omega) dX4_countQuestion_22 ?_
    refine lv_iconst (v := nI 1) hx hb dX4_countQuestion_23 (by decide +kernel) ?_
    refine lv_iadd hx hb dX4_countQuestion_24 ?_
    refine x_iast C hH hS h3 (j := k) rfl (by omega) (by omega) dX4_countQuestion_25 (fun H locs hH hS => ?_)
    have h0 := xu_of (t := (2, p, 3)) (e := .inl (E.2.1 0, 5, .inl (upd fr k (fr k + nI 1)))) (by simp) h0
    have h1 := xu_of (t := (2, p, 3)) (e := .inl (E.2.1 0, 5, .inl (upd fr k (fr k + nI 1)))) (by simp) h1
    have h2 := xu_of (t := (2, p, 3)) (e := .inl (E.2.1 0, 5, .inl (upd fr k (fr k + nI 1)))) (by simp) h2
    have h3 : (xu w (2, p, 3) (.inl (E.2.1 0, 5, .inl (upd fr k (fr k + nI 1))))) (2, p, 3) = some (.inl (E.2.1 0, 5, .inl (upd fr k (fr k + nI 1)))) := xu_self _ _ _
    rw [← hQ]
    refine x_retv C hS (Nat.le_of_ble_eq_true rfl) (Nat.le_of_ble_eq_true rfl) dX4_countQuestion_26 ?_
    rw [hpost]
    exact ⟨rfl, hH⟩

set_option maxHeartbeats 4000000 in
set_option maxRecDepth 100000 in
theorem c_questions (l : Launch) {E : xE} {base : Nat} {al : Tg → Nat} {w : Tg → Option va_E} {p : Nat} {bu : Int32} {rk rf rt fr : Nat → Int32} {KF : Nat → Nat → Int32} {KC : Nat → Nat} (hPT : PT E al w p bu rk rf rt fr KF KC) {k : Nat} (hk : k < 5) : xMet l yX4_questions cX4_questions 2 (some (.int)) ({ frames := 0, cells := 0, slots := 0, locals := 0 } : Room) E base [.ref (al (2, p, 0)), .int (nI k)] (fun H => xH E base al w H) (fun r H => r = some (.int (fr k)) ∧ xH E base al w H) := by
  refine xMet.of (by decide +kernel) "Dataroom$Party" rfl (Nat.le_of_ble_eq_true rfl) ?_
  intro p9 e9 s m9 below meth c9 ls C hin hP hS hl
  have hx := C.hx
  have hb := C.hb
  have hH := hP
  have hl : lv_has ls 2 [(0, .ref (al (2, p, 0))), (1, .int (nI k))] := hl
  obtain ⟨post, hpost⟩ : ∃ zz9 : Option Value → Heap → Prop, zz9 = (fun r H => r = some (.int (fr k)) ∧ xH E base al w H) := ⟨_, rfl⟩
  rw [← hpost]
  generalize hQ : (MQ below (xQ base post) ([.ref (al (2, p, 0)), .int (nI k)] : List Value).toArray s 0 0 (xA base)) = Q
  have hPT0 := hPT
  obtain ⟨h0, h1, h2, h3, h4, h5, h6⟩ := hPT
  refine lv_iload_n hx hb dX4_questions_0 rfl (lv_at hl 1 rfl) ?_
  refine lv_if_lt (tgt := 22) hx hb dX4_questions_1 (by decide) (fun c_1 => absurd c_1 (nI_pos (by omega))) (fun _ => ?_)
  refine lv_iload_n hx hb dX4_questions_4 rfl (lv_at hl 1 rfl) ?_
  refine lv_aload_n hx hb dX4_questions_5 rfl (lv_at hl 0 rfl) ?_
  refine x_get C hH (ci := 5) (T := TX4) (N := 5) h0 rfl iWX4 4 (by decide) qw_390 rfl rfl dX4_questions_6 ?_
  refine x_alen (v := nI 5) C hH 0 rfl h3 rfl dX4_questions_9 ?_
  refine lv_icmp_ge (tgt := 22) hx hb dX4_questions_10 (by decide) (fun c_2 => ?_) (fun c_2 => ?_)
  · skip
    replace c_2 := (nI_leI (by omega) (by omega)).mp c_2
    exact absurd hk (by omega)
  · skip
    replace c_2 := mt (nI_leI (by omega) (by omega)).mpr c_2
    refine lv_aload_n hx hb dX4_questions_13 rfl (lv_at hl 0 rfl) ?_
    refine x_get C hH (ci := 5) (T := TX4) (N := 5) h0 rfl iWX4 4 (by decide) qw_390 rfl rfl dX4_questions_14 ?_
    refine lv_iload_n hx hb dX4_questions_17 rfl (lv_at hl 1 rfl) ?_
    refine x_iald C hH h3 (j := k) rfl (by omega) (by omega) dX4_questions_18 ?_
    refine lv_goto (tgt := 23) hx hb dX4_questions_19 (by decide) ?_
    rw [← hQ]
    refine x_reti C rfl hS (Nat.le_of_ble_eq_true rfl) (Nat.le_of_ble_eq_true rfl) dX4_questions_23 ?_
    rw [hpost]
    exact ⟨rfl, hH⟩

set_option maxHeartbeats 4000000 in
set_option maxRecDepth 100000 in
theorem c_learned (l : Launch) {E : xE} {base : Nat} {al : Tg → Nat} {w : Tg → Option va_E} {p : Nat} {bu : Int32} {rk rf rt fr : Nat → Int32} {KF : Nat → Nat → Int32} {KC : Nat → Nat} (hPT : PT E al w p bu rk rf rt fr KF KC)  : xMet l yX4_learnedInAll cX4_learnedInAll 3 (some (.int)) ({ frames := 0, cells := 0, slots := 0, locals := 0 } : Room) E base [.ref (al (2, p, 0))] (fun H => xH E base al w H) (fun r H => r = some (.int (nI (sC KC 8))) ∧ xH E base al w H) := by
  refine xMet.of (by decide +kernel) "Dataroom$Party" rfl (Nat.le_of_ble_eq_true rfl) ?_
  intro p9 e9 s m9 below meth c9 ls C hin hP hS hl
  have hx := C.hx
  have hb := C.hb
  have hH := hP
  have hl : lv_has ls 3 [(0, .ref (al (2, p, 0)))] := hl
  obtain ⟨post, hpost⟩ : ∃ zz9 : Option Value → Heap → Prop, zz9 = (fun r H => r = some (.int (nI (sC KC 8))) ∧ xH E base al w H) := ⟨_, rfl⟩
  rw [← hpost]
  generalize hQ : (MQ below (xQ base post) ([.ref (al (2, p, 0))] : List Value).toArray s 0 0 (xA base)) = Q
  have hPT0 := hPT
  obtain ⟨h0, h1, h2, h3, h4, h5, h6⟩ := hPT
  refine lv_iconst (v := nI 0) hx hb dX4_learnedInAll_0 (by decide +kernel) ?_
  refine lv_istore_n (lv' := [(1, .int (nI 0)), (0, .ref (al (2, p, 0)))]) hx hb dX4_learnedInAll_1 rfl hl (by decide) rfl (fun ls hl => ?_)
  refine lv_iconst (v := nI 0) hx hb dX4_learnedInAll_2 (by decide +kernel) ?_
  refine lv_istore_n (lv' := [(2, .int (nI 0)), (1, .int (nI 0)), (0, .ref (al (2, p, 0)))]) hx hb dX4_learnedInAll_3 rfl hl (by decide) rfl (fun ls hl => ?_)
  have lp4 : ∀ (i : Nat), i ≤ 8 → ∀  (H : Heap) (locs : List Loc) (ls : Array Slot), xH E base al w H → va_S (xA base) s.heap H locs → lv_has ls 3 [(2, .int (nI i)), (1, .int (nI (sC KC i))), (0, .ref (al (2, p, 0)))] → W p9 l e9 ({ frames := 0, cells := 0, slots := 0, locals := 0 } : Room) s m9 ([.ref (al (2, p, 0))] : List Value).toArray below meth c9 H locs 0 0 Q (F0 m9 4 ls []) := by
    refine lp_up ?_
    intro i hii ih4  H locs ls hH hS hl
    refine lv_iload_n hx hb dX4_learnedInAll_4 rfl (lv_at hl 0 rfl) ?_
    refine lv_aload_n hx hb dX4_learnedInAll_5 rfl (lv_at hl 2 rfl) ?_
    refine x_get C hH (ci := 5) (T := TX4) (N := 5) h0 rfl iWX4 3 (by decide) qw_388 rfl rfl dX4_learnedInAll_6 ?_
    refine x_alen (v := nI 8) C hH 3 rfl h2 rfl dX4_learnedInAll_9 ?_
    refine lv_icmp_ge (tgt := 31) hx hb dX4_learnedInAll_10 (by decide) (fun c_1 => ?_) (fun c_1 => ?_)
    · skip
      replace c_1 := (nI_leI (by omega) (by omega)).mp c_1
      refine lv_iload_n hx hb dX4_learnedInAll_31 rfl (lv_at hl 1 rfl) ?_
      rw [← hQ]
      refine x_reti C rfl hS (Nat.le_of_ble_eq_true rfl) (Nat.le_of_ble_eq_true rfl) dX4_learnedInAll_32 ?_
      rw [hpost]
      have e8 : i = 8 := by omega
      subst e8
      exact ⟨rfl, hH⟩
    · skip
      replace c_1 := mt (nI_leI (by omega) (by omega)).mpr c_1
      refine lv_iload_n hx hb dX4_learnedInAll_13 rfl (lv_at hl 1 rfl) ?_
      refine lv_aload_n hx hb dX4_learnedInAll_14 rfl (lv_at hl 2 rfl) ?_
      refine x_get C hH (ci := 5) (T := TX4) (N := 5) h0 rfl iWX4 3 (by decide) qw_388 rfl rfl dX4_learnedInAll_15 ?_
      refine lv_iload_n hx hb dX4_learnedInAll_18 rfl (lv_at hl 0 rfl) ?_
      refine x_aldq C hH 3 rfl h2 (j := i) rfl (by omega) (by omega) (v := .ref (al (4, p, i))) (rfl) dX4_learnedInAll_19 ?_
      refine x_getN C hH (ci := 3) (T := TX2) (N := 2) (h5 i (by omega)) rfl iWX2 1 (by decide) nw_67 rfl rfl dX4_learnedInAll_20 ?_
      refine lv_iadd hx hb dX4_learnedInAll_23 ?_
      refine lv_re (nI_add _ _) ?_
      refine lv_istore_n (lv' := [(1, .int (nI (sC KC i + KC i))), (2, .int (nI i)), (0, .ref (al (2, p, 0)))]) hx hb dX4_learnedInAll_24 rfl hl (by decide) rfl (fun ls hl => ?_)
      refine lv_iinc (v := nI (i + 1)) (lv' := [(2, .int (nI (i + 1))), (1, .int (nI (sC KC i + KC i))), (0, .ref (al (2, p, 0)))]) hx hb dX4_learnedInAll_25 hl (k := 1) rfl (nI_1 _) (by decide) rfl (fun ls hl => ?_)
      refine lv_goto (tgt := 4) hx hb dX4_learnedInAll_28 (by decide) ?_
      exact ih4 (by omega)  _ _ _  hH hS (lv_sub hl [0, 1, 2] rfl)
  exact lp4 0 (by omega)  _ _ _  hH hS (lv_sub hl [0, 1, 2] rfl)

set_option maxHeartbeats 4000000 in
set_option maxRecDepth 100000 in
theorem c_costOf (l : Launch) {E : xE} {base : Nat} {al : Tg → Nat} {w : Tg → Option va_E} {p : Nat} {bu : Int32} {rk rf rt fr : Nat → Int32} {KF : Nat → Nat → Int32} {KC : Nat → Nat} (hPT : PT E al w p bu rk rf rt fr KF KC) {x bit : Int32} : xMet l yX4_costOf cX4_costOf 5 (some (.int)) ({ frames := 2, cells := 0, slots := 0, locals := 44 } : Room) E base [.ref (al (2, p, 0)), .int x, .int bit] (fun H => xH E base al w H) (fun r H => r = some (.int (nI (cC KF bit x 8))) ∧ xH E base al w H) := by
  refine xMet.of (by decide +kernel) "Dataroom$Party" rfl (Nat.le_of_ble_eq_true rfl) ?_
  intro p9 e9 s m9 below meth c9 ls C hin hP hS hl
  have hx := C.hx
  have hb := C.hb
  have hH := hP
  have hl : lv_has ls 5 [(0, .ref (al (2, p, 0))), (1, .int x), (2, .int bit)] := hl
  obtain ⟨post, hpost⟩ : ∃ zz9 : Option Value → Heap → Prop, zz9 = (fun r H => r = some (.int (nI (cC KF bit x 8))) ∧ xH E base al w H) := ⟨_, rfl⟩
  rw [← hpost]
  generalize hQ : (MQ below (xQ base post) ([.ref (al (2, p, 0)), .int x, .int bit] : List Value).toArray s 0 0 (xA base)) = Q
  have hPT0 := hPT
  obtain ⟨h0, h1, h2, h3, h4, h5, h6⟩ := hPT
  refine lv_iconst (v := nI 0) hx hb dX4_costOf_0 (by decide +kernel) ?_
  refine lv_istore_n (lv' := [(3, .int (nI 0)), (0, .ref (al (2, p, 0))), (1, .int x), (2, .int bit)]) hx hb dX4_costOf_1 rfl hl (by decide) rfl (fun ls hl => ?_)
  refine lv_iconst (v := nI 0) hx hb dX4_costOf_2 (by decide +kernel) ?_
  refine lv_istore (lv' := [(4, .int (nI 0)), (3, .int (nI 0)), (0, .ref (al (2, p, 0))), (1, .int x), (2, .int bit)]) hx hb dX4_costOf_3 hl (by decide) rfl (fun ls hl => ?_)
  have lp5 : ∀ (i : Nat), i ≤ 8 → ∀ (y : Nat) (H : Heap) (locs : List Loc) (ls : Array Slot), y = cC KF bit x i → xH E base al w H → va_S (xA base) s.heap H locs → lv_has ls 5 [(4, .int (nI i)), (3, .int (nI y)), (2, .int bit), (1, .int x), (0, .ref (al (2, p, 0)))] → W p9 l e9 ({ frames := 2, cells := 0, slots := 0, locals := 44 } : Room) s m9 ([.ref (al (2, p, 0)), .int x, .int bit] : List Value).toArray below meth c9 H locs 0 0 Q (F0 m9 5 ls []) := by
    refine lp_up ?_
    intro i hii ih5 y H locs ls hy hH hS hl
    have hy8 : y ≤ 8 := by have := cC_le (KF := KF) (bit := bit) (x := x) i; omega
    refine lv_iload hx hb dX4_costOf_5 (lv_at hl 0 rfl) ?_
    refine lv_aload_n hx hb dX4_costOf_7 rfl (lv_at hl 4 rfl) ?_
    refine x_get C hH (ci := 5) (T := TX4) (N := 5) h0 rfl iWX4 3 (by decide) qw_388 rfl rfl dX4_costOf_8 ?_
    refine x_alen (v := nI 8) C hH 3 rfl h2 rfl dX4_costOf_11 ?_
    refine lv_icmp_ge (tgt := 47) hx hb dX4_costOf_12 (by decide) (fun c_1 => ?_) (fun c_1 => ?_)
    · skip
      replace c_1 := (nI_leI (by omega) (by omega)).mp c_1
      refine lv_iload_n hx hb dX4_costOf_47 rfl (lv_at hl 1 rfl) ?_
      rw [← hQ]
      refine x_reti C rfl hS (Nat.le_of_ble_eq_true rfl) (Nat.le_of_ble_eq_true rfl) dX4_costOf_48 ?_
      rw [hpost]
      have e8 : i = 8 := by omega
      subst e8
      exact ⟨by rw [hy], hH⟩
    · skip
      replace c_1 := mt (nI_leI (by omega) (by omega)).mpr c_1
      refine lv_iload_n hx hb dX4_costOf_15 rfl (lv_at hl 2 rfl) ?_
      refine lv_iload hx hb dX4_costOf_16 (lv_at hl 0 rfl) ?_
      refine x_callSN C hS (c_covers l (E := E) (base := base) (al := al) (w := w) (x := bit) (k := i)) hH kX6_covers qw_357 nw_356  rfl [] rfl hl.1 (Nat.le_of_ble_eq_true rfl) ⟨Nat.le_of_ble_eq_true rfl, Nat.le_of_ble_eq_true rfl⟩ dX4_costOf_18 ⟨Nat.le_of_ble_eq_true rfl, Nat.le_of_ble_eq_true rfl⟩ (fun r_3 H locs hp_2 hS => ?_)
      obtain ⟨rfl, hH⟩ := hp_2
      refine lv_if_eq (tgt := 41) hx hb dX4_costOf_21 (by decide) (fun c_4 => ?_) (fun c_4 => ?_)
      · skip
        replace c_4 := ob_0.mp c_4
        refine lv_iinc (v := nI (i + 1)) (lv' := [(4, .int (nI (i + 1))), (3, .int (nI y)), (2, .int bit), (1, .int x), (0, .ref (al (2, p, 0)))]) hx hb dX4_costOf_41 hl (k := 0) rfl (nI_1 _) (by decide) rfl (fun ls hl => ?_)
        refine lv_goto (tgt := 5) hx hb dX4_costOf_44 (by decide) ?_
        exact ih5 (by omega) y _ _ _ (by simp [cC, ← hy, c_4]) hH hS (lv_sub hl [0, 1, 2, 3, 4] rfl)
      · skip
        replace c_4 := ob_n.mp c_4
        refine lv_aload_n hx hb dX4_costOf_24 rfl (lv_at hl 4 rfl) ?_
        refine x_get C hH (ci := 5) (T := TX4) (N := 5) h0 rfl iWX4 3 (by decide) qw_388 rfl rfl dX4_costOf_25 ?_
        refine lv_iload hx hb dX4_costOf_28 (lv_at hl 0 rfl) ?_
        refine x_aldq C hH 3 rfl h2 (j := i) rfl (by omega) (by omega) (v := .ref (al (4, p, i))) (rfl) dX4_costOf_30 ?_
        refine lv_iload_n hx hb dX4_costOf_31 rfl (lv_at hl 3 rfl) ?_
        refine x_callV C hH hS (ci := 3) (t := (4, p, i)) (h5 i (by omega)) rfl rfl (c_knows l (E := E) (base := base) (x := x) (h5 i (by omega)) (h6 i (by omega))) hH kX2_knows qw_518 qw_519 qw_529  rfl [] rfl hl.1 (Nat.le_of_ble_eq_true rfl) ⟨Nat.le_of_ble_eq_true rfl, Nat.le_of_ble_eq_true rfl⟩ dX4_costOf_32 ⟨Nat.le_of_ble_eq_true rfl, Nat.le_of_ble_eq_true rfl⟩ (fun r_6 H locs hp_5 hS => ?_)
        obtain ⟨rfl, hH⟩ := hp_5
        refine lv_if_ne (tgt := 41) hx hb dX4_costOf_35 (by decide) (fun c_7 => ?_) (fun c_7 => ?_)
        · skip
          replace c_7 := ob_n.mp c_7
          refine lv_iinc (v := nI (i + 1)) (lv' := [(4, .int (nI (i + 1))), (3, .int (nI y)), (2, .int bit), (1, .int x), (0, .ref (al (2, p, 0)))]) hx hb dX4_costOf_41 hl (k := 0) rfl (nI_1 _) (by decide) rfl (fun ls hl => ?_)
          refine lv_goto (tgt := 5) hx hb dX4_costOf_44 (by decide) ?_
          exact ih5 (by omega) y _ _ _ (by simp [cC, ← hy, c_4, c_7]) hH hS (lv_sub hl [0, 1, 2, 3, 4] rfl)
        · skip
          replace c_7 := ob_0.mp c_7
          refine lv_iinc (v := nI (y + 1)) (lv' := [(3, .int (nI (y + 1))), (4, .int (nI i)), (2, .int bit), (1, .int x), (0, .ref (al (2, p, 0)))]) hx hb dX4_costOf_38 hl (k := 1) rfl (nI_1 _) (by decide) rfl (fun ls hl => ?_)
          refine lv_iinc (v := nI (i + 1)) (lv' := [(4, .int (nI (i + 1))), (3, .int (nI (y + 1))), (2, .int bit), (1, .int x), (0, .ref (al (2, p, 0)))]) hx hb dX4_costOf_41 hl (k := 1) rfl (nI_1 _) (by decide) rfl (fun ls hl => ?_)
          refine lv_goto (tgt := 5) hx hb dX4_costOf_44 (by decide) ?_
          exact ih5 (by omega) (y + 1) _ _ _ (by simp [cC, ← hy, c_4, c_7]) hH hS (lv_sub hl [0, 1, 2, 3, 4] rfl)
  exact lp5 0 (by omega) 0 _ _ _ rfl hH hS (lv_sub hl [0, 1, 4, 3, 2] rfl)

set_option maxHeartbeats 4000000 in
set_option maxRecDepth 100000 in
theorem c_wouldFind (l : Launch) {E : xE} {base : Nat} {al : Tg → Nat} {w : Tg → Option va_E} {p : Nat} {bu : Int32} {rk rf rt fr : Nat → Int32} {KF : Nat → Nat → Int32} {KC : Nat → Nat} (hPT : PT E al w p bu rk rf rt fr KF KC) {x bit : Int32} {f : Nat} (hf : f < 16) : xMet l yX4_wouldFind cX4_wouldFind 5 (some (.boolean)) ({ frames := 3, cells := 0, slots := 0, locals := 66 } : Room) E base [.ref (al (2, p, 0)), .int (nI f), .int x, .int bit] (fun H => xH E base al w H) (fun r H => r = some (.int (ob (anyB (fun b => cov bit b && wre (KF b) (nI 1 <<< (nI f &&& 31)) x) 8))) ∧ xH E base al w H) := by
  refine xMet.of (by decide +kernel) "Dataroom$Party" rfl (Nat.le_of_ble_eq_true rfl) ?_
  intro p9 e9 s m9 below meth c9 ls C hin hP hS hl
  have hx := C.hx
  have hb := C.hb
  have hH := hP
  have hl : lv_has ls 5 [(0, .ref (al (2, p, 0))), (1, .int (nI f)), (2, .int x), (3, .int bit)] := hl
  obtain ⟨post, hpost⟩ : ∃ zz9 : Option Value → Heap → Prop, zz9 = (fun r H => r = some (.int (ob (anyB (fun b => cov bit b && wre (KF b) (nI 1 <<< (nI f &&& 31)) x) 8))) ∧ xH E base al w H) := ⟨_, rfl⟩
  rw [← hpost]
  generalize hQ : (MQ below (xQ base post) ([.ref (al (2, p, 0)), .int (nI f), .int x, .int bit] : List Value).toArray s 0 0 (xA base)) = Q
  have hPT0 := hPT
  obtain ⟨h0, h1, h2, h3, h4, h5, h6⟩ := hPT
  refine lv_iconst (v := nI 0) hx hb dX4_wouldFind_0 (by decide +kernel) ?_
  refine lv_istore (lv' := [(4, .int (nI 0)), (0, .ref (al (2, p, 0))), (1, .int (nI f)), (2, .int x), (3, .int bit)]) hx hb dX4_wouldFind_1 hl (by decide) rfl (fun ls hl => ?_)
  have lp3 : ∀ (i : Nat), i ≤ 8 → ∀  (H : Heap) (locs : List Loc) (ls : Array Slot), anyB (fun b => cov bit b && wre (KF b) (nI 1 <<< (nI f &&& 31)) x) i = false → xH E base al w H → va_S (xA base) s.heap H locs → lv_has ls 5 [(4, .int (nI i)), (3, .int bit), (2, .int x), (1, .int (nI f)), (0, .ref (al (2, p, 0)))] → W p9 l e9 ({ frames := 3, cells := 0, slots := 0, locals := 66 } : Room) s m9 ([.ref (al (2, p, 0)), .int (nI f), .int x, .int bit] : List Value).toArray below meth c9 H locs 0 0 Q (F0 m9 3 ls []) := by
    refine lp_up ?_
    intro i hii ih3  H locs ls hy hH hS hl
    refine lv_iload hx hb dX4_wouldFind_3 (lv_at hl 0 rfl) ?_
    refine lv_aload_n hx hb dX4_wouldFind_5 rfl (lv_at hl 4 rfl) ?_
    refine x_get C hH (ci := 5) (T := TX4) (N := 5) h0 rfl iWX4 3 (by decide) qw_388 rfl rfl dX4_wouldFind_6 ?_
    refine x_alen (v := nI 8) C hH 3 rfl h2 rfl dX4_wouldFind_9 ?_
    refine lv_icmp_ge (tgt := 47) hx hb dX4_wouldFind_10 (by decide) (fun c_1 => ?_) (fun c_1 => ?_)
    · skip
      replace c_1 := (nI_leI (by omega) (by omega)).mp c_1
      refine lv_iconst (v := nI 0) hx hb dX4_wouldFind_47 (by decide +kernel) ?_
      rw [← hQ]
      refine x_reti C rfl hS (Nat.le_of_ble_eq_true rfl) (Nat.le_of_ble_eq_true rfl) dX4_wouldFind_48 ?_
      rw [hpost]
      have e8 : i = 8 := by omega
      subst e8
      exact ⟨by rw [hy]; rfl, hH⟩
    · skip
      replace c_1 := mt (nI_leI (by omega) (by omega)).mpr c_1
      refine lv_iload_n hx hb dX4_wouldFind_13 rfl (lv_at hl 1 rfl) ?_
      refine lv_iload hx hb dX4_wouldFind_14 (lv_at hl 0 rfl) ?_
      refine x_callSN C hS (c_covers l (E := E) (base := base) (al := al) (w := w) (x := bit) (k := i)) hH kX6_covers qw_357 nw_356  rfl [] rfl hl.1 (Nat.le_of_ble_eq_true rfl) ⟨Nat.le_of_ble_eq_true rfl, Nat.le_of_ble_eq_true rfl⟩ dX4_wouldFind_16 ⟨Nat.le_of_ble_eq_true rfl, Nat.le_of_ble_eq_true rfl⟩ (fun r_3 H locs hp_2 hS => ?_)
      obtain ⟨rfl, hH⟩ := hp_2
      refine lv_if_eq (tgt := 41) hx hb dX4_wouldFind_19 (by decide) (fun c_4 => ?_) (fun c_4 => ?_)
      · skip
        replace c_4 := ob_0.mp c_4
        refine lv_iinc (v := nI (i + 1)) (lv' := [(4, .int (nI (i + 1))), (3, .int bit), (2, .int x), (1, .int (nI f)), (0, .ref (al (2, p, 0)))]) hx hb dX4_wouldFind_41 hl (k := 0) rfl (nI_1 _) (by decide) rfl (fun ls hl => ?_)
        refine lv_goto (tgt := 3) hx hb dX4_wouldFind_44 (by decide) ?_
        exact ih3 (by omega)  _ _ _ (by show (_ || _) = false; rw [hy]; simp [c_4]) hH hS (lv_sub hl [0, 1, 2, 3, 4] rfl)
      · skip
        replace c_4 := ob_n.mp c_4
        refine lv_aload_n hx hb dX4_wouldFind_22 rfl (lv_at hl 4 rfl) ?_
        refine x_get C hH (ci := 5) (T := TX4) (N := 5) h0 rfl iWX4 3 (by decide) qw_388 rfl rfl dX4_wouldFind_23 ?_
        refine lv_iload hx hb dX4_wouldFind_26 (lv_at hl 0 rfl) ?_
        refine x_aldq C hH 3 rfl h2 (j := i) rfl (by omega) (by omega) (v := .ref (al (4, p, i))) (rfl) dX4_wouldFind_28 ?_
        refine lv_iconst (v := nI 1) hx hb dX4_wouldFind_29 (by decide +kernel) ?_
        refine lv_iload_n hx hb dX4_wouldFind_30 rfl (lv_at hl 3 rfl) ?_
        refine lv_ishl hx hb dX4_wouldFind_31 ?_
        refine lv_iload_n hx hb dX4_wouldFind_32 rfl (lv_at hl 2 rfl) ?_
        refine x_callV C hH hS (ci := 3) (t := (4, p, i)) (h5 i (by omega)) rfl rfl (c_wouldReach l (E := E) (base := base) (x := (nI 1 <<< (nI f &&& 31))) (z := x) (h5 i (by omega)) (h6 i (by omega))) hH kX2_wouldReach qw_514 qw_515 qw_513  rfl [] rfl hl.1 (Nat.le_of_ble_eq_true rfl) ⟨Nat.le_of_ble_eq_true rfl, Nat.le_of_ble_eq_true rfl⟩ dX4_wouldFind_33 ⟨Nat.le_of_ble_eq_true rfl, Nat.le_of_ble_eq_true rfl⟩ (fun r_6 H locs hp_5 hS => ?_)
        obtain ⟨rfl, hH⟩ := hp_5
        refine lv_if_eq (tgt := 41) hx hb dX4_wouldFind_36 (by decide) (fun c_7 => ?_) (fun c_7 => ?_)
        · skip
          replace c_7 := ob_0.mp c_7
          refine lv_iinc (v := nI (i + 1)) (lv' := [(4, .int (nI (i + 1))), (3, .int bit), (2, .int x), (1, .int (nI f)), (0, .ref (al (2, p, 0)))]) hx hb dX4_wouldFind_41 hl (k := 0) rfl (nI_1 _) (by decide) rfl (fun ls hl => ?_)
          refine lv_goto (tgt := 3) hx hb dX4_wouldFind_44 (by decide) ?_
          exact ih3 (by omega)  _ _ _ (by show (_ || _) = false; rw [hy]; simp [c_4, c_7]) hH hS (lv_sub hl [0, 1, 2, 3, 4] rfl)
        · skip
          replace c_7 := ob_n.mp c_7
          refine lv_iconst (v := nI 1) hx hb dX4_wouldFind_39 (by decide +kernel) ?_
          rw [← hQ]
          refine x_reti C rfl hS (Nat.le_of_ble_eq_true rfl) (Nat.le_of_ble_eq_true rfl) dX4_wouldFind_40 ?_
          rw [hpost]
          exact ⟨by rw [anyB_t (P := (fun b => cov bit b && wre (KF b) (nI 1 <<< (nI f &&& 31)) x)) (i := i) (by simp [c_4, c_7]) 8 (by omega)]; rfl, hH⟩
  exact lp3 0 (by omega)  _ _ _ rfl hH hS (lv_sub hl [0, 4, 3, 2, 1] rfl)

set_option maxHeartbeats 4000000 in
set_option maxRecDepth 100000 in
theorem c_unread (l : Launch) {E : xE} {base : Nat} {al : Tg → Nat} {w : Tg → Option va_E} {p : Nat} {bu : Int32} {rk rf rt fr : Nat → Int32} {KF : Nat → Nat → Int32} {KC : Nat → Nat} (hPT : PT E al w p bu rk rf rt fr KF KC) {x bit hh : Int32} : xMet l yX4_wouldFindUnread cX4_wouldFindUnread 5 (some (.boolean)) ({ frames := 4, cells := 0, slots := 0, locals := 90 } : Room) E base [.ref (al (2, p, 0)), .int x, .int bit, .int hh] (fun H => xH E base al w H) (fun r H => r = some (.int (ob (anyB (fun f => !decide (rIn (rk f) (rf f) (rt f) hh = nI 2) && anyB (fun b => cov bit b && wre (KF b) (nI 1 <<< (nI f &&& 31)) x) 8) 16))) ∧ xH E base al w H) := by
  refine xMet.of (by decide +kernel) "Dataroom$Party" rfl (Nat.le_of_ble_eq_true rfl) ?_
  intro p9 e9 s m9 below meth c9 ls C hin hP hS hl
  have hx := C.hx
  have hb := C.hb
  have hH := hP
  have hl : lv_has ls 5 [(0, .ref (al (2, p, 0))), (1, .int x), (2, .int bit), (3, .int hh)] := hl
  obtain ⟨post, hpost⟩ : ∃ zz9 : Option Value → Heap → Prop, zz9 = (fun r H => r = some (.int (ob (anyB (fun f => !decide (rIn (rk f) (rf f) (rt f) hh = nI 2) && anyB (fun b => cov bit b && wre (KF b) (nI 1 <<< (nI f &&& 31)) x) 8) 16))) ∧ xH E base al w H) := ⟨_, rfl⟩
  rw [← hpost]
  generalize hQ : (MQ below (xQ base post) ([.ref (al (2, p, 0)), .int x, .int bit, .int hh] : List Value).toArray s 0 0 (xA base)) = Q
  have hPT0 := hPT
  obtain ⟨h0, h1, h2, h3, h4, h5, h6⟩ := hPT
  refine lv_iconst (v := nI 0) hx hb dX4_wouldFindUnread_0 (by decide +kernel) ?_
  refine lv_istore (lv' := [(4, .int (nI 0)), (0, .ref (al (2, p, 0))), (1, .int x), (2, .int bit), (3, .int hh)]) hx hb dX4_wouldFindUnread_1 hl (by decide) rfl (fun ls hl => ?_)
  have lp3 : ∀ (i : Nat), i ≤ 16 → ∀  (H : Heap) (locs : List Loc) (ls : Array Slot), anyB (fun f => !decide (rIn (rk f) (rf f) (rt f) hh = nI 2) && anyB (fun b => cov bit b && wre (KF b) (nI 1 <<< (nI f &&& 31)) x) 8) i = false → xH E base al w H → va_S (xA base) s.heap H locs → lv_has ls 5 [(4, .int (nI i)), (3, .int hh), (2, .int bit), (1, .int x), (0, .ref (al (2, p, 0)))] → W p9 l e9 ({ frames := 4, cells := 0, slots := 0, locals := 90 } : Room) s m9 ([.ref (al (2, p, 0)), .int x, .int bit, .int hh] : List Value).toArray below meth c9 H locs 0 0 Q (F0 m9 3 ls []) := by
    refine lp_up ?_
    intro i hii ih3  H locs ls hy hH hS hl
    refine lv_iload hx hb dX4_wouldFindUnread_3 (lv_at hl 0 rfl) ?_
    refine lv_aload_n hx hb dX4_wouldFindUnread_5 rfl (lv_at hl 4 rfl) ?_
    refine x_get C hH (ci := 5) (T := TX4) (N := 5) h0 rfl iWX4 2 (by decide) qw_387 rfl rfl dX4_wouldFindUnread_6 ?_
    refine x_alen (v := nI 16) C hH 4 rfl h1 rfl dX4_wouldFindUnread_9 ?_
    refine lv_icmp_ge (tgt := 43) hx hb dX4_wouldFindUnread_10 (by decide) (fun c_1 => ?_) (fun c_1 => ?_)
    · skip
      replace c_1 := (nI_leI (by omega) (by omega)).mp c_1
      refine lv_iconst (v := nI 0) hx hb dX4_wouldFindUnread_43 (by decide +kernel) ?_
      rw [← hQ]
      refine x_reti C rfl hS (Nat.le_of_ble_eq_true rfl) (Nat.le_of_ble_eq_true rfl) dX4_wouldFindUnread_44 ?_
      rw [hpost]
      have e8 : i = 16 := by omega
      subst e8
      exact ⟨by rw [hy]; rfl, hH⟩
    · skip
      replace c_1 := mt (nI_leI (by omega) (by omega)).mpr c_1
      refine lv_aload_n hx hb dX4_wouldFindUnread_13 rfl (lv_at hl 4 rfl) ?_
      refine lv_iload_n hx hb dX4_wouldFindUnread_14 rfl (lv_at hl 1 rfl) ?_
      refine lv_iload hx hb dX4_wouldFindUnread_15 (lv_at hl 0 rfl) ?_
      refine x_callV C hH hS (ci := 5) (t := (2, p, 0)) h0 rfl rfl (c_rightIn l (E := E) (base := base) hPT0 (f := i) (hh := hh) (by omega)) hH kX4_rightIn qw_488 qw_489 qw_508  rfl [] rfl hl.1 (Nat.le_of_ble_eq_true rfl) ⟨Nat.le_of_ble_eq_true rfl, Nat.le_of_ble_eq_true rfl⟩ dX4_wouldFindUnread_17 ⟨Nat.le_of_ble_eq_true rfl, Nat.le_of_ble_eq_true rfl⟩ (fun r_3 H locs hp_2 hS => ?_)
      obtain ⟨rfl, hH⟩ := hp_2
      refine lv_iconst (v := nI 2) hx hb dX4_wouldFindUnread_20 (by decide +kernel) ?_
      refine lv_icmp_eq (tgt := 37) hx hb dX4_wouldFindUnread_21 (by decide) (fun c_4 => ?_) (fun c_4 => ?_)
      · skip
        refine lv_iinc (v := nI (i + 1)) (lv' := [(4, .int (nI (i + 1))), (3, .int hh), (2, .int bit), (1, .int x), (0, .ref (al (2, p, 0)))]) hx hb dX4_wouldFindUnread_37 hl (k := 0) rfl (nI_1 _) (by decide) rfl (fun ls hl => ?_)
        refine lv_goto (tgt := 3) hx hb dX4_wouldFindUnread_40 (by decide) ?_
        exact ih3 (by omega)  _ _ _ (by show (_ || _) = false; rw [hy]; simp [c_4]) hH hS (lv_sub hl [0, 1, 2, 3, 4] rfl)
      · skip
        refine lv_aload_n hx hb dX4_wouldFindUnread_24 rfl (lv_at hl 4 rfl) ?_
        refine lv_iload hx hb dX4_wouldFindUnread_25 (lv_at hl 0 rfl) ?_
        refine lv_iload_n hx hb dX4_wouldFindUnread_27 rfl (lv_at hl 3 rfl) ?_
        refine lv_iload_n hx hb dX4_wouldFindUnread_28 rfl (lv_at hl 2 rfl) ?_
        refine x_callV C hH hS (ci := 5) (t := (2, p, 0)) h0 rfl rfl (c_wouldFind l (E := E) (base := base) hPT0 (x := x) (bit := bit) (f := i) (by omega)) hH kX4_wouldFind qw_511 (ws_p (List.mem_of_getElem? (i := 13) rfl) rfl) qw_509  rfl [] rfl hl.1 (Nat.le_of_ble_eq_true rfl) ⟨Nat.le_of_ble_eq_true rfl, Nat.le_of_ble_eq_true rfl⟩ dX4_wouldFindUnread_29 ⟨Nat.le_of_ble_eq_true rfl, Nat.le_of_ble_eq_true rfl⟩ (fun r_6 H locs hp_5 hS => ?_)
        obtain ⟨rfl, hH⟩ := hp_5
        refine lv_if_eq (tgt := 37) hx hb dX4_wouldFindUnread_32 (by decide) (fun c_7 => ?_) (fun c_7 => ?_)
        · skip
          replace c_7 := ob_0.mp c_7
          refine lv_iinc (v := nI (i + 1)) (lv' := [(4, .int (nI (i + 1))), (3, .int hh), (2, .int bit), (1, .int x), (0, .ref (al (2, p, 0)))]) hx hb dX4_wouldFindUnread_37 hl (k := 0) rfl (nI_1 _) (by decide) rfl (fun ls hl => ?_)
          refine lv_goto (tgt := 3) hx hb dX4_wouldFindUnread_40 (by decide) ?_
          exact ih3 (by omega)  _ _ _ (by show (_ || _) = false; rw [hy]; simp [c_4, c_7]) hH hS (lv_sub hl [0, 1, 2, 3, 4] rfl)
        · skip
          replace c_7 := ob_n.mp c_7
          refine lv_iconst (v := nI 1) hx hb dX4_wouldFindUnread_35 (by decide +kernel) ?_
          rw [← hQ]
          refine x_reti C rfl hS (Nat.le_of_ble_eq_true rfl) (Nat.le_of_ble_eq_true rfl) dX4_wouldFindUnread_36 ?_
          rw [hpost]
          exact ⟨by rw [anyB_t (P := (fun f => !decide (rIn (rk f) (rf f) (rt f) hh = nI 2) && anyB (fun b => cov bit b && wre (KF b) (nI 1 <<< (nI f &&& 31)) x) 8)) (i := i) (by simp [c_4, c_7]) 16 (by omega)]; rfl, hH⟩
  exact lp3 0 (by omega)  _ _ _ rfl hH hS (lv_sub hl [0, 4, 3, 2, 1] rfl)

set_option maxHeartbeats 4000000 in
set_option maxRecDepth 100000 in
theorem c_plearn (l : Launch) {E : xE} {base : Nat} {al : Tg → Nat} {w : Tg → Option va_E} {p : Nat} {bu : Int32} {rk rf rt fr : Nat → Int32} {KF : Nat → Nat → Int32} {KC : Nat → Nat} (hPT : PT E al w p bu rk rf rt fr KF KC) {x bit : Int32} : xMet l yX4_learn cX4_learn 4 none ({ frames := 2, cells := 0, slots := 0, locals := 44 } : Room) E base [.ref (al (2, p, 0)), .int x, .int bit] (fun H => xH E base al w H) (fun r H => r = none ∧ xH E base al (kw E al w p (lK KF bit x 8) (lC KF KC bit x 8)) H) := by
  refine xMet.of (by decide +kernel) "Dataroom$Party" rfl (Nat.le_of_ble_eq_true rfl) ?_
  intro p9 e9 s m9 below meth c9 ls C hin hP hS hl
  have hx := C.hx
  have hb := C.hb
  have hH := hP
  have hl : lv_has ls 4 [(0, .ref (al (2, p, 0))), (1, .int x), (2, .int bit)] := hl
  obtain ⟨post, hpost⟩ : ∃ zz9 : Option Value → Heap → Prop, zz9 = (fun r H => r = none ∧ xH E base al (kw E al w p (lK KF bit x 8) (lC KF KC bit x 8)) H) := ⟨_, rfl⟩
  rw [← hpost]
  generalize hQ : (MQ below (xQ base post) ([.ref (al (2, p, 0)), .int x, .int bit] : List Value).toArray s 0 0 (xA base)) = Q
  have hPT0 := hPT
  obtain ⟨h0, h1, h2, h3, h4, h5, h6⟩ := hPT
  refine lv_iconst (v := nI 0) hx hb dX4_learn_0 (by decide +kernel) ?_
  refine lv_istore_n (lv' := [(3, .int (nI 0)), (0, .ref (al (2, p, 0))), (1, .int x), (2, .int bit)]) hx hb dX4_learn_1 rfl hl (by decide) rfl (fun ls hl => ?_)
  have lp2 : ∀ (i : Nat), i ≤ 8 → ∀  (H : Heap) (locs : List Loc) (ls : Array Slot), xH E base al (kw E al w p (lK KF bit x i) (lC KF KC bit x i)) H → va_S (xA base) s.heap H locs → lv_has ls 4 [(3, .int (nI i)), (2, .int bit), (1, .int x), (0, .ref (al (2, p, 0)))] → W p9 l e9 ({ frames := 2, cells := 0, slots := 0, locals := 44 } : Room) s m9 ([.ref (al (2, p, 0)), .int x, .int bit] : List Value).toArray below meth c9 H locs 0 0 Q (F0 m9 2 ls []) := by
    refine lp_up ?_
    intro i hii ih2  H locs ls hH hS hl
    obtain ⟨g0, g1, g2, g3, g4, g5, g6⟩ := kw_PT hPT0 (lK KF bit x i) (lC KF KC bit x i)
    refine lv_iload_n hx hb dX4_learn_2 rfl (lv_at hl 0 rfl) ?_
    refine lv_aload_n hx hb dX4_learn_3 rfl (lv_at hl 3 rfl) ?_
    refine x_get C hH (ci := 5) (T := TX4) (N := 5) g0 rfl iWX4 3 (by decide) qw_388 rfl rfl dX4_learn_4 ?_
    refine x_alen (v := nI 8) C hH 3 rfl g2 rfl dX4_learn_7 ?_
    refine lv_icmp_ge (tgt := 35) hx hb dX4_learn_8 (by decide) (fun c_1 => ?_) (fun c_1 => ?_)
    · skip
      replace c_1 := (nI_leI (by omega) (by omega)).mp c_1
      rw [← hQ]
      refine x_retv C hS (Nat.le_of_ble_eq_true rfl) (Nat.le_of_ble_eq_true rfl) dX4_learn_35 ?_
      rw [hpost]
      have e8 : i = 8 := by omega
      subst e8
      exact ⟨rfl, hH⟩
    · skip
      replace c_1 := mt (nI_leI (by omega) (by omega)).mpr c_1
      refine lv_iload_n hx hb dX4_learn_11 rfl (lv_at hl 1 rfl) ?_
      refine lv_iload_n hx hb dX4_learn_12 rfl (lv_at hl 0 rfl) ?_
      refine x_callSN C hS (c_covers l (E := E) (base := base) (al := al) (w := (kw E al w p (lK KF bit x i) (lC KF KC bit x i))) (x := bit) (k := i)) hH kX6_covers qw_357 nw_356  rfl [] rfl hl.1 (Nat.le_of_ble_eq_true rfl) ⟨Nat.le_of_ble_eq_true rfl, Nat.le_of_ble_eq_true rfl⟩ dX4_learn_13 ⟨Nat.le_of_ble_eq_true rfl, Nat.le_of_ble_eq_true rfl⟩ (fun r_3 H locs hp_2 hS => ?_)
      obtain ⟨rfl, hH⟩ := hp_2
      refine lv_if_eq (tgt := 29) hx hb dX4_learn_16 (by decide) (fun c_4 => ?_) (fun c_4 => ?_)
      · skip
        replace c_4 := ob_0.mp c_4
        refine lv_iinc (v := nI (i + 1)) (lv' := [(3, .int (nI (i + 1))), (2, .int bit), (1, .int x), (0, .ref (al (2, p, 0)))]) hx hb dX4_learn_29 hl (k := 0) rfl (nI_1 _) (by decide) rfl (fun ls hl => ?_)
        refine lv_goto (tgt := 2) hx hb dX4_learn_32 (by decide) ?_
        exact ih2 (by omega)  _ _ _  (by rw [lK_n c_4, lC_n c_4] at hH; exact hH) hS (lv_sub hl [0, 1, 2, 3] rfl)
      · skip
        replace c_4 := ob_n.mp c_4
        refine lv_aload_n hx hb dX4_learn_19 rfl (lv_at hl 3 rfl) ?_
        refine x_get C hH (ci := 5) (T := TX4) (N := 5) g0 rfl iWX4 3 (by decide) qw_388 rfl rfl dX4_learn_20 ?_
        refine lv_iload_n hx hb dX4_learn_23 rfl (lv_at hl 0 rfl) ?_
        refine x_aldq C hH 3 rfl g2 (j := i) rfl (by omega) (by omega) (v := .ref (al (4, p, i))) (rfl) dX4_learn_24 ?_
        refine lv_iload_n hx hb dX4_learn_25 rfl (lv_at hl 2 rfl) ?_
        refine x_callV C hH hS (ci := 3) (t := (4, p, i)) (g5 i (by omega)) rfl rfl (c_learn l (E := E) (base := base) (x := x) (g5 i (by omega)) (g6 i (by omega))) hH kX2_learn qw_360 qw_361 qw_359  rfl [] rfl hl.1 (Nat.le_of_ble_eq_true rfl) ⟨Nat.le_of_ble_eq_true rfl, Nat.le_of_ble_eq_true rfl⟩ dX4_learn_26 ⟨Nat.le_of_ble_eq_true rfl, Nat.le_of_ble_eq_true rfl⟩ (fun r_6 H locs hp_5 hS => ?_)
        obtain ⟨rfl, hH⟩ := hp_5
        rw [nI_add, kw_step (by omega), lK_s c_4, lC_s c_4] at hH
        refine lv_iinc (v := nI (i + 1)) (lv' := [(3, .int (nI (i + 1))), (2, .int bit), (1, .int x), (0, .ref (al (2, p, 0)))]) hx hb dX4_learn_29 hl (k := 0) rfl (nI_1 _) (by decide) rfl (fun ls hl => ?_)
        refine lv_goto (tgt := 2) hx hb dX4_learn_32 (by decide) ?_
        exact ih2 (by omega)  _ _ _  hH hS (lv_sub hl [0, 1, 2, 3] rfl)
  exact lp2 0 (by omega)  _ _ _  (by rw [lK_0, lC_0, kw_self hPT0]; exact hH) hS (lv_sub hl [0, 3, 2, 1] rfl)

set_option maxHeartbeats 4000000 in
set_option maxRecDepth 100000 in
theorem c_pforget (l : Launch) {E : xE} {base : Nat} {al : Tg → Nat} {w : Tg → Option va_E} {p : Nat} {bu : Int32} {rk rf rt fr : Nat → Int32} {KF : Nat → Nat → Int32} {KC : Nat → Nat} (hPT : PT E al w p bu rk rf rt fr KF KC)  : xMet l yX4_forget cX4_forget 2 none ({ frames := 1, cells := 0, slots := 0, locals := 21 } : Room) E base [.ref (al (2, p, 0))] (fun H => xH E base al w H) (fun r H => r = none ∧ xH E base al (kw E al w p (gK KF 8) (gC KC 8)) H) := by
  refine xMet.of (by decide +kernel) "Dataroom$Party" rfl (Nat.le_of_ble_eq_true rfl) ?_
  intro p9 e9 s m9 below meth c9 ls C hin hP hS hl
  have hx := C.hx
  have hb := C.hb
  have hH := hP
  have hl : lv_has ls 2 [(0, .ref (al (2, p, 0)))] := hl
  obtain ⟨post, hpost⟩ : ∃ zz9 : Option Value → Heap → Prop, zz9 = (fun r H => r = none ∧ xH E base al (kw E al w p (gK KF 8) (gC KC 8)) H) := ⟨_, rfl⟩
  rw [← hpost]
  generalize hQ : (MQ below (xQ base post) ([.ref (al (2, p, 0))] : List Value).toArray s 0 0 (xA base)) = Q
  have hPT0 := hPT
  obtain ⟨h0, h1, h2, h3, h4, h5, h6⟩ := hPT
  refine lv_iconst (v := nI 0) hx hb dX4_forget_0 (by decide +kernel) ?_
  refine lv_istore_n (lv' := [(1, .int (nI 0)), (0, .ref (al (2, p, 0)))]) hx hb dX4_forget_1 rfl hl (by decide) rfl (fun ls hl => ?_)
  have lp2 : ∀ (i : Nat), i ≤ 8 → ∀  (H : Heap) (locs : List Loc) (ls : Array Slot), xH E base al (kw E al w p (gK KF i) (gC KC i)) H → va_S (xA base) s.heap H locs → lv_has ls 2 [(1, .int (nI i)), (0, .ref (al (2, p, 0)))] → W p9 l e9 ({ frames := 1, cells := 0, slots := 0, locals := 21 } : Room) s m9 ([.ref (al (2, p, 0))] : List Value).toArray below meth c9 H locs 0 0 Q (F0 m9 2 ls []) := by
    refine lp_up ?_
    intro i hii ih2  H locs ls hH hS hl
    obtain ⟨g0, g1, g2, g3, g4, g5, g6⟩ := kw_PT hPT0 (gK KF i) (gC KC i)
    refine lv_iload_n hx hb dX4_forget_2 rfl (lv_at hl 0 rfl) ?_
    refine lv_aload_n hx hb dX4_forget_3 rfl (lv_at hl 1 rfl) ?_
    refine x_get C hH (ci := 5) (T := TX4) (N := 5) g0 rfl iWX4 3 (by decide) qw_388 rfl rfl dX4_forget_4 ?_
    refine x_alen (v := nI 8) C hH 3 rfl g2 rfl dX4_forget_7 ?_
    refine lv_icmp_ge (tgt := 26) hx hb dX4_forget_8 (by decide) (fun c_1 => ?_) (fun c_1 => ?_)
    · skip
      replace c_1 := (nI_leI (by omega) (by omega)).mp c_1
      rw [← hQ]
      refine x_retv C hS (Nat.le_of_ble_eq_true rfl) (Nat.le_of_ble_eq_true rfl) dX4_forget_26 ?_
      rw [hpost]
      have e8 : i = 8 := by omega
      subst e8
      exact ⟨rfl, hH⟩
    · skip
      replace c_1 := mt (nI_leI (by omega) (by omega)).mpr c_1
      refine lv_aload_n hx hb dX4_forget_11 rfl (lv_at hl 1 rfl) ?_
      refine x_get C hH (ci := 5) (T := TX4) (N := 5) g0 rfl iWX4 3 (by decide) qw_388 rfl rfl dX4_forget_12 ?_
      refine lv_iload_n hx hb dX4_forget_15 rfl (lv_at hl 0 rfl) ?_
      refine x_aldq C hH 3 rfl g2 (j := i) rfl (by omega) (by omega) (v := .ref (al (4, p, i))) (rfl) dX4_forget_16 ?_
      refine x_callV C hH hS (ci := 3) (t := (4, p, i)) (g5 i (by omega)) rfl rfl (c_forget l (E := E) (base := base) (g5 i (by omega)) (g6 i (by omega))) hH kX2_forget qw_349 qw_350 qw_348  rfl [] rfl hl.1 (Nat.le_of_ble_eq_true rfl) ⟨Nat.le_of_ble_eq_true rfl, Nat.le_of_ble_eq_true rfl⟩ dX4_forget_17 ⟨Nat.le_of_ble_eq_true rfl, Nat.le_of_ble_eq_true rfl⟩ (fun r_3 H locs hp_2 hS => ?_)
      obtain ⟨rfl, hH⟩ := hp_2
      replace hH := x_forg hH
      rw [kw_step (by omega), gK_s, gC_s] at hH
      refine lv_iinc (v := nI (i + 1)) (lv' := [(1, .int (nI (i + 1))), (0, .ref (al (2, p, 0)))]) hx hb dX4_forget_20 hl (k := 0) rfl (nI_1 _) (by decide) rfl (fun ls hl => ?_)
      refine lv_goto (tgt := 2) hx hb dX4_forget_23 (by decide) ?_
      exact ih2 (by omega)  _ _ _  hH hS (lv_sub hl [0, 1] rfl)
  exact lp2 0 (by omega)  _ _ _  (by rw [gK_0, gC_0, kw_self hPT0]; exact hH) hS (lv_sub hl [0, 1] rfl)
end
section
/-! the room: registers sg (1 number, 2 sealed till, of a file; 3 budget of a party; 4 5 6 a right's kind, from, to, of a party to a file; 7 who 8 set 9 bit 10 told 11 hour, of an answer; 13 how a party's questions fared), rc what is recalled -/
def u3 (sg : Nat → Nat → Nat → Int32) (k i j : Nat) (v : Int32) : Nat → Nat → Nat → Int32 := fun a b d => if a = k ∧ b = i ∧ d = j then v else sg a b d
theorem u3_k {sg : Nat → Nat → Nat → Int32} {k i j : Nat} {v : Int32} {a : Nat} (h : a ≠ k) : u3 sg k i j v a = sg a := by
  funext b d; exact if_neg (fun q => h q.1)
theorem u3_i {sg : Nat → Nat → Nat → Int32} {k i j : Nat} {v : Int32} {b : Nat} (h : b ≠ i) : u3 sg k i j v k b = sg k b := by
  funext d; exact if_neg (fun q => h q.2.1)
theorem u3_s {sg : Nat → Nat → Nat → Int32} {k i j : Nat} {v : Int32} : u3 sg k i j v k i j = v := if_pos ⟨rfl, rfl, rfl⟩
theorem u3_j {sg : Nat → Nat → Nat → Int32} {k i j : Nat} {v : Int32} {d : Nat} (h : d ≠ j) : u3 sg k i j v k i d = sg k i d := if_neg (fun q => h q.2.2)
abbrev sets (sg : Nat → Nat → Nat → Int32) : Nat → Int32 := fun a => sg 8 a 0
def stdb (sg : Nat → Nat → Nat → Int32) (rc : Nat → Bool) (p b : Nat) : Nat → Bool := fun a => (!rc a && decide (sg 7 a 0 = nI p)) && cov (sg 9 a 0) b
abbrev KFs (sg : Nat → Nat → Nat → Int32) (rc : Nat → Bool) (na p : Nat) : Nat → Nat → Int32 := fun b => rws (stdb sg rc p b) (sets sg) na
abbrev KCs (sg : Nat → Nat → Nat → Int32) (rc : Nat → Bool) (na p : Nat) : Nat → Nat := fun b => cnt (stdb sg rc p b) (sets sg) na
def LRa (E : xE) (al : Tg → Nat) (w : Tg → Option va_E) (tL tA : Tg) (n : Nat) (te : Nat → Tg) : Prop :=
  ∃ (mc : Int32) (cap : Nat) (g : Nat → Option Nat), n ≤ cap ∧ 10 ≤ cap ∧ cap ≤ 240 ∧ w tL = some (.inr (0, [.int mc, .ref (al tA), .int (nI n)])) ∧ w tA = some (.inl (E.2.1 5, cap, .inr (.inr (.inr (.inr g))))) ∧ ∀ i, i < n → g i = some (al (te i))
def LRe (E : xE) (w : Tg → Option va_E) (tL : Tg) : Prop := ∃ mc : Int32, w tL = some (.inr (0, [.int mc, .ref (E.2.2 1), .int (nI 0)]))
def LR (E : xE) (al : Tg → Nat) (w : Tg → Option va_E) (tL tA : Tg) (n : Nat) (te : Nat → Tg) : Prop := (n = 0 ∧ LRe E w tL) ∨ LRa E al w tL tA n te
theorem LR.sz {E : xE} {al : Tg → Nat} {w : Tg → Option va_E} {tL tA : Tg} {n : Nat} {te : Nat → Tg} (h : LR E al w tL tA n te) : ∃ (mc : Int32) (a : Nat), w tL = some (.inr (0, [.int mc, .ref a, .int (nI n)])) := by
  rcases h with ⟨rfl, mc, h⟩ | ⟨mc, cap, g, -, -, -, h, -⟩
  · exact ⟨mc, _, h⟩
  · exact ⟨mc, _, h⟩
theorem LR.at {E : xE} {al : Tg → Nat} {w : Tg → Option va_E} {tL tA : Tg} {n : Nat} {te : Nat → Tg} (h : LR E al w tL tA n te) {i : Nat} (hi : i < n) : ∃ (mc : Int32) (cap : Nat) (g : Nat → Option Nat), w tL = some (.inr (0, [.int mc, .ref (al tA), .int (nI n)])) ∧ w tA = some (.inl (E.2.1 5, cap, .inr (.inr (.inr (.inr g))))) ∧ n ≤ cap ∧ cap < 1000 ∧ g i = some (al (te i)) := by
  rcases h with ⟨rfl, -⟩ | ⟨mc, cap, g, h1, -, h2, h3, h4, h5⟩
  · exact absurd hi (Nat.not_lt_zero i)
  · exact ⟨mc, cap, g, h3, h4, h1, by omega, h5 i hi⟩
/-- other cells change, or lie elsewhere -/
theorem LR.mv {E : xE} {al al' : Tg → Nat} {w w' : Tg → Option va_E} {tL tA : Tg} {n : Nat} {te : Nat → Tg} (h : LR E al w tL tA n te) (h1 : w' tL = w tL) (h2 : w' tA = w tA) (h3 : al' tA = al tA) (h4 : ∀ i, i < n → al' (te i) = al (te i)) : LR E al' w' tL tA n te := by
  rcases h with ⟨rfl, mc, h⟩ | ⟨mc, cap, g, a1, a2, a3, a4, a5, a6⟩
  · exact Or.inl ⟨rfl, mc, h1.trans h⟩
  · exact Or.inr ⟨mc, cap, g, a1, a2, a3, by rw [h3]; exact h1.trans a4, h2.trans a5, fun i hi => by rw [h4 i hi]; exact a6 i hi⟩
abbrev tF (i : Nat) : Tg := (1, i, 0)
abbrev tP (i : Nat) : Tg := (2, i, 0)
abbrev tN (a : Nat) : Tg := (6, a, 0)
def RM (E : xE) (al : Tg → Nat) (w : Tg → Option va_E) (nf np na nw : Nat) (sg : Nat → Nat → Nat → Int32) (rc : Nat → Bool) : Prop :=
  w (0, 0, 0) = some (.inr (7, [.ref (al (0, 1, 0)), .ref (al (0, 2, 0)), .ref (al (0, 3, 0)), .int (nI nw), .ref (al (0, 4, 0)), .ref (al (0, 5, 0))])) ∧
  LR E al w (0, 1, 0) (0, 1, 1) nf tF ∧ LR E al w (0, 2, 0) (0, 2, 1) np tP ∧ LR E al w (0, 3, 0) (0, 3, 1) na tN ∧
  (∃ (n : Int32) (f : Nat → Int32), w (0, 4, 0) = some (.inr (3, [.ref (al (0, 4, 1)), .int n])) ∧ w (0, 4, 1) = some (.inl (E.2.1 0, 16, .inl f))) ∧
  (∃ (n : Int32) (f : Nat → Int64), w (0, 5, 0) = some (.inr (4, [.ref (al (0, 5, 1)), .int n])) ∧ w (0, 5, 1) = some (.inl (E.2.1 1, 1024, .inr (.inl f)))) ∧
  (∀ i, i < nf → w (1, i, 0) = some (.inr (2, [.int (sg 1 i 0), .int (sg 2 i 0)]))) ∧
  (∀ p, p < np → PT E al w p (sg 3 p 0) (sg 4 p) (sg 5 p) (sg 6 p) (sg 13 p) (KFs sg rc na p) (KCs sg rc na p)) ∧
  ∀ a, a < na → w (6, a, 0) = some (.inr (1, [.int (sg 7 a 0), .int (sg 8 a 0), .int (sg 9 a 0), .int (sg 10 a 0), .int (sg 11 a 0), .int (ob (rc a))]))
/-- what every run keeps to -/
def INV (nf np na nw : Nat) (sg : Nat → Nat → Nat → Int32) (rc : Nat → Bool) : Prop :=
  nf ≤ 16 ∧ np ≤ 6 ∧ na ≤ 150 ∧ nw ≤ 5000 ∧
  (∀ a, a < na → (∃ p, p < np ∧ sg 7 a 0 = nI p) ∧ sml nf (sg 8 a 0) ∧ (sg 9 a 0 = -1 ∨ ∃ b, b < 8 ∧ sg 9 a 0 = nI b)) ∧
  (∀ i, nf ≤ i → sg 2 i 0 = -1) ∧ (∀ p, np ≤ p → (∀ f, sg 4 p f = 0) ∧ ∀ k, sg 13 p k = 0) ∧
  (∀ p f, ∃ k, k ≤ 2 ∧ sg 4 p f = nI k) ∧ ∀ a, na ≤ a → rc a = false
/-- x is the number of one of n -/
def inR (x : Int32) (n : Nat) : Prop := ∃ j, j < n ∧ x = nI j
theorem inR_of {x : Int32} {n : Nat} (hn : n < 2 ^ 31) (h1 : ¬ x < 0) (h2 : x < nI n) : inR x n := by
  obtain ⟨j, hj, rfl⟩ := nI_of h1
  exact ⟨j, (nI_ltI hj hn).mp h2, rfl⟩
theorem inR_no {x : Int32} {n : Nat} (hn : n < 2 ^ 31) (h : x < 0 ∨ ¬ x < nI n) : ¬ inR x n := by
  rintro ⟨j, hj, rfl⟩
  rcases h with h | h
  · exact nI_pos (by omega) h
  · exact h ((nI_ltI (by omega) hn).mpr hj)
def Qok (nf : Nat) (x bit : Int32) : Prop := (nI 1 ≤ x ∧ x ≤ (nI 1 <<< (nI nf &&& 31)) - nI 1) ∧ ((-1) ≤ bit ∧ bit ≤ nI 7)
def xoR (x : Int32) (nu : Nat → Int32) : Nat → Int32
  | 0 => nI 0
  | n + 1 => if bt x n then xoR x nu n ^^^ nu n else xoR x nu n
def tel (bit s : Int32) : Int32 := if bit = -1 then s else (s >>> (bit &&& 31)) &&& nI 1
/-- a party lacks the right to some file of the set; some file of it is sealed -/
def lack (nf nw : Nat) (sg : Nat → Nat → Nat → Int32) (p : Nat) (x : Int32) : Bool := anyB (fun f => bt x f && decide (rIn (sg 4 p f) (sg 5 p f) (sg 6 p f) (nI nw) = 0)) nf
def seld (nf nw : Nat) (sg : Nat → Nat → Nat → Int32) (x : Int32) : Bool := anyB (fun f => bt x f && decide (nI nw ≤ sg 2 f 0)) nf
def wTl (nw na : Nat) (sg : Nat → Nat → Nat → Int32) (rc : Nat → Bool) (p : Nat) (x bit : Int32) : Bool :=
  anyB (fun f => !decide (rIn (sg 4 p f) (sg 5 p f) (sg 6 p f) (nI nw) = nI 2) && anyB (fun b => cov bit b && wre (KFs sg rc na p b) (nI 1 <<< (nI f &&& 31)) x) 8) 16
def dear (na : Nat) (sg : Nat → Nat → Nat → Int32) (rc : Nat → Bool) (p : Nat) (x bit : Int32) : Bool := decide (sg 3 p 0 < nI (sC (KCs sg rc na p) 8 + cC (KFs sg rc na p) bit x 8))
/-- how a question fares: 0, or the code of its refusal without its sign -/
def fate (nf na nw : Nat) (sg : Nat → Nat → Nat → Int32) (rc : Nat → Bool) (p : Nat) (x bit : Int32) : Nat :=
  if lack nf nw sg p x then 1 else if seld nf nw sg x then 2 else if wTl nw na sg rc p x bit then 3 else if dear na sg rc p x bit then 4 else 0
end
section
/-- how many answers of a party stand -/
def cSt (sg : Nat → Nat → Nat → Int32) (rc : Nat → Bool) (p : Nat) : Nat → Nat
  | 0 => 0
  | a + 1 => cSt sg rc p a + (if !rc a && decide (sg 7 a 0 = nI p) then 1 else 0)
theorem cSt_le {sg : Nat → Nat → Nat → Int32} {rc : Nat → Bool} {p : Nat} : ∀ n, cSt sg rc p n ≤ n
  | 0 => Nat.le_refl 0
  | n + 1 => by show cSt sg rc p n + _ ≤ n + 1; have := cSt_le (sg := sg) (rc := rc) (p := p) n; split <;> omega
/-- the bits of which P is so, as a set -/
def fBs (P : Nat → Bool) : Nat → Int32
  | 0 => nI 0
  | b + 1 => if P b then fBs P b ||| (nI 1 <<< (nI b &&& 31)) else fBs P b
theorem fBs_n {P : Nat → Bool} {b : Nat} (h : P b = false) : fBs P b = fBs P (b + 1) := by
  show _ = (if P b then _ else _); rw [h]; rfl
theorem fBs_p {P : Nat → Bool} {b : Nat} (h : P b = true) : (fBs P b ||| (nI 1 <<< (nI b &&& 31))) = fBs P (b + 1) := by
  show _ = (if P b then _ else _); rw [h]; rfl
theorem fBs_cong {P R : Nat → Bool} : ∀ {n : Nat}, (∀ b, b < n → P b = R b) → fBs P n = fBs R n
  | 0, _ => rfl
  | n + 1, h => by show (if P n then _ else _) = (if R n then _ else _); rw [fBs_cong (fun b hb => h b (by omega)), h n (Nat.lt_succ_self n)]
set_option maxHeartbeats 4000000 in
set_option maxRecDepth 100000 in
theorem c_rFile (l : Launch) (hfl : l.stackTraces = false) {E : xE} {base : Nat} {al : Tg → Nat} {w : Tg → Option va_E} {nf np na nw : Nat} {sg : Nat → Nat → Nat → Int32} {rc : Nat → Bool} (hR : RM E al w nf np na nw sg rc) (hI : INV nf np na nw sg rc) {x : Int32} : xMetX l yX6_requireFile cX6_requireFile 2 none ({ frames := 6, cells := 1, slots := 6, locals := 82 } : Room) E base [.ref (al (0, 0, 0)), .int x] (fun H => xH E base al w H) (fun r H => r = none ∧ inR x nf ∧ xH E base al w H) (fun X H => X = "java/lang/IndexOutOfBoundsException" ∧ ¬ inR x nf ∧ xH E base al w H) := by
  refine xMetX.of (by decide +kernel) "Dataroom" rfl (Nat.le_of_ble_eq_true rfl) ?_
  intro p9 e9 s m9 below meth c9 ls C het hP hS hl
  have hx := C.hx
  have hb := C.hb
  have hH := hP
  have hl : lv_has ls 2 [(0, .ref (al (0, 0, 0))), (1, .int x)] := hl
  obtain ⟨post, hpost⟩ : ∃ zz9 : Option Value → Heap → Prop, zz9 = (fun r H => r = none ∧ inR x nf ∧ xH E base al w H) := ⟨_, rfl⟩
  obtain ⟨px, hpx⟩ : ∃ zz9 : String → Heap → Prop, zz9 = (fun X H => X = "java/lang/IndexOutOfBoundsException" ∧ ¬ inR x nf ∧ xH E base al w H) := ⟨_, rfl⟩
  rw [← hpost, ← hpx]
  generalize hQ : (vx_MQ below (xQ base post) (xX base px) ([.ref (al (0, 0, 0)), .int x] : List Value).toArray s 1 6 (xA base)) = Q
  have hR0 := hR
  have hI0 := hI
  obtain ⟨hX, hF, hPl, hAl, hSh, hMk, hC, hPT, hAn⟩ := hR
  obtain ⟨mcF, aF, hLF⟩ := hF.sz
  obtain ⟨mcP, aP, hLP⟩ := hPl.sz
  obtain ⟨mcA, aA, hLA⟩ := hAl.sz
  obtain ⟨v16, v6, v150, vnow, vA, vS, vP, vK, vR⟩ := hI
  refine lv_iload_n hx hb dX6_requireFile_0 rfl (lv_at hl 1 rfl) ?_
  refine lv_if_lt (tgt := 15) hx hb dX6_requireFile_1 (by decide) (fun c_1 => ?_) (fun c_1 => ?_)
  · skip
    rw [← hQ]
    refine x_throw C het hfl at_IOB qw_297 qw_18 (List.mem_of_getElem? (i := 2) rfl) (by decide +kernel) hS hl.1 dX6_requireFile_15 dX6_requireFile_18 dX6_requireFile_19 dX6_requireFile_21 dX6_requireFile_24 (Nat.le_of_ble_eq_true rfl) (Nat.le_of_ble_eq_true rfl) (Nat.le_of_ble_eq_true rfl) (Nat.le_of_ble_eq_true rfl) (Nat.le_of_ble_eq_true rfl) (Nat.le_of_ble_eq_true rfl) (fun H1 ho => ?_)
    rw [hpx]
    exact ⟨rfl, inR_no (by omega) (Or.inl c_1), hH.kept ho⟩
  · skip
    refine lv_iload_n hx hb dX6_requireFile_4 rfl (lv_at hl 1 rfl) ?_
    refine lv_aload_n hx hb dX6_requireFile_5 rfl (lv_at hl 0 rfl) ?_
    refine x_get C hH (ci := 7) (T := TX6) (N := 6) hX rfl iWX6 0 (by decide) qw_88 rfl rfl dX6_requireFile_6 ?_
    refine x_callV C hH hS (ci := 0) (t := (0, 1, 0)) hLF rfl rfl (c_size l (E := E) (base := base) (al := al) hLF) hH kJx4a65c_size_8abf5 qw_188 qw_189 qw_187  rfl [.int x] rfl hl.1 (Nat.le_of_ble_eq_true rfl) ⟨Nat.le_of_ble_eq_true rfl, Nat.le_of_ble_eq_true rfl⟩ dX6_requireFile_9 ⟨Nat.le_of_ble_eq_true rfl, Nat.le_of_ble_eq_true rfl⟩ (fun r_3 H locs hp_2 hS => ?_)
    obtain ⟨rfl, hH⟩ := hp_2
    refine lv_icmp_lt (tgt := 25) hx hb dX6_requireFile_12 (by decide) (fun c_4 => ?_) (fun c_4 => ?_)
    · skip
      rw [← hQ]
      refine vx_ret (x_retv C hS (Nat.le_of_ble_eq_true rfl) (Nat.le_of_ble_eq_true rfl) dX6_requireFile_25 ?_)
      rw [hpost]
      exact ⟨rfl, inR_of (by omega) c_1 c_4, hH⟩
    · skip
      rw [← hQ]
      refine x_throw C het hfl at_IOB qw_297 qw_18 (List.mem_of_getElem? (i := 2) rfl) (by decide +kernel) hS hl.1 dX6_requireFile_15 dX6_requireFile_18 dX6_requireFile_19 dX6_requireFile_21 dX6_requireFile_24 (Nat.le_of_ble_eq_true rfl) (Nat.le_of_ble_eq_true rfl) (Nat.le_of_ble_eq_true rfl) (Nat.le_of_ble_eq_true rfl) (Nat.le_of_ble_eq_true rfl) (Nat.le_of_ble_eq_true rfl) (fun H1 ho => ?_)
      rw [hpx]
      exact ⟨rfl, inR_no (by omega) (Or.inr c_4), hH.kept ho⟩

set_option maxHeartbeats 4000000 in
set_option maxRecDepth 100000 in
theorem c_pAt (l : Launch) (hfl : l.stackTraces = false) {E : xE} {base : Nat} {al : Tg → Nat} {w : Tg → Option va_E} {nf np na nw : Nat} {sg : Nat → Nat → Nat → Int32} {rc : Nat → Bool} (hR : RM E al w nf np na nw sg rc) (hI : INV nf np na nw sg rc) {x : Int32} : xMetX l yX6_partyAt cX6_partyAt 2 (some ((.object "Dataroom$Party"))) ({ frames := 6, cells := 1, slots := 6, locals := 82 } : Room) E base [.ref (al (0, 0, 0)), .int x] (fun H => xH E base al w H) (fun r H => ∃ j, j < np ∧ x = nI j ∧ r = some (.ref (al (2, j, 0))) ∧ xH E base al w H) (fun X H => X = "java/lang/IndexOutOfBoundsException" ∧ ¬ inR x np ∧ xH E base al w H) := by
  refine xMetX.of (by decide +kernel) "Dataroom" rfl (Nat.le_of_ble_eq_true rfl) ?_
  intro p9 e9 s m9 below meth c9 ls C het hP hS hl
  have hx := C.hx
  have hb := C.hb
  have hH := hP
  have hl : lv_has ls 2 [(0, .ref (al (0, 0, 0))), (1, .int x)] := hl
  obtain ⟨post, hpost⟩ : ∃ zz9 : Option Value → Heap → Prop, zz9 = (fun r H => ∃ j, j < np ∧ x = nI j ∧ r = some (.ref (al (2, j, 0))) ∧ xH E base al w H) := ⟨_, rfl⟩
  obtain ⟨px, hpx⟩ : ∃ zz9 : String → Heap → Prop, zz9 = (fun X H => X = "java/lang/IndexOutOfBoundsException" ∧ ¬ inR x np ∧ xH E base al w H) := ⟨_, rfl⟩
  rw [← hpost, ← hpx]
  generalize hQ : (vx_MQ below (xQ base post) (xX base px) ([.ref (al (0, 0, 0)), .int x] : List Value).toArray s 1 6 (xA base)) = Q
  have hR0 := hR
  have hI0 := hI
  obtain ⟨hX, hF, hPl, hAl, hSh, hMk, hC, hPT, hAn⟩ := hR
  obtain ⟨mcF, aF, hLF⟩ := hF.sz
  obtain ⟨mcP, aP, hLP⟩ := hPl.sz
  obtain ⟨mcA, aA, hLA⟩ := hAl.sz
  obtain ⟨v16, v6, v150, vnow, vA, vS, vP, vK, vR⟩ := hI
  refine lv_iload_n hx hb dX6_partyAt_0 rfl (lv_at hl 1 rfl) ?_
  refine lv_if_lt (tgt := 15) hx hb dX6_partyAt_1 (by decide) (fun c_1 => ?_) (fun c_1 => ?_)
  · skip
    rw [← hQ]
    refine x_throw C het hfl at_IOB qw_297 qw_18 (List.mem_of_getElem? (i := 4) rfl) (by decide +kernel) hS hl.1 dX6_partyAt_15 dX6_partyAt_18 dX6_partyAt_19 dX6_partyAt_21 dX6_partyAt_24 (Nat.le_of_ble_eq_true rfl) (Nat.le_of_ble_eq_true rfl) (Nat.le_of_ble_eq_true rfl) (Nat.le_of_ble_eq_true rfl) (Nat.le_of_ble_eq_true rfl) (Nat.le_of_ble_eq_true rfl) (fun H1 ho => ?_)
    rw [hpx]
    exact ⟨rfl, inR_no (by omega) (Or.inl c_1), hH.kept ho⟩
  · skip
    refine lv_iload_n hx hb dX6_partyAt_4 rfl (lv_at hl 1 rfl) ?_
    refine lv_aload_n hx hb dX6_partyAt_5 rfl (lv_at hl 0 rfl) ?_
    refine x_get C hH (ci := 7) (T := TX6) (N := 6) hX rfl iWX6 1 (by decide) qw_89 rfl rfl dX6_partyAt_6 ?_
    refine x_callV C hH hS (ci := 0) (t := (0, 2, 0)) hLP rfl rfl (c_size l (E := E) (base := base) (al := al) hLP) hH kJx4a65c_size_8abf5 qw_188 qw_189 qw_187  rfl [.int x] rfl hl.1 (Nat.le_of_ble_eq_true rfl) ⟨Nat.le_of_ble_eq_true rfl, Nat.le_of_ble_eq_true rfl⟩ dX6_partyAt_9 ⟨Nat.le_of_ble_eq_true rfl, Nat.le_of_ble_eq_true rfl⟩ (fun r_3 H locs hp_2 hS => ?_)
    obtain ⟨rfl, hH⟩ := hp_2
    refine lv_icmp_lt (tgt := 25) hx hb dX6_partyAt_12 (by decide) (fun c_4 => ?_) (fun c_4 => ?_)
    · skip
      obtain ⟨j, hj, rfl⟩ := inR_of (n := np) (by omega) c_1 c_4
      refine lv_aload_n hx hb dX6_partyAt_25 rfl (lv_at hl 0 rfl) ?_
      refine x_get C hH (ci := 7) (T := TX6) (N := 6) hX rfl iWX6 1 (by decide) qw_89 rfl rfl dX6_partyAt_26 ?_
      refine lv_iload_n hx hb dX6_partyAt_29 rfl (lv_at hl 1 rfl) ?_
      obtain ⟨mcz_5, capz_5, gz_5, a1z_5, a2z_5, a3z_5, a4z_5, a5z_5⟩ := hPl.at (i := j) (by omega)
      refine x_callV C hH hS (ci := 0) (t := (0, 2, 0)) a1z_5 rfl rfl (c_get l (E := E) (base := base) a1z_5 a2z_5 (i := j) (by omega) a3z_5 a4z_5 a5z_5) hH kJx4a65c_get_915e3 qw_314 qw_315 qw_313  rfl [] rfl hl.1 (Nat.le_of_ble_eq_true rfl) ⟨Nat.le_of_ble_eq_true rfl, Nat.le_of_ble_eq_true rfl⟩ dX6_partyAt_30 ⟨Nat.le_of_ble_eq_true rfl, Nat.le_of_ble_eq_true rfl⟩ (fun r_7 H locs hp_6 hS => ?_)
      obtain ⟨rfl, hH⟩ := hp_6
      refine x_cast C hH (ci := 5) (hPT j (by omega)).1 rfl qw_327 dX6_partyAt_33 ?_
      rw [← hQ]
      refine vx_ret (x_reta C (Or.inl ⟨_, rfl⟩) (Or.inr ⟨_, rfl⟩) hS (Nat.le_of_ble_eq_true rfl) (Nat.le_of_ble_eq_true rfl) dX6_partyAt_36 ?_)
      rw [hpost]
      exact ⟨j, hj, rfl, rfl, hH⟩
    · skip
      rw [← hQ]
      refine x_throw C het hfl at_IOB qw_297 qw_18 (List.mem_of_getElem? (i := 4) rfl) (by decide +kernel) hS hl.1 dX6_partyAt_15 dX6_partyAt_18 dX6_partyAt_19 dX6_partyAt_21 dX6_partyAt_24 (Nat.le_of_ble_eq_true rfl) (Nat.le_of_ble_eq_true rfl) (Nat.le_of_ble_eq_true rfl) (Nat.le_of_ble_eq_true rfl) (Nat.le_of_ble_eq_true rfl) (Nat.le_of_ble_eq_true rfl) (fun H1 ho => ?_)
      rw [hpx]
      exact ⟨rfl, inR_no (by omega) (Or.inr c_4), hH.kept ho⟩

set_option maxHeartbeats 4000000 in
set_option maxRecDepth 100000 in
theorem c_fAt (l : Launch) (hfl : l.stackTraces = false) {E : xE} {base : Nat} {al : Tg → Nat} {w : Tg → Option va_E} {nf np na nw : Nat} {sg : Nat → Nat → Nat → Int32} {rc : Nat → Bool} (hR : RM E al w nf np na nw sg rc) (hI : INV nf np na nw sg rc) {x : Int32} : xMetX l yX6_fileAt cX6_fileAt 2 (some ((.object "Dataroom$Card"))) ({ frames := 7, cells := 1, slots := 6, locals := 103 } : Room) E base [.ref (al (0, 0, 0)), .int x] (fun H => xH E base al w H) (fun r H => ∃ j, j < nf ∧ x = nI j ∧ r = some (.ref (al (1, j, 0))) ∧ xH E base al w H) (fun X H => X = "java/lang/IndexOutOfBoundsException" ∧ ¬ inR x nf ∧ xH E base al w H) := by
  refine xMetX.of (by decide +kernel) "Dataroom" rfl (Nat.le_of_ble_eq_true rfl) ?_
  intro p9 e9 s m9 below meth c9 ls C het hP hS hl
  have hx := C.hx
  have hb := C.hb
  have hH := hP
  have hl : lv_has ls 2 [(0, .ref (al (0, 0, 0))), (1, .int x)] := hl
  obtain ⟨post, hpost⟩ : ∃ zz9 : Option Value → Heap → Prop, zz9 = (fun r H => ∃ j, j < nf ∧ x = nI j ∧ r = some (.ref (al (1, j, 0))) ∧ xH E base al w H) := ⟨_, rfl⟩
  obtain ⟨px, hpx⟩ : ∃ zz9 : String → Heap → Prop, zz9 = (fun X H => X = "java/lang/IndexOutOfBoundsException" ∧ ¬ inR x nf ∧ xH E base al w H) := ⟨_, rfl⟩
  rw [← hpost, ← hpx]
  generalize hQ : (vx_MQ below (xQ base post) (xX base px) ([.ref (al (0, 0, 0)), .int x] : List Value).toArray s 1 6 (xA base)) = Q
  have hR0 := hR
  have hI0 := hI
  obtain ⟨hX, hF, hPl, hAl, hSh, hMk, hC, hPT, hAn⟩ := hR
  obtain ⟨mcF, aF, hLF⟩ := hF.sz
  obtain ⟨mcP, aP, hLP⟩ := hPl.sz
  obtain ⟨mcA, aA, hLA⟩ := hAl.sz
  obtain ⟨v16, v6, v150, vnow, vA, vS, vP, vK, vR⟩ := hI
  refine lv_aload_n hx hb dX6_fileAt_0 rfl (lv_at hl 0 rfl) ?_
  refine lv_iload_n hx hb dX6_fileAt_1 rfl (lv_at hl 1 rfl) ?_
  refine x_thrV C hH hS (ci := 7) (t := (0, 0, 0)) hX rfl rfl (c_rFile l hfl (E := E) (base := base) hR0 hI0 (x := x)) hH kX6_requireFile qw_295 (ws_p (List.mem_of_getElem? (i := 5) rfl) rfl) qw_293  rfl [] rfl hl.1 (Nat.le_of_ble_eq_true rfl) ⟨Nat.le_of_ble_eq_true rfl, Nat.le_of_ble_eq_true rfl⟩ dX6_fileAt_2 ⟨Nat.le_of_ble_eq_true rfl, Nat.le_of_ble_eq_true rfl⟩ (fun X ce q9 H locs hp_1 hS hce hcv hcl => ?_) (fun r_2 H locs hp_1 hS => ?_)
  · skip
    obtain ⟨rfl, hno, hH⟩ := hp_1
    rw [← hQ]
    refine x_outX C het hS hce hcv hcl (Nat.le_of_ble_eq_true rfl) (Nat.le_of_ble_eq_true rfl) ?_
    rw [hpx]
    exact ⟨rfl, hno, hH⟩
  · skip
    obtain ⟨rfl, ⟨f_3, hf_3, rfl⟩, hH⟩ := hp_1
    refine lv_aload_n hx hb dX6_fileAt_5 rfl (lv_at hl 0 rfl) ?_
    refine x_get C hH (ci := 7) (T := TX6) (N := 6) hX rfl iWX6 0 (by decide) qw_88 rfl rfl dX6_fileAt_6 ?_
    refine lv_iload_n hx hb dX6_fileAt_9 rfl (lv_at hl 1 rfl) ?_
    obtain ⟨mcz_4, capz_4, gz_4, a1z_4, a2z_4, a3z_4, a4z_4, a5z_4⟩ := hF.at (i := f_3) (by omega)
    refine x_callV C hH hS (ci := 0) (t := (0, 1, 0)) a1z_4 rfl rfl (c_get l (E := E) (base := base) a1z_4 a2z_4 (i := f_3) (by omega) a3z_4 a4z_4 a5z_4) hH kJx4a65c_get_915e3 qw_314 qw_315 qw_313  rfl [] rfl hl.1 (Nat.le_of_ble_eq_true rfl) ⟨Nat.le_of_ble_eq_true rfl, Nat.le_of_ble_eq_true rfl⟩ dX6_fileAt_10 ⟨Nat.le_of_ble_eq_true rfl, Nat.le_of_ble_eq_true rfl⟩ (fun r_6 H locs hp_5 hS => ?_)
    obtain ⟨rfl, hH⟩ := hp_5
    refine x_cast C hH (ci := 2) (hC f_3 (by omega)) rfl qw_207 dX6_fileAt_13 ?_
    rw [← hQ]
    refine vx_ret (x_reta C (Or.inl ⟨_, rfl⟩) (Or.inr ⟨_, rfl⟩) hS (Nat.le_of_ble_eq_true rfl) (Nat.le_of_ble_eq_true rfl) dX6_fileAt_16 ?_)
    rw [hpost]
    exact ⟨f_3, hf_3, rfl, rfl, hH⟩

set_option maxHeartbeats 4000000 in
set_option maxRecDepth 100000 in
theorem c_rQ (l : Launch) (hfl : l.stackTraces = false) {E : xE} {base : Nat} {al : Tg → Nat} {w : Tg → Option va_E} {nf np na nw : Nat} {sg : Nat → Nat → Nat → Int32} {rc : Nat → Bool} (hR : RM E al w nf np na nw sg rc) (hI : INV nf np na nw sg rc) {x bit : Int32} : xMetX l yX6_requireQuestion cX6_requireQuestion 3 none ({ frames := 7, cells := 2, slots := 12, locals := 104 } : Room) E base [.ref (al (0, 0, 0)), .int x, .int bit] (fun H => xH E base al w H) (fun r H => r = none ∧ Qok nf x bit ∧ xH E base al w H) (fun X H => X = "java/lang/IllegalArgumentException" ∧ ¬ Qok nf x bit ∧ xH E base al w H) := by
  refine xMetX.of (by decide +kernel) "Dataroom" rfl (Nat.le_of_ble_eq_true rfl) ?_
  intro p9 e9 s m9 below meth c9 ls C het hP hS hl
  have hx := C.hx
  have hb := C.hb
  have hH := hP
  have hl : lv_has ls 3 [(0, .ref (al (0, 0, 0))), (1, .int x), (2, .int bit)] := hl
  obtain ⟨post, hpost⟩ : ∃ zz9 : Option Value → Heap → Prop, zz9 = (fun r H => r = none ∧ Qok nf x bit ∧ xH E base al w H) := ⟨_, rfl⟩
  obtain ⟨px, hpx⟩ : ∃ zz9 : String → Heap → Prop, zz9 = (fun X H => X = "java/lang/IllegalArgumentException" ∧ ¬ Qok nf x bit ∧ xH E base al w H) := ⟨_, rfl⟩
  rw [← hpost, ← hpx]
  generalize hQ : (vx_MQ below (xQ base post) (xX base px) ([.ref (al (0, 0, 0)), .int x, .int bit] : List Value).toArray s 2 12 (xA base)) = Q
  have hR0 := hR
  have hI0 := hI
  obtain ⟨hX, hF, hPl, hAl, hSh, hMk, hC, hPT, hAn⟩ := hR
  obtain ⟨mcF, aF, hLF⟩ := hF.sz
  obtain ⟨mcP, aP, hLP⟩ := hPl.sz
  obtain ⟨mcA, aA, hLA⟩ := hAl.sz
  obtain ⟨v16, v6, v150, vnow, vA, vS, vP, vK, vR⟩ := hI
  refine lv_iload_n hx hb dX6_requireQuestion_0 rfl (lv_at hl 1 rfl) ?_
  refine lv_iconst (v := nI 1) hx hb dX6_requireQuestion_1 (by decide +kernel) ?_
  refine lv_iconst (v := nI 1) hx hb dX6_requireQuestion_2 (by decide +kernel) ?_
  refine lv_aload_n hx hb dX6_requireQuestion_3 rfl (lv_at hl 0 rfl) ?_
  refine x_get C hH (ci := 7) (T := TX6) (N := 6) hX rfl iWX6 0 (by decide) qw_88 rfl rfl dX6_requireQuestion_4 ?_
  refine x_callV C hH hS (ci := 0) (t := (0, 1, 0)) hLF rfl rfl (c_size l (E := E) (base := base) (al := al) hLF) hH kJx4a65c_size_8abf5 qw_188 qw_189 qw_187  rfl [.int (nI 1), .int (nI 1), .int x] rfl hl.1 (Nat.le_of_ble_eq_true rfl) ⟨Nat.le_of_ble_eq_true rfl, Nat.le_of_ble_eq_true rfl⟩ dX6_requireQuestion_7 ⟨Nat.le_of_ble_eq_true rfl, Nat.le_of_ble_eq_true rfl⟩ (fun r_2 H locs hp_1 hS => ?_)
  obtain ⟨rfl, hH⟩ := hp_1
  refine lv_ishl hx hb dX6_requireQuestion_10 ?_
  refine lv_iconst (v := nI 1) hx hb dX6_requireQuestion_11 (by decide +kernel) ?_
  refine lv_isub hx hb dX6_requireQuestion_12 ?_
  refine x_thrS C hS (c_rRange l hfl (E := E) (base := base) (al := al) (w := w) (v := x) (lo := nI 1) (hi := ((nI 1 <<< (nI nf &&& 31)) - nI 1))) hH kX6_requireRange qw_117 qw_116  rfl [] rfl hl.1 (Nat.le_of_ble_eq_true rfl) ⟨Nat.le_of_ble_eq_true rfl, Nat.le_of_ble_eq_true rfl⟩ dX6_requireQuestion_13 ⟨Nat.le_of_ble_eq_true rfl, Nat.le_of_ble_eq_true rfl⟩ (fun X ce q9 H locs hp_3 hS hce hcv hcl => ?_) (fun r_4 H locs hp_3 hS => ?_)
  · skip
    obtain ⟨rfl, hno, hH⟩ := hp_3
    rw [← hQ]
    refine x_outX C het hS hce hcv hcl (Nat.le_of_ble_eq_true rfl) (Nat.le_of_ble_eq_true rfl) ?_
    rw [hpx]
    exact ⟨rfl, fun q => hno q.1, hH⟩
  · skip
    obtain ⟨rfl, rg_5, hH⟩ := hp_3
    refine lv_iload_n hx hb dX6_requireQuestion_16 rfl (lv_at hl 2 rfl) ?_
    refine lv_iconst (v := (-1)) hx hb dX6_requireQuestion_17 (by decide +kernel) ?_
    refine lv_bipush (v := nI 7) hx hb dX6_requireQuestion_18 (by decide +kernel) ?_
    refine x_thrS C hS (c_rRange l hfl (E := E) (base := base) (al := al) (w := w) (v := bit) (lo := (-1)) (hi := nI 7)) hH kX6_requireRange qw_117 qw_116  rfl [] rfl hl.1 (Nat.le_of_ble_eq_true rfl) ⟨Nat.le_of_ble_eq_true rfl, Nat.le_of_ble_eq_true rfl⟩ dX6_requireQuestion_20 ⟨Nat.le_of_ble_eq_true rfl, Nat.le_of_ble_eq_true rfl⟩ (fun X ce q9 H locs hp_6 hS hce hcv hcl => ?_) (fun r_7 H locs hp_6 hS => ?_)
    · skip
      obtain ⟨rfl, hno, hH⟩ := hp_6
      rw [← hQ]
      refine x_outX C het hS hce hcv hcl (Nat.le_of_ble_eq_true rfl) (Nat.le_of_ble_eq_true rfl) ?_
      rw [hpx]
      exact ⟨rfl, fun q => hno q.2, hH⟩
    · skip
      obtain ⟨rfl, rg_8, hH⟩ := hp_6
      rw [← hQ]
      refine vx_ret (x_retv C hS (Nat.le_of_ble_eq_true rfl) (Nat.le_of_ble_eq_true rfl) dX6_requireQuestion_23 ?_)
      rw [hpost]
      exact ⟨rfl, ⟨rg_5, rg_8⟩, hH⟩

set_option maxHeartbeats 4000000 in
set_option maxRecDepth 100000 in
theorem c_lacks (l : Launch) {E : xE} {base : Nat} {al : Tg → Nat} {w : Tg → Option va_E} {nf np na nw : Nat} {sg : Nat → Nat → Nat → Int32} {rc : Nat → Bool} (hR : RM E al w nf np na nw sg rc) (hI : INV nf np na nw sg rc) {p : Nat} (hp : p < np) {x : Int32} : xMet l yX6_lacksRight cX6_lacksRight 4 (some (.boolean)) ({ frames := 3, cells := 0, slots := 0, locals := 83 } : Room) E base [.ref (al (0, 0, 0)), .ref (al (2, p, 0)), .int x] (fun H => xH E base al w H) (fun r H => r = some (.int (ob (lack nf nw sg p x))) ∧ xH E base al w H) := by
  refine xMet.of (by decide +kernel) "Dataroom" rfl (Nat.le_of_ble_eq_true rfl) ?_
  intro p9 e9 s m9 below meth c9 ls C hin hP hS hl
  have hx := C.hx
  have hb := C.hb
  have hH := hP
  have hl : lv_has ls 4 [(0, .ref (al (0, 0, 0))), (1, .ref (al (2, p, 0))), (2, .int x)] := hl
  obtain ⟨post, hpost⟩ : ∃ zz9 : Option Value → Heap → Prop, zz9 = (fun r H => r = some (.int (ob (lack nf nw sg p x))) ∧ xH E base al w H) := ⟨_, rfl⟩
  rw [← hpost]
  generalize hQ : (MQ below (xQ base post) ([.ref (al (0, 0, 0)), .ref (al (2, p, 0)), .int x] : List Value).toArray s 0 0 (xA base)) = Q
  have hR0 := hR
  have hI0 := hI
  obtain ⟨hX, hF, hPl, hAl, hSh, hMk, hC, hPT, hAn⟩ := hR
  obtain ⟨mcF, aF, hLF⟩ := hF.sz
  obtain ⟨mcP, aP, hLP⟩ := hPl.sz
  obtain ⟨mcA, aA, hLA⟩ := hAl.sz
  obtain ⟨v16, v6, v150, vnow, vA, vS, vP, vK, vR⟩ := hI
  refine lv_iconst (v := nI 0) hx hb dX6_lacksRight_0 (by decide +kernel) ?_
  refine lv_istore_n (lv' := [(3, .int (nI 0)), (0, .ref (al (0, 0, 0))), (1, .ref (al (2, p, 0))), (2, .int x)]) hx hb dX6_lacksRight_1 rfl hl (by decide) rfl (fun ls hl => ?_)
  have lp2 : ∀ (i : Nat), i ≤ nf → ∀  (H : Heap) (locs : List Loc) (ls : Array Slot), anyB (fun f => bt x f && decide (rIn (sg 4 p f) (sg 5 p f) (sg 6 p f) (nI nw) = 0)) i = false → xH E base al w H → va_S (xA base) s.heap H locs → lv_has ls 4 [(3, .int (nI i)), (2, .int x), (1, .ref (al (2, p, 0))), (0, .ref (al (0, 0, 0)))] → W p9 l e9 ({ frames := 3, cells := 0, slots := 0, locals := 83 } : Room) s m9 ([.ref (al (0, 0, 0)), .ref (al (2, p, 0)), .int x] : List Value).toArray below meth c9 H locs 0 0 Q (F0 m9 2 ls []) := by
    refine lp_up ?_
    intro i hii ih2  H locs ls hy hH hS hl
    refine lv_iload_n hx hb dX6_lacksRight_2 rfl (lv_at hl 0 rfl) ?_
    refine lv_aload_n hx hb dX6_lacksRight_3 rfl (lv_at hl 3 rfl) ?_
    refine x_get C hH (ci := 7) (T := TX6) (N := 6) hX rfl iWX6 0 (by decide) qw_88 rfl rfl dX6_lacksRight_4 ?_
    refine x_callV C hH hS (ci := 0) (t := (0, 1, 0)) hLF rfl rfl (c_size l (E := E) (base := base) (al := al) hLF) hH kJx4a65c_size_8abf5 qw_188 qw_189 qw_187  rfl [.int (nI i)] rfl hl.1 (Nat.le_of_ble_eq_true rfl) ⟨Nat.le_of_ble_eq_true rfl, Nat.le_of_ble_eq_true rfl⟩ dX6_lacksRight_7 ⟨Nat.le_of_ble_eq_true rfl, Nat.le_of_ble_eq_true rfl⟩ (fun r_2 H locs hp_1 hS => ?_)
    obtain ⟨rfl, hH⟩ := hp_1
    refine lv_icmp_ge (tgt := 41) hx hb dX6_lacksRight_10 (by decide) (fun c_3 => ?_) (fun c_3 => ?_)
    · skip
      replace c_3 := (nI_leI (by omega) (by omega)).mp c_3
      refine lv_iconst (v := nI 0) hx hb dX6_lacksRight_41 (by decide +kernel) ?_
      rw [← hQ]
      refine x_reti C rfl hS (Nat.le_of_ble_eq_true rfl) (Nat.le_of_ble_eq_true rfl) dX6_lacksRight_42 ?_
      rw [hpost]
      have e8 : i = nf := by omega
      rw [e8] at hy
      exact ⟨by rw [show lack nf nw sg p x = false from hy]; rfl, hH⟩
    · skip
      replace c_3 := mt (nI_leI (by omega) (by omega)).mpr c_3
      refine lv_iload_n hx hb dX6_lacksRight_13 rfl (lv_at hl 1 rfl) ?_
      refine lv_iload_n hx hb dX6_lacksRight_14 rfl (lv_at hl 0 rfl) ?_
      refine x_callS C hS (c_holds l (E := E) (base := base) (al := al) (w := w) (x := x) (k := i) (by omega)) hH kX6_holds qw_338 qw_337  rfl [] rfl hl.1 (Nat.le_of_ble_eq_true rfl) ⟨Nat.le_of_ble_eq_true rfl, Nat.le_of_ble_eq_true rfl⟩ dX6_lacksRight_15 ⟨Nat.le_of_ble_eq_true rfl, Nat.le_of_ble_eq_true rfl⟩ (fun r_5 H locs hp_4 hS => ?_)
      obtain ⟨rfl, hH⟩ := hp_4
      refine lv_if_eq (tgt := 35) hx hb dX6_lacksRight_18 (by decide) (fun c_6 => ?_) (fun c_6 => ?_)
      · skip
        replace c_6 := ob_0.mp c_6
        refine lv_iinc (v := nI (i + 1)) (lv' := [(3, .int (nI (i + 1))), (2, .int x), (1, .ref (al (2, p, 0))), (0, .ref (al (0, 0, 0)))]) hx hb dX6_lacksRight_35 hl (k := 0) rfl (nI_1 _) (by decide) rfl (fun ls hl => ?_)
        refine lv_goto (tgt := 2) hx hb dX6_lacksRight_38 (by decide) ?_
        exact ih2 (by omega)  _ _ _ (by show (_ || _) = false; rw [hy]; simp [c_6]) hH hS (lv_sub hl [0, 1, 2, 3] rfl)
      · skip
        replace c_6 := ob_n.mp c_6
        refine lv_aload_n hx hb dX6_lacksRight_21 rfl (lv_at hl 2 rfl) ?_
        refine lv_aload_n hx hb dX6_lacksRight_22 rfl (lv_at hl 3 rfl) ?_
        refine x_get C hH (ci := 7) (T := TX6) (N := 6) hX rfl iWX6 3 (by decide) qw_91 rfl rfl dX6_lacksRight_23 ?_
        refine lv_iload_n hx hb dX6_lacksRight_26 rfl (lv_at hl 0 rfl) ?_
        refine x_callV C hH hS (ci := 5) (t := (2, p, 0)) (hPT p (by omega)).1 rfl rfl (c_rightIn l (E := E) (base := base) (hPT p (by omega)) (f := i) (hh := nI nw) (by omega)) hH kX4_rightIn qw_488 qw_489 qw_487  rfl [] rfl hl.1 (Nat.le_of_ble_eq_true rfl) ⟨Nat.le_of_ble_eq_true rfl, Nat.le_of_ble_eq_true rfl⟩ dX6_lacksRight_27 ⟨Nat.le_of_ble_eq_true rfl, Nat.le_of_ble_eq_true rfl⟩ (fun r_8 H locs hp_7 hS => ?_)
        obtain ⟨rfl, hH⟩ := hp_7
        refine lv_if_ne (tgt := 35) hx hb dX6_lacksRight_30 (by decide) (fun c_9 => ?_) (fun c_9 => ?_)
        · skip
          refine lv_iinc (v := nI (i + 1)) (lv' := [(3, .int (nI (i + 1))), (2, .int x), (1, .ref (al (2, p, 0))), (0, .ref (al (0, 0, 0)))]) hx hb dX6_lacksRight_35 hl (k := 0) rfl (nI_1 _) (by decide) rfl (fun ls hl => ?_)
          refine lv_goto (tgt := 2) hx hb dX6_lacksRight_38 (by decide) ?_
          exact ih2 (by omega)  _ _ _ (by show (_ || _) = false; rw [hy]; simp [c_6, c_9]) hH hS (lv_sub hl [0, 1, 2, 3] rfl)
        · skip
          refine lv_iconst (v := nI 1) hx hb dX6_lacksRight_33 (by decide +kernel) ?_
          rw [← hQ]
          refine x_reti C rfl hS (Nat.le_of_ble_eq_true rfl) (Nat.le_of_ble_eq_true rfl) dX6_lacksRight_34 ?_
          rw [hpost]
          exact ⟨by rw [show lack nf nw sg p x = true from anyB_t (P := (fun f => bt x f && decide (rIn (sg 4 p f) (sg 5 p f) (sg 6 p f) (nI nw) = 0))) (i := i) (by simp [c_6, c_9]) _ (by omega)]; rfl, hH⟩
  exact lp2 0 (by omega)  _ _ _ rfl hH hS (lv_sub hl [0, 3, 2, 1] rfl)

set_option maxHeartbeats 4000000 in
set_option maxRecDepth 100000 in
theorem c_sealed (l : Launch) {E : xE} {base : Nat} {al : Tg → Nat} {w : Tg → Option va_E} {nf np na nw : Nat} {sg : Nat → Nat → Nat → Int32} {rc : Nat → Bool} (hR : RM E al w nf np na nw sg rc) (hI : INV nf np na nw sg rc) {x : Int32} : xMet l yX6_hasSealed cX6_hasSealed 3 (some (.boolean)) ({ frames := 3, cells := 0, slots := 0, locals := 64 } : Room) E base [.ref (al (0, 0, 0)), .int x] (fun H => xH E base al w H) (fun r H => r = some (.int (ob (seld nf nw sg x))) ∧ xH E base al w H) := by
  refine xMet.of (by decide +kernel) "Dataroom" rfl (Nat.le_of_ble_eq_true rfl) ?_
  intro p9 e9 s m9 below meth c9 ls C hin hP hS hl
  have hx := C.hx
  have hb := C.hb
  have hH := hP
  have hl : lv_has ls 3 [(0, .ref (al (0, 0, 0))), (1, .int x)] := hl
  obtain ⟨post, hpost⟩ : ∃ zz9 : Option Value → Heap → Prop, zz9 = (fun r H => r = some (.int (ob (seld nf nw sg x))) ∧ xH E base al w H) := ⟨_, rfl⟩
  rw [← hpost]
  generalize hQ : (MQ below (xQ base post) ([.ref (al (0, 0, 0)), .int x] : List Value).toArray s 0 0 (xA base)) = Q
  have hR0 := hR
  have hI0 := hI
  obtain ⟨hX, hF, hPl, hAl, hSh, hMk, hC, hPT, hAn⟩ := hR
  obtain ⟨mcF, aF, hLF⟩ := hF.sz
  obtain ⟨mcP, aP, hLP⟩ := hPl.sz
  obtain ⟨mcA, aA, hLA⟩ := hAl.sz
  obtain ⟨v16, v6, v150, vnow, vA, vS, vP, vK, vR⟩ := hI
  refine lv_iconst (v := nI 0) hx hb dX6_hasSealed_0 (by decide +kernel) ?_
  refine lv_istore_n (lv' := [(2, .int (nI 0)), (0, .ref (al (0, 0, 0))), (1, .int x)]) hx hb dX6_hasSealed_1 rfl hl (by decide) rfl (fun ls hl => ?_)
  have lp2 : ∀ (i : Nat), i ≤ nf → ∀  (H : Heap) (locs : List Loc) (ls : Array Slot), anyB (fun f => bt x f && decide (nI nw ≤ sg 2 f 0)) i = false → xH E base al w H → va_S (xA base) s.heap H locs → lv_has ls 3 [(2, .int (nI i)), (1, .int x), (0, .ref (al (0, 0, 0)))] → W p9 l e9 ({ frames := 3, cells := 0, slots := 0, locals := 64 } : Room) s m9 ([.ref (al (0, 0, 0)), .int x] : List Value).toArray below meth c9 H locs 0 0 Q (F0 m9 2 ls []) := by
    refine lp_up ?_
    intro i hii ih2  H locs ls hy hH hS hl
    refine lv_iload_n hx hb dX6_hasSealed_2 rfl (lv_at hl 0 rfl) ?_
    refine lv_aload_n hx hb dX6_hasSealed_3 rfl (lv_at hl 2 rfl) ?_
    refine x_get C hH (ci := 7) (T := TX6) (N := 6) hX rfl iWX6 0 (by decide) qw_88 rfl rfl dX6_hasSealed_4 ?_
    refine x_callV C hH hS (ci := 0) (t := (0, 1, 0)) hLF rfl rfl (c_size l (E := E) (base := base) (al := al) hLF) hH kJx4a65c_size_8abf5 qw_188 qw_189 qw_187  rfl [.int (nI i)] rfl hl.1 (Nat.le_of_ble_eq_true rfl) ⟨Nat.le_of_ble_eq_true rfl, Nat.le_of_ble_eq_true rfl⟩ dX6_hasSealed_7 ⟨Nat.le_of_ble_eq_true rfl, Nat.le_of_ble_eq_true rfl⟩ (fun r_2 H locs hp_1 hS => ?_)
    obtain ⟨rfl, hH⟩ := hp_1
    refine lv_icmp_ge (tgt := 50) hx hb dX6_hasSealed_10 (by decide) (fun c_3 => ?_) (fun c_3 => ?_)
    · skip
      replace c_3 := (nI_leI (by omega) (by omega)).mp c_3
      refine lv_iconst (v := nI 0) hx hb dX6_hasSealed_50 (by decide +kernel) ?_
      rw [← hQ]
      refine x_reti C rfl hS (Nat.le_of_ble_eq_true rfl) (Nat.le_of_ble_eq_true rfl) dX6_hasSealed_51 ?_
      rw [hpost]
      have e8 : i = nf := by omega
      rw [e8] at hy
      exact ⟨by rw [show seld nf nw sg x = false from hy]; rfl, hH⟩
    · skip
      replace c_3 := mt (nI_leI (by omega) (by omega)).mpr c_3
      refine lv_iload_n hx hb dX6_hasSealed_13 rfl (lv_at hl 1 rfl) ?_
      refine lv_iload_n hx hb dX6_hasSealed_14 rfl (lv_at hl 0 rfl) ?_
      refine x_callS C hS (c_holds l (E := E) (base := base) (al := al) (w := w) (x := x) (k := i) (by omega)) hH kX6_holds qw_338 qw_337  rfl [] rfl hl.1 (Nat.le_of_ble_eq_true rfl) ⟨Nat.le_of_ble_eq_true rfl, Nat.le_of_ble_eq_true rfl⟩ dX6_hasSealed_15 ⟨Nat.le_of_ble_eq_true rfl, Nat.le_of_ble_eq_true rfl⟩ (fun r_5 H locs hp_4 hS => ?_)
      obtain ⟨rfl, hH⟩ := hp_4
      refine lv_if_eq (tgt := 44) hx hb dX6_hasSealed_18 (by decide) (fun c_6 => ?_) (fun c_6 => ?_)
      · skip
        replace c_6 := ob_0.mp c_6
        refine lv_iinc (v := nI (i + 1)) (lv' := [(2, .int (nI (i + 1))), (1, .int x), (0, .ref (al (0, 0, 0)))]) hx hb dX6_hasSealed_44 hl (k := 0) rfl (nI_1 _) (by decide) rfl (fun ls hl => ?_)
        refine lv_goto (tgt := 2) hx hb dX6_hasSealed_47 (by decide) ?_
        exact ih2 (by omega)  _ _ _ (by show (_ || _) = false; rw [hy]; simp [c_6]) hH hS (lv_sub hl [0, 1, 2] rfl)
      · skip
        replace c_6 := ob_n.mp c_6
        refine lv_aload_n hx hb dX6_hasSealed_21 rfl (lv_at hl 2 rfl) ?_
        refine x_get C hH (ci := 7) (T := TX6) (N := 6) hX rfl iWX6 0 (by decide) qw_88 rfl rfl dX6_hasSealed_22 ?_
        refine lv_iload_n hx hb dX6_hasSealed_25 rfl (lv_at hl 0 rfl) ?_
        obtain ⟨mcz_7, capz_7, gz_7, a1z_7, a2z_7, a3z_7, a4z_7, a5z_7⟩ := hF.at (i := i) (by omega)
        refine x_callV C hH hS (ci := 0) (t := (0, 1, 0)) a1z_7 rfl rfl (c_get l (E := E) (base := base) a1z_7 a2z_7 (i := i) (by omega) a3z_7 a4z_7 a5z_7) hH kJx4a65c_get_915e3 qw_314 qw_315 qw_313  rfl [] rfl hl.1 (Nat.le_of_ble_eq_true rfl) ⟨Nat.le_of_ble_eq_true rfl, Nat.le_of_ble_eq_true rfl⟩ dX6_hasSealed_26 ⟨Nat.le_of_ble_eq_true rfl, Nat.le_of_ble_eq_true rfl⟩ (fun r_9 H locs hp_8 hS => ?_)
        obtain ⟨rfl, hH⟩ := hp_8
        refine x_cast C hH (ci := 2) (hC i (by omega)) rfl qw_207 dX6_hasSealed_29 ?_
        refine lv_aload_n hx hb dX6_hasSealed_32 rfl (lv_at hl 2 rfl) ?_
        refine x_get C hH (ci := 7) (T := TX6) (N := 6) hX rfl iWX6 3 (by decide) qw_91 rfl rfl dX6_hasSealed_33 ?_
        refine x_callV C hH hS (ci := 2) (t := (1, i, 0)) (hC i (by omega)) rfl rfl (c_closed l (E := E) (base := base) (hC i (by omega)) (h := nI nw)) hH kX1_isClosedIn qw_501 qw_502 qw_500  rfl [] rfl hl.1 (Nat.le_of_ble_eq_true rfl) ⟨Nat.le_of_ble_eq_true rfl, Nat.le_of_ble_eq_true rfl⟩ dX6_hasSealed_36 ⟨Nat.le_of_ble_eq_true rfl, Nat.le_of_ble_eq_true rfl⟩ (fun r_11 H locs hp_10 hS => ?_)
        obtain ⟨rfl, hH⟩ := hp_10
        refine lv_if_eq (tgt := 44) hx hb dX6_hasSealed_39 (by decide) (fun c_12 => ?_) (fun c_12 => ?_)
        · skip
          replace c_12 := ob_0.mp c_12
          refine lv_iinc (v := nI (i + 1)) (lv' := [(2, .int (nI (i + 1))), (1, .int x), (0, .ref (al (0, 0, 0)))]) hx hb dX6_hasSealed_44 hl (k := 0) rfl (nI_1 _) (by decide) rfl (fun ls hl => ?_)
          refine lv_goto (tgt := 2) hx hb dX6_hasSealed_47 (by decide) ?_
          exact ih2 (by omega)  _ _ _ (by show (_ || _) = false; rw [hy]; simp [c_6, c_12]) hH hS (lv_sub hl [0, 1, 2] rfl)
        · skip
          replace c_12 := ob_n.mp c_12
          refine lv_iconst (v := nI 1) hx hb dX6_hasSealed_42 (by decide +kernel) ?_
          rw [← hQ]
          refine x_reti C rfl hS (Nat.le_of_ble_eq_true rfl) (Nat.le_of_ble_eq_true rfl) dX6_hasSealed_43 ?_
          rw [hpost]
          exact ⟨by rw [show seld nf nw sg x = true from anyB_t (P := (fun f => bt x f && decide (nI nw ≤ sg 2 f 0))) (i := i) (by simp [c_6, c_12]) _ (by omega)]; rfl, hH⟩
  exact lp2 0 (by omega)  _ _ _ rfl hH hS (lv_sub hl [0, 2, 1] rfl)

set_option maxHeartbeats 4000000 in
set_option maxRecDepth 100000 in
theorem c_sumOf (l : Launch) {E : xE} {base : Nat} {al : Tg → Nat} {w : Tg → Option va_E} {nf np na nw : Nat} {sg : Nat → Nat → Nat → Int32} {rc : Nat → Bool} (hR : RM E al w nf np na nw sg rc) (hI : INV nf np na nw sg rc) {x bit : Int32} : xMet l yX6_sumOf cX6_sumOf 5 (some (.int)) ({ frames := 3, cells := 0, slots := 0, locals := 64 } : Room) E base [.ref (al (0, 0, 0)), .int x, .int bit] (fun H => xH E base al w H) (fun r H => r = some (.int (tel bit (xoR x (fun f => sg 1 f 0) nf))) ∧ xH E base al w H) := by
  refine xMet.of (by decide +kernel) "Dataroom" rfl (Nat.le_of_ble_eq_true rfl) ?_
  intro p9 e9 s m9 below meth c9 ls C hin hP hS hl
  have hx := C.hx
  have hb := C.hb
  have hH := hP
  have hl : lv_has ls 5 [(0, .ref (al (0, 0, 0))), (1, .int x), (2, .int bit)] := hl
  obtain ⟨post, hpost⟩ : ∃ zz9 : Option Value → Heap → Prop, zz9 = (fun r H => r = some (.int (tel bit (xoR x (fun f => sg 1 f 0) nf))) ∧ xH E base al w H) := ⟨_, rfl⟩
  rw [← hpost]
  generalize hQ : (MQ below (xQ base post) ([.ref (al (0, 0, 0)), .int x, .int bit] : List Value).toArray s 0 0 (xA base)) = Q
  have hR0 := hR
  have hI0 := hI
  obtain ⟨hX, hF, hPl, hAl, hSh, hMk, hC, hPT, hAn⟩ := hR
  obtain ⟨mcF, aF, hLF⟩ := hF.sz
  obtain ⟨mcP, aP, hLP⟩ := hPl.sz
  obtain ⟨mcA, aA, hLA⟩ := hAl.sz
  obtain ⟨v16, v6, v150, vnow, vA, vS, vP, vK, vR⟩ := hI
  refine lv_iconst (v := nI 0) hx hb dX6_sumOf_0 (by decide +kernel) ?_
  refine lv_istore_n (lv' := [(3, .int (nI 0)), (0, .ref (al (0, 0, 0))), (1, .int x), (2, .int bit)]) hx hb dX6_sumOf_1 rfl hl (by decide) rfl (fun ls hl => ?_)
  refine lv_iconst (v := nI 0) hx hb dX6_sumOf_2 (by decide +kernel) ?_
  refine lv_istore (lv' := [(4, .int (nI 0)), (3, .int (nI 0)), (0, .ref (al (0, 0, 0))), (1, .int x), (2, .int bit)]) hx hb dX6_sumOf_3 hl (by decide) rfl (fun ls hl => ?_)
  have lp5 : ∀ (i : Nat), i ≤ nf → ∀ (y : Int32) (H : Heap) (locs : List Loc) (ls : Array Slot), y = xoR x (fun f => sg 1 f 0) i → xH E base al w H → va_S (xA base) s.heap H locs → lv_has ls 5 [(4, .int (nI i)), (3, .int y), (2, .int bit), (1, .int x), (0, .ref (al (0, 0, 0)))] → W p9 l e9 ({ frames := 3, cells := 0, slots := 0, locals := 64 } : Room) s m9 ([.ref (al (0, 0, 0)), .int x, .int bit] : List Value).toArray below meth c9 H locs 0 0 Q (F0 m9 5 ls []) := by
    refine lp_up ?_
    intro i hii ih5 y H locs ls hy hH hS hl
    refine lv_iload hx hb dX6_sumOf_5 (lv_at hl 0 rfl) ?_
    refine lv_aload_n hx hb dX6_sumOf_7 rfl (lv_at hl 4 rfl) ?_
    refine x_get C hH (ci := 7) (T := TX6) (N := 6) hX rfl iWX6 0 (by decide) qw_88 rfl rfl dX6_sumOf_8 ?_
    refine x_callV C hH hS (ci := 0) (t := (0, 1, 0)) hLF rfl rfl (c_size l (E := E) (base := base) (al := al) hLF) hH kJx4a65c_size_8abf5 qw_188 qw_189 qw_187  rfl [.int (nI i)] rfl hl.1 (Nat.le_of_ble_eq_true rfl) ⟨Nat.le_of_ble_eq_true rfl, Nat.le_of_ble_eq_true rfl⟩ dX6_sumOf_11 ⟨Nat.le_of_ble_eq_true rfl, Nat.le_of_ble_eq_true rfl⟩ (fun r_2 H locs hp_1 hS => ?_)
    obtain ⟨rfl, hH⟩ := hp_1
    refine lv_icmp_ge (tgt := 50) hx hb dX6_sumOf_14 (by decide) (fun c_3 => ?_) (fun c_3 => ?_)
    · skip
      replace c_3 := (nI_leI (by omega) (by omega)).mp c_3
      refine lv_iload_n hx hb dX6_sumOf_50 rfl (lv_at hl 2 rfl) ?_
      refine lv_iconst (v := (-1)) hx hb dX6_sumOf_51 (by decide +kernel) ?_
      refine lv_icmp_ne (tgt := 59) hx hb dX6_sumOf_52 (by decide) (fun c_4 => ?_) (fun c_4 => ?_)
      · skip
        refine lv_iload_n hx hb dX6_sumOf_59 rfl (lv_at hl 1 rfl) ?_
        refine lv_iload_n hx hb dX6_sumOf_60 rfl (lv_at hl 2 rfl) ?_
        refine lv_ishr hx hb dX6_sumOf_61 ?_
        refine lv_iconst (v := nI 1) hx hb dX6_sumOf_62 (by decide +kernel) ?_
        refine lv_iand hx hb dX6_sumOf_63 ?_
        rw [← hQ]
        refine x_reti C rfl hS (Nat.le_of_ble_eq_true rfl) (Nat.le_of_ble_eq_true rfl) dX6_sumOf_64 ?_
        rw [hpost]
        have e8 : i = nf := by omega
        rw [e8] at hy
        exact ⟨by unfold tel; rw [if_neg c_4, ← hy], hH⟩
      · skip
        refine lv_iload_n hx hb dX6_sumOf_55 rfl (lv_at hl 1 rfl) ?_
        refine lv_goto (tgt := 64) hx hb dX6_sumOf_56 (by decide) ?_
        rw [← hQ]
        refine x_reti C rfl hS (Nat.le_of_ble_eq_true rfl) (Nat.le_of_ble_eq_true rfl) dX6_sumOf_64 ?_
        rw [hpost]
        have e8 : i = nf := by omega
        rw [e8] at hy
        exact ⟨by unfold tel; rw [if_pos c_4, ← hy], hH⟩
    · skip
      replace c_3 := mt (nI_leI (by omega) (by omega)).mpr c_3
      refine lv_iload_n hx hb dX6_sumOf_17 rfl (lv_at hl 3 rfl) ?_
      refine lv_iload hx hb dX6_sumOf_18 (lv_at hl 0 rfl) ?_
      refine x_callS C hS (c_holds l (E := E) (base := base) (al := al) (w := w) (x := x) (k := i) (by omega)) hH kX6_holds qw_338 qw_337  rfl [] rfl hl.1 (Nat.le_of_ble_eq_true rfl) ⟨Nat.le_of_ble_eq_true rfl, Nat.le_of_ble_eq_true rfl⟩ dX6_sumOf_20 ⟨Nat.le_of_ble_eq_true rfl, Nat.le_of_ble_eq_true rfl⟩ (fun r_6 H locs hp_5 hS => ?_)
      obtain ⟨rfl, hH⟩ := hp_5
      refine lv_if_eq (tgt := 44) hx hb dX6_sumOf_23 (by decide) (fun c_7 => ?_) (fun c_7 => ?_)
      · skip
        replace c_7 := ob_0.mp c_7
        refine lv_iinc (v := nI (i + 1)) (lv' := [(4, .int (nI (i + 1))), (3, .int y), (2, .int bit), (1, .int x), (0, .ref (al (0, 0, 0)))]) hx hb dX6_sumOf_44 hl (k := 0) rfl (nI_1 _) (by decide) rfl (fun ls hl => ?_)
        refine lv_goto (tgt := 5) hx hb dX6_sumOf_47 (by decide) ?_
        exact ih5 (by omega) y _ _ _ (by subst hy; show _ = (if bt x i then _ else _); rw [c_7]; rfl) hH hS (lv_sub hl [0, 1, 2, 3, 4] rfl)
      · skip
        replace c_7 := ob_n.mp c_7
        refine lv_iload_n hx hb dX6_sumOf_26 rfl (lv_at hl 1 rfl) ?_
        refine lv_aload_n hx hb dX6_sumOf_27 rfl (lv_at hl 4 rfl) ?_
        refine x_get C hH (ci := 7) (T := TX6) (N := 6) hX rfl iWX6 0 (by decide) qw_88 rfl rfl dX6_sumOf_28 ?_
        refine lv_iload hx hb dX6_sumOf_31 (lv_at hl 0 rfl) ?_
        obtain ⟨mcz_8, capz_8, gz_8, a1z_8, a2z_8, a3z_8, a4z_8, a5z_8⟩ := hF.at (i := i) (by omega)
        refine x_callV C hH hS (ci := 0) (t := (0, 1, 0)) a1z_8 rfl rfl (c_get l (E := E) (base := base) a1z_8 a2z_8 (i := i) (by omega) a3z_8 a4z_8 a5z_8) hH kJx4a65c_get_915e3 qw_314 qw_315 qw_313  rfl [.int y] rfl hl.1 (Nat.le_of_ble_eq_true rfl) ⟨Nat.le_of_ble_eq_true rfl, Nat.le_of_ble_eq_true rfl⟩ dX6_sumOf_33 ⟨Nat.le_of_ble_eq_true rfl, Nat.le_of_ble_eq_true rfl⟩ (fun r_10 H locs hp_9 hS => ?_)
        obtain ⟨rfl, hH⟩ := hp_9
        refine x_cast C hH (ci := 2) (hC i (by omega)) rfl qw_207 dX6_sumOf_36 ?_
        refine x_getN C hH (ci := 2) (T := TX1) (N := 2) (hC i (by omega)) rfl iWX1 0 (by decide) nw_214 rfl rfl dX6_sumOf_39 ?_
        refine lv_ixor hx hb dX6_sumOf_42 ?_
        refine lv_istore_n (lv' := [(3, .int (y ^^^ (sg 1 i 0))), (4, .int (nI i)), (2, .int bit), (1, .int x), (0, .ref (al (0, 0, 0)))]) hx hb dX6_sumOf_43 rfl hl (by decide) rfl (fun ls hl => ?_)
        refine lv_iinc (v := nI (i + 1)) (lv' := [(4, .int (nI (i + 1))), (3, .int (y ^^^ (sg 1 i 0))), (2, .int bit), (1, .int x), (0, .ref (al (0, 0, 0)))]) hx hb dX6_sumOf_44 hl (k := 1) rfl (nI_1 _) (by decide) rfl (fun ls hl => ?_)
        refine lv_goto (tgt := 5) hx hb dX6_sumOf_47 (by decide) ?_
        exact ih5 (by omega) (y ^^^ (sg 1 i 0)) _ _ _ (by subst hy; show _ = (if bt x i then _ else _); rw [c_7]; rfl) hH hS (lv_sub hl [0, 1, 2, 3, 4] rfl)
  exact lp5 0 (by omega) (nI 0) _ _ _ rfl hH hS (lv_sub hl [0, 1, 4, 3, 2] rfl)

set_option maxHeartbeats 4000000 in
set_option maxRecDepth 100000 in
theorem c_refusal (l : Launch) {E : xE} {base : Nat} {al : Tg → Nat} {w : Tg → Option va_E} {nf np na nw : Nat} {sg : Nat → Nat → Nat → Int32} {rc : Nat → Bool} (hR : RM E al w nf np na nw sg rc) (hI : INV nf np na nw sg rc) {p : Nat} (hp : p < np) {x bit : Int32} : xMet l yX6_refusalOf cX6_refusalOf 4 (some (.int)) ({ frames := 5, cells := 0, slots := 0, locals := 114 } : Room) E base [.ref (al (0, 0, 0)), .ref (al (2, p, 0)), .int x, .int bit] (fun H => xH E base al w H) (fun r H => r = some (.int (-nI (fate nf na nw sg rc p x bit))) ∧ xH E base al w H) := by
  refine xMet.of (by decide +kernel) "Dataroom" rfl (Nat.le_of_ble_eq_true rfl) ?_
  intro p9 e9 s m9 below meth c9 ls C hin hP hS hl
  have hx := C.hx
  have hb := C.hb
  have hH := hP
  have hl : lv_has ls 4 [(0, .ref (al (0, 0, 0))), (1, .ref (al (2, p, 0))), (2, .int x), (3, .int bit)] := hl
  obtain ⟨post, hpost⟩ : ∃ zz9 : Option Value → Heap → Prop, zz9 = (fun r H => r = some (.int (-nI (fate nf na nw sg rc p x bit))) ∧ xH E base al w H) := ⟨_, rfl⟩
  rw [← hpost]
  generalize hQ : (MQ below (xQ base post) ([.ref (al (0, 0, 0)), .ref (al (2, p, 0)), .int x, .int bit] : List Value).toArray s 0 0 (xA base)) = Q
  have hR0 := hR
  have hI0 := hI
  obtain ⟨hX, hF, hPl, hAl, hSh, hMk, hC, hPT, hAn⟩ := hR
  obtain ⟨mcF, aF, hLF⟩ := hF.sz
  obtain ⟨mcP, aP, hLP⟩ := hPl.sz
  obtain ⟨mcA, aA, hLA⟩ := hAl.sz
  obtain ⟨v16, v6, v150, vnow, vA, vS, vP, vK, vR⟩ := hI
  refine lv_aload_n hx hb dX6_refusalOf_0 rfl (lv_at hl 0 rfl) ?_
  refine lv_aload_n hx hb dX6_refusalOf_1 rfl (lv_at hl 1 rfl) ?_
  refine lv_iload_n hx hb dX6_refusalOf_2 rfl (lv_at hl 2 rfl) ?_
  refine x_callV C hH hS (ci := 7) (t := (0, 0, 0)) hX rfl rfl (c_lacks l (E := E) (base := base) hR0 hI0 hp (x := x)) hH kX6_lacksRight qw_485 (ws_p (List.mem_of_getElem? (i := 11) rfl) rfl) qw_483  rfl [] rfl hl.1 (Nat.le_of_ble_eq_true rfl) ⟨Nat.le_of_ble_eq_true rfl, Nat.le_of_ble_eq_true rfl⟩ dX6_refusalOf_3 ⟨Nat.le_of_ble_eq_true rfl, Nat.le_of_ble_eq_true rfl⟩ (fun r_2 H locs hp_1 hS => ?_)
  obtain ⟨rfl, hH⟩ := hp_1
  refine lv_if_eq (tgt := 11) hx hb dX6_refusalOf_6 (by decide) (fun c_3 => ?_) (fun c_3 => ?_)
  · skip
    replace c_3 := ob_0.mp c_3
    refine lv_aload_n hx hb dX6_refusalOf_11 rfl (lv_at hl 0 rfl) ?_
    refine lv_iload_n hx hb dX6_refusalOf_12 rfl (lv_at hl 2 rfl) ?_
    refine x_callV C hH hS (ci := 7) (t := (0, 0, 0)) hX rfl rfl (c_sealed l (E := E) (base := base) hR0 hI0 (x := x)) hH kX6_hasSealed qw_498 (ws_p (List.mem_of_getElem? (i := 12) rfl) rfl) qw_496  rfl [] rfl hl.1 (Nat.le_of_ble_eq_true rfl) ⟨Nat.le_of_ble_eq_true rfl, Nat.le_of_ble_eq_true rfl⟩ dX6_refusalOf_13 ⟨Nat.le_of_ble_eq_true rfl, Nat.le_of_ble_eq_true rfl⟩ (fun r_5 H locs hp_4 hS => ?_)
    obtain ⟨rfl, hH⟩ := hp_4
    refine lv_if_eq (tgt := 22) hx hb dX6_refusalOf_16 (by decide) (fun c_6 => ?_) (fun c_6 => ?_)
    · skip
      replace c_6 := ob_0.mp c_6
      refine lv_aload_n hx hb dX6_refusalOf_22 rfl (lv_at hl 1 rfl) ?_
      refine lv_iload_n hx hb dX6_refusalOf_23 rfl (lv_at hl 2 rfl) ?_
      refine lv_iload_n hx hb dX6_refusalOf_24 rfl (lv_at hl 3 rfl) ?_
      refine lv_aload_n hx hb dX6_refusalOf_25 rfl (lv_at hl 0 rfl) ?_
      refine x_get C hH (ci := 7) (T := TX6) (N := 6) hX rfl iWX6 3 (by decide) qw_91 rfl rfl dX6_refusalOf_26 ?_
      refine x_callV C hH hS (ci := 5) (t := (2, p, 0)) (hPT p (by omega)).1 rfl rfl (c_unread l (E := E) (base := base) (hPT p hp) (x := x) (bit := bit) (hh := nI nw)) hH kX4_wouldFindUnread qw_505 qw_506 qw_504  rfl [] rfl hl.1 (Nat.le_of_ble_eq_true rfl) ⟨Nat.le_of_ble_eq_true rfl, Nat.le_of_ble_eq_true rfl⟩ dX6_refusalOf_29 ⟨Nat.le_of_ble_eq_true rfl, Nat.le_of_ble_eq_true rfl⟩ (fun r_8 H locs hp_7 hS => ?_)
      obtain ⟨rfl, hH⟩ := hp_7
      refine lv_if_eq (tgt := 38) hx hb dX6_refusalOf_32 (by decide) (fun c_9 => ?_) (fun c_9 => ?_)
      · skip
        replace c_9 := ob_0.mp c_9
        refine lv_aload_n hx hb dX6_refusalOf_38 rfl (lv_at hl 1 rfl) ?_
        refine x_callV C hH hS (ci := 5) (t := (2, p, 0)) (hPT p (by omega)).1 rfl rfl (c_learned l (E := E) (base := base) (hPT p (by omega))) hH kX4_learnedInAll qw_522 qw_523 qw_521  rfl [] rfl hl.1 (Nat.le_of_ble_eq_true rfl) ⟨Nat.le_of_ble_eq_true rfl, Nat.le_of_ble_eq_true rfl⟩ dX6_refusalOf_39 ⟨Nat.le_of_ble_eq_true rfl, Nat.le_of_ble_eq_true rfl⟩ (fun r_11 H locs hp_10 hS => ?_)
        obtain ⟨rfl, hH⟩ := hp_10
        refine lv_aload_n hx hb dX6_refusalOf_42 rfl (lv_at hl 1 rfl) ?_
        refine lv_iload_n hx hb dX6_refusalOf_43 rfl (lv_at hl 2 rfl) ?_
        refine lv_iload_n hx hb dX6_refusalOf_44 rfl (lv_at hl 3 rfl) ?_
        refine x_callV C hH hS (ci := 5) (t := (2, p, 0)) (hPT p (by omega)).1 rfl rfl (c_costOf l (E := E) (base := base) (hPT p (by omega)) (x := x) (bit := bit)) hH kX4_costOf qw_526 qw_527 qw_525  rfl [.int (nI (sC (KCs sg rc na p) 8))] rfl hl.1 (Nat.le_of_ble_eq_true rfl) ⟨Nat.le_of_ble_eq_true rfl, Nat.le_of_ble_eq_true rfl⟩ dX6_refusalOf_45 ⟨Nat.le_of_ble_eq_true rfl, Nat.le_of_ble_eq_true rfl⟩ (fun r_13 H locs hp_12 hS => ?_)
        obtain ⟨rfl, hH⟩ := hp_12
        refine lv_iadd hx hb dX6_refusalOf_48 ?_
        refine lv_re (nI_add _ _) ?_
        refine lv_aload_n hx hb dX6_refusalOf_49 rfl (lv_at hl 1 rfl) ?_
        refine x_getN C hH (ci := 5) (T := TX4) (N := 5) (hPT p (by omega)).1 rfl iWX4 1 (by decide) nw_386 rfl rfl dX6_refusalOf_50 ?_
        refine lv_icmp_le (tgt := 59) hx hb dX6_refusalOf_53 (by decide) (fun c_14 => ?_) (fun c_14 => ?_)
        · skip
          refine lv_iconst (v := nI 0) hx hb dX6_refusalOf_59 (by decide +kernel) ?_
          rw [← hQ]
          refine x_reti C rfl hS (Nat.le_of_ble_eq_true rfl) (Nat.le_of_ble_eq_true rfl) dX6_refusalOf_60 ?_
          rw [hpost]
          exact ⟨by unfold fate; simp only [c_3, c_6, (show wTl nw na sg rc p x bit = false from c_9), show dear na sg rc p x bit = false from decide_eq_false (Int32.not_lt.mpr c_14), if_true, if_false, Bool.false_eq_true]; rfl, hH⟩
        · skip
          refine lv_bipush (v := (-4)) hx hb dX6_refusalOf_56 (by decide +kernel) ?_
          rw [← hQ]
          refine x_reti C rfl hS (Nat.le_of_ble_eq_true rfl) (Nat.le_of_ble_eq_true rfl) dX6_refusalOf_58 ?_
          rw [hpost]
          exact ⟨by unfold fate; simp only [c_3, c_6, (show wTl nw na sg rc p x bit = false from c_9), show dear na sg rc p x bit = true from decide_eq_true (Int32.not_le.mp c_14), if_true, if_false, Bool.false_eq_true]; rfl, hH⟩
      · skip
        replace c_9 := ob_n.mp c_9
        refine lv_bipush (v := (-3)) hx hb dX6_refusalOf_35 (by decide +kernel) ?_
        rw [← hQ]
        refine x_reti C rfl hS (Nat.le_of_ble_eq_true rfl) (Nat.le_of_ble_eq_true rfl) dX6_refusalOf_37 ?_
        rw [hpost]
        exact ⟨by unfold fate; simp only [c_3, c_6, (show wTl nw na sg rc p x bit = true from c_9), if_true, if_false, Bool.false_eq_true]; rfl, hH⟩
    · skip
      replace c_6 := ob_n.mp c_6
      refine lv_bipush (v := (-2)) hx hb dX6_refusalOf_19 (by decide +kernel) ?_
      rw [← hQ]
      refine x_reti C rfl hS (Nat.le_of_ble_eq_true rfl) (Nat.le_of_ble_eq_true rfl) dX6_refusalOf_21 ?_
      rw [hpost]
      exact ⟨by unfold fate; simp only [c_3, c_6, if_true, if_false, Bool.false_eq_true]; rfl, hH⟩
  · skip
    replace c_3 := ob_n.mp c_3
    refine lv_iconst (v := (-1)) hx hb dX6_refusalOf_9 (by decide +kernel) ?_
    rw [← hQ]
    refine x_reti C rfl hS (Nat.le_of_ble_eq_true rfl) (Nat.le_of_ble_eq_true rfl) dX6_refusalOf_10 ?_
    rw [hpost]
    exact ⟨by unfold fate; simp only [c_3, if_true, if_false, Bool.false_eq_true]; rfl, hH⟩

set_option maxHeartbeats 4000000 in
set_option maxRecDepth 100000 in
theorem c_cSt (l : Launch) {E : xE} {base : Nat} {al : Tg → Nat} {w : Tg → Option va_E} {nf np na nw : Nat} {sg : Nat → Nat → Nat → Int32} {rc : Nat → Bool} (hR : RM E al w nf np na nw sg rc) (hI : INV nf np na nw sg rc) {p : Nat} (hp : p < np) : xMet l yX6_countStanding cX6_countStanding 4 (some (.int)) ({ frames := 3, cells := 0, slots := 0, locals := 64 } : Room) E base [.ref (al (0, 0, 0)), .ref (al (2, p, 0))] (fun H => xH E base al w H) (fun r H => r = some (.int (nI (cSt sg rc p na))) ∧ xH E base al w H) := by
  refine xMet.of (by decide +kernel) "Dataroom" rfl (Nat.le_of_ble_eq_true rfl) ?_
  intro p9 e9 s m9 below meth c9 ls C hin hP hS hl
  have hx := C.hx
  have hb := C.hb
  have hH := hP
  have hl : lv_has ls 4 [(0, .ref (al (0, 0, 0))), (1, .ref (al (2, p, 0)))] := hl
  obtain ⟨post, hpost⟩ : ∃ zz9 : Option Value → Heap → Prop, zz9 = (fun r H => r = some (.int (nI (cSt sg rc p na))) ∧ xH E base al w H) := ⟨_, rfl⟩
  rw [← hpost]
  generalize hQ : (MQ below (xQ base post) ([.ref (al (0, 0, 0)), .ref (al (2, p, 0))] : List Value).toArray s 0 0 (xA base)) = Q
  have hR0 := hR
  have hI0 := hI
  obtain ⟨hX, hF, hPl, hAl, hSh, hMk, hC, hPT, hAn⟩ := hR
  obtain ⟨mcF, aF, hLF⟩ := hF.sz
  obtain ⟨mcP, aP, hLP⟩ := hPl.sz
  obtain ⟨mcA, aA, hLA⟩ := hAl.sz
  obtain ⟨v16, v6, v150, vnow, vA, vS, vP, vK, vR⟩ := hI
  refine lv_iconst (v := nI 0) hx hb dX6_countStanding_0 (by decide +kernel) ?_
  refine lv_istore_n (lv' := [(2, .int (nI 0)), (0, .ref (al (0, 0, 0))), (1, .ref (al (2, p, 0)))]) hx hb dX6_countStanding_1 rfl hl (by decide) rfl (fun ls hl => ?_)
  refine lv_iconst (v := nI 0) hx hb dX6_countStanding_2 (by decide +kernel) ?_
  refine lv_istore_n (lv' := [(3, .int (nI 0)), (2, .int (nI 0)), (0, .ref (al (0, 0, 0))), (1, .ref (al (2, p, 0)))]) hx hb dX6_countStanding_3 rfl hl (by decide) rfl (fun ls hl => ?_)
  have lp4 : ∀ (i : Nat), i ≤ na → ∀ (y : Nat) (H : Heap) (locs : List Loc) (ls : Array Slot), y = cSt sg rc p i → xH E base al w H → va_S (xA base) s.heap H locs → lv_has ls 4 [(3, .int (nI i)), (2, .int (nI y)), (1, .ref (al (2, p, 0))), (0, .ref (al (0, 0, 0)))] → W p9 l e9 ({ frames := 3, cells := 0, slots := 0, locals := 64 } : Room) s m9 ([.ref (al (0, 0, 0)), .ref (al (2, p, 0))] : List Value).toArray below meth c9 H locs 0 0 Q (F0 m9 4 ls []) := by
    refine lp_up ?_
    intro i hii ih4 y H locs ls hy hH hS hl
    have hy9 := cSt_le (sg := sg) (rc := rc) (p := p) i
    refine lv_iload_n hx hb dX6_countStanding_4 rfl (lv_at hl 0 rfl) ?_
    refine lv_aload_n hx hb dX6_countStanding_5 rfl (lv_at hl 3 rfl) ?_
    refine x_get C hH (ci := 7) (T := TX6) (N := 6) hX rfl iWX6 2 (by decide) qw_90 rfl rfl dX6_countStanding_6 ?_
    refine x_callV C hH hS (ci := 0) (t := (0, 3, 0)) hLA rfl rfl (c_size l (E := E) (base := base) (al := al) hLA) hH kJx4a65c_size_8abf5 qw_188 qw_189 qw_187  rfl [.int (nI i)] rfl hl.1 (Nat.le_of_ble_eq_true rfl) ⟨Nat.le_of_ble_eq_true rfl, Nat.le_of_ble_eq_true rfl⟩ dX6_countStanding_9 ⟨Nat.le_of_ble_eq_true rfl, Nat.le_of_ble_eq_true rfl⟩ (fun r_2 H locs hp_1 hS => ?_)
    obtain ⟨rfl, hH⟩ := hp_1
    refine lv_icmp_ge (tgt := 42) hx hb dX6_countStanding_12 (by decide) (fun c_3 => ?_) (fun c_3 => ?_)
    · skip
      replace c_3 := (nI_leI (by omega) (by omega)).mp c_3
      refine lv_iload_n hx hb dX6_countStanding_42 rfl (lv_at hl 1 rfl) ?_
      rw [← hQ]
      refine x_reti C rfl hS (Nat.le_of_ble_eq_true rfl) (Nat.le_of_ble_eq_true rfl) dX6_countStanding_43 ?_
      rw [hpost]
      have e8 : i = na := by omega
      rw [e8] at hy
      exact ⟨by rw [hy], hH⟩
    · skip
      replace c_3 := mt (nI_leI (by omega) (by omega)).mpr c_3
      refine lv_aload_n hx hb dX6_countStanding_15 rfl (lv_at hl 3 rfl) ?_
      refine x_get C hH (ci := 7) (T := TX6) (N := 6) hX rfl iWX6 2 (by decide) qw_90 rfl rfl dX6_countStanding_16 ?_
      refine lv_iload_n hx hb dX6_countStanding_19 rfl (lv_at hl 0 rfl) ?_
      obtain ⟨mcz_4, capz_4, gz_4, a1z_4, a2z_4, a3z_4, a4z_4, a5z_4⟩ := hAl.at (i := i) (by omega)
      refine x_callV C hH hS (ci := 0) (t := (0, 3, 0)) a1z_4 rfl rfl (c_get l (E := E) (base := base) a1z_4 a2z_4 (i := i) (by omega) a3z_4 a4z_4 a5z_4) hH kJx4a65c_get_915e3 qw_314 qw_315 qw_313  rfl [] rfl hl.1 (Nat.le_of_ble_eq_true rfl) ⟨Nat.le_of_ble_eq_true rfl, Nat.le_of_ble_eq_true rfl⟩ dX6_countStanding_20 ⟨Nat.le_of_ble_eq_true rfl, Nat.le_of_ble_eq_true rfl⟩ (fun r_6 H locs hp_5 hS => ?_)
      obtain ⟨rfl, hH⟩ := hp_5
      refine x_cast C hH (ci := 1) (hAn i (by omega)) rfl qw_332 dX6_countStanding_23 ?_
      refine lv_aload_n hx hb dX6_countStanding_26 rfl (lv_at hl 2 rfl) ?_
      refine x_callV C hH hS (ci := 1) (t := (6, i, 0)) (hAn i (by omega)) rfl rfl (c_stands l (E := E) (base := base) (hAn i (by omega)) (hPT p (by omega)).1) hH kX0_standsFor qw_334 qw_335 qw_333  rfl [] rfl hl.1 (Nat.le_of_ble_eq_true rfl) ⟨Nat.le_of_ble_eq_true rfl, Nat.le_of_ble_eq_true rfl⟩ dX6_countStanding_27 ⟨Nat.le_of_ble_eq_true rfl, Nat.le_of_ble_eq_true rfl⟩ (fun r_8 H locs hp_7 hS => ?_)
      obtain ⟨rfl, hH⟩ := hp_7
      refine lv_if_eq (tgt := 36) hx hb dX6_countStanding_30 (by decide) (fun c_9 => ?_) (fun c_9 => ?_)
      · skip
        replace c_9 := ob_0.mp c_9
        refine lv_iinc (v := nI (i + 1)) (lv' := [(3, .int (nI (i + 1))), (2, .int (nI y)), (1, .ref (al (2, p, 0))), (0, .ref (al (0, 0, 0)))]) hx hb dX6_countStanding_36 hl (k := 0) rfl (nI_1 _) (by decide) rfl (fun ls hl => ?_)
        refine lv_goto (tgt := 4) hx hb dX6_countStanding_39 (by decide) ?_
        exact ih4 (by omega) y _ _ _ (by subst hy; show _ = cSt sg rc p i + (if _ then 1 else 0); rw [c_9]; rfl) hH hS (lv_sub hl [0, 1, 2, 3] rfl)
      · skip
        replace c_9 := ob_n.mp c_9
        refine lv_iinc (v := nI (y + 1)) (lv' := [(2, .int (nI (y + 1))), (3, .int (nI i)), (1, .ref (al (2, p, 0))), (0, .ref (al (0, 0, 0)))]) hx hb dX6_countStanding_33 hl (k := 1) rfl (nI_1 _) (by decide) rfl (fun ls hl => ?_)
        refine lv_iinc (v := nI (i + 1)) (lv' := [(3, .int (nI (i + 1))), (2, .int (nI (y + 1))), (1, .ref (al (2, p, 0))), (0, .ref (al (0, 0, 0)))]) hx hb dX6_countStanding_36 hl (k := 1) rfl (nI_1 _) (by decide) rfl (fun ls hl => ?_)
        refine lv_goto (tgt := 4) hx hb dX6_countStanding_39 (by decide) ?_
        exact ih4 (by omega) (y + 1) _ _ _ (by subst hy; show _ = cSt sg rc p i + (if _ then 1 else 0); rw [c_9]; rfl) hH hS (lv_sub hl [0, 1, 2, 3] rfl)
  exact lp4 0 (by omega) 0 _ _ _ rfl hH hS (lv_sub hl [0, 1, 3, 2] rfl)

set_option maxHeartbeats 4000000 in
set_option maxRecDepth 100000 in
theorem c_spent (l : Launch) (hfl : l.stackTraces = false) {E : xE} {base : Nat} {al : Tg → Nat} {w : Tg → Option va_E} {nf np na nw : Nat} {sg : Nat → Nat → Nat → Int32} {rc : Nat → Bool} (hR : RM E al w nf np na nw sg rc) (hI : INV nf np na nw sg rc) {x : Int32} : xMetX l yX6_spent cX6_spent 2 (some (.int)) ({ frames := 7, cells := 1, slots := 6, locals := 103 } : Room) E base [.ref (al (0, 0, 0)), .int x] (fun H => xH E base al w H) (fun r H => ∃ p, p < np ∧ x = nI p ∧ r = some (.int (nI (sC (KCs sg rc na p) 8))) ∧ xH E base al w H) (fun X H => X = "java/lang/IndexOutOfBoundsException" ∧ ¬ inR x np ∧ xH E base al w H) := by
  refine xMetX.of (by decide +kernel) "Dataroom" rfl (Nat.le_of_ble_eq_true rfl) ?_
  intro p9 e9 s m9 below meth c9 ls C het hP hS hl
  have hx := C.hx
  have hb := C.hb
  have hH := hP
  have hl : lv_has ls 2 [(0, .ref (al (0, 0, 0))), (1, .int x)] := hl
  obtain ⟨post, hpost⟩ : ∃ zz9 : Option Value → Heap → Prop, zz9 = (fun r H => ∃ p, p < np ∧ x = nI p ∧ r = some (.int (nI (sC (KCs sg rc na p) 8))) ∧ xH E base al w H) := ⟨_, rfl⟩
  obtain ⟨px, hpx⟩ : ∃ zz9 : String → Heap → Prop, zz9 = (fun X H => X = "java/lang/IndexOutOfBoundsException" ∧ ¬ inR x np ∧ xH E base al w H) := ⟨_, rfl⟩
  rw [← hpost, ← hpx]
  generalize hQ : (vx_MQ below (xQ base post) (xX base px) ([.ref (al (0, 0, 0)), .int x] : List Value).toArray s 1 6 (xA base)) = Q
  have hR0 := hR
  have hI0 := hI
  obtain ⟨hX, hF, hPl, hAl, hSh, hMk, hC, hPT, hAn⟩ := hR
  obtain ⟨mcF, aF, hLF⟩ := hF.sz
  obtain ⟨mcP, aP, hLP⟩ := hPl.sz
  obtain ⟨mcA, aA, hLA⟩ := hAl.sz
  obtain ⟨v16, v6, v150, vnow, vA, vS, vP, vK, vR⟩ := hI
  refine lv_aload_n hx hb dX6_spent_0 rfl (lv_at hl 0 rfl) ?_
  refine lv_iload_n hx hb dX6_spent_1 rfl (lv_at hl 1 rfl) ?_
  refine x_thrV C hH hS (ci := 7) (t := (0, 0, 0)) hX rfl rfl (c_pAt l hfl (E := E) (base := base) hR0 hI0 (x := x)) hH kX6_partyAt qw_411 (ws_p (List.mem_of_getElem? (i := 8) rfl) rfl) qw_409  rfl [] rfl hl.1 (Nat.le_of_ble_eq_true rfl) ⟨Nat.le_of_ble_eq_true rfl, Nat.le_of_ble_eq_true rfl⟩ dX6_spent_2 ⟨Nat.le_of_ble_eq_true rfl, Nat.le_of_ble_eq_true rfl⟩ (fun X ce q9 H locs hp_1 hS hce hcv hcl => ?_) (fun r_2 H locs hp_1 hS => ?_)
  · skip
    obtain ⟨rfl, hno, hH⟩ := hp_1
    rw [← hQ]
    refine x_outX C het hS hce hcv hcl (Nat.le_of_ble_eq_true rfl) (Nat.le_of_ble_eq_true rfl) ?_
    rw [hpx]
    exact ⟨rfl, hno, hH⟩
  · skip
    obtain ⟨p_3, hp_3, rfl, rfl, hH⟩ := hp_1
    refine x_callV C hH hS (ci := 5) (t := (2, p_3, 0)) (hPT p_3 (by omega)).1 rfl rfl (c_learned l (E := E) (base := base) (hPT p_3 (by omega))) hH kX4_learnedInAll qw_522 qw_523 qw_521  rfl [] rfl hl.1 (Nat.le_of_ble_eq_true rfl) ⟨Nat.le_of_ble_eq_true rfl, Nat.le_of_ble_eq_true rfl⟩ dX6_spent_5 ⟨Nat.le_of_ble_eq_true rfl, Nat.le_of_ble_eq_true rfl⟩ (fun r_5 H locs hp_4 hS => ?_)
    obtain ⟨rfl, hH⟩ := hp_4
    rw [← hQ]
    refine vx_ret (x_reti C rfl hS (Nat.le_of_ble_eq_true rfl) (Nat.le_of_ble_eq_true rfl) dX6_spent_8 ?_)
    rw [hpost]
    exact ⟨p_3, hp_3, rfl, rfl, hH⟩

set_option maxHeartbeats 4000000 in
set_option maxRecDepth 100000 in
theorem c_rightTo (l : Launch) (hfl : l.stackTraces = false) {E : xE} {base : Nat} {al : Tg → Nat} {w : Tg → Option va_E} {nf np na nw : Nat} {sg : Nat → Nat → Nat → Int32} {rc : Nat → Bool} (hR : RM E al w nf np na nw sg rc) (hI : INV nf np na nw sg rc) {x z : Int32} : xMetX l yX6_rightTo cX6_rightTo 4 (some (.int)) ({ frames := 7, cells := 2, slots := 12, locals := 103 } : Room) E base [.ref (al (0, 0, 0)), .int x, .int z] (fun H => xH E base al w H) (fun r H => ∃ p f, p < np ∧ f < nf ∧ x = nI p ∧ z = nI f ∧ r = some (.int (rIn (sg 4 p f) (sg 5 p f) (sg 6 p f) (nI nw))) ∧ xH E base al w H) (fun X H => X = "java/lang/IndexOutOfBoundsException" ∧ ¬ (inR x np ∧ inR z nf) ∧ xH E base al w H) := by
  refine xMetX.of (by decide +kernel) "Dataroom" rfl (Nat.le_of_ble_eq_true rfl) ?_
  intro p9 e9 s m9 below meth c9 ls C het hP hS hl
  have hx := C.hx
  have hb := C.hb
  have hH := hP
  have hl : lv_has ls 4 [(0, .ref (al (0, 0, 0))), (1, .int x), (2, .int z)] := hl
  obtain ⟨post, hpost⟩ : ∃ zz9 : Option Value → Heap → Prop, zz9 = (fun r H => ∃ p f, p < np ∧ f < nf ∧ x = nI p ∧ z = nI f ∧ r = some (.int (rIn (sg 4 p f) (sg 5 p f) (sg 6 p f) (nI nw))) ∧ xH E base al w H) := ⟨_, rfl⟩
  obtain ⟨px, hpx⟩ : ∃ zz9 : String → Heap → Prop, zz9 = (fun X H => X = "java/lang/IndexOutOfBoundsException" ∧ ¬ (inR x np ∧ inR z nf) ∧ xH E base al w H) := ⟨_, rfl⟩
  rw [← hpost, ← hpx]
  generalize hQ : (vx_MQ below (xQ base post) (xX base px) ([.ref (al (0, 0, 0)), .int x, .int z] : List Value).toArray s 2 12 (xA base)) = Q
  have hR0 := hR
  have hI0 := hI
  obtain ⟨hX, hF, hPl, hAl, hSh, hMk, hC, hPT, hAn⟩ := hR
  obtain ⟨mcF, aF, hLF⟩ := hF.sz
  obtain ⟨mcP, aP, hLP⟩ := hPl.sz
  obtain ⟨mcA, aA, hLA⟩ := hAl.sz
  obtain ⟨v16, v6, v150, vnow, vA, vS, vP, vK, vR⟩ := hI
  refine lv_aload_n hx hb dX6_rightTo_0 rfl (lv_at hl 0 rfl) ?_
  refine lv_iload_n hx hb dX6_rightTo_1 rfl (lv_at hl 1 rfl) ?_
  refine x_thrV C hH hS (ci := 7) (t := (0, 0, 0)) hX rfl rfl (c_pAt l hfl (E := E) (base := base) hR0 hI0 (x := x)) hH kX6_partyAt qw_411 (ws_p (List.mem_of_getElem? (i := 8) rfl) rfl) qw_409  rfl [] rfl hl.1 (Nat.le_of_ble_eq_true rfl) ⟨Nat.le_of_ble_eq_true rfl, Nat.le_of_ble_eq_true rfl⟩ dX6_rightTo_2 ⟨Nat.le_of_ble_eq_true rfl, Nat.le_of_ble_eq_true rfl⟩ (fun X ce q9 H locs hp_1 hS hce hcv hcl => ?_) (fun r_2 H locs hp_1 hS => ?_)
  · skip
    obtain ⟨rfl, hno, hH⟩ := hp_1
    rw [← hQ]
    refine x_outX C het hS hce hcv hcl (Nat.le_of_ble_eq_true rfl) (Nat.le_of_ble_eq_true rfl) ?_
    rw [hpx]
    exact ⟨rfl, fun q => hno q.1, hH⟩
  · skip
    obtain ⟨p_3, hp_3, rfl, rfl, hH⟩ := hp_1
    refine lv_astore_n (lv' := [(3, .ref (al (2, p_3, 0))), (0, .ref (al (0, 0, 0))), (1, .int (nI p_3)), (2, .int z)]) hx hb dX6_rightTo_5 rfl hl (by decide) rfl (fun ls hl => ?_)
    refine lv_aload_n hx hb dX6_rightTo_6 rfl (lv_at hl 1 rfl) ?_
    refine lv_iload_n hx hb dX6_rightTo_7 rfl (lv_at hl 3 rfl) ?_
    refine x_thrV C hH hS (ci := 7) (t := (0, 0, 0)) hX rfl rfl (c_rFile l hfl (E := E) (base := base) hR0 hI0 (x := z)) hH kX6_requireFile qw_295 (ws_p (List.mem_of_getElem? (i := 5) rfl) rfl) qw_293  rfl [] rfl hl.1 (Nat.le_of_ble_eq_true rfl) ⟨Nat.le_of_ble_eq_true rfl, Nat.le_of_ble_eq_true rfl⟩ dX6_rightTo_8 ⟨Nat.le_of_ble_eq_true rfl, Nat.le_of_ble_eq_true rfl⟩ (fun X ce q9 H locs hp_4 hS hce hcv hcl => ?_) (fun r_5 H locs hp_4 hS => ?_)
    · skip
      obtain ⟨rfl, hno, hH⟩ := hp_4
      rw [← hQ]
      refine x_outX C het hS hce hcv hcl (Nat.le_of_ble_eq_true rfl) (Nat.le_of_ble_eq_true rfl) ?_
      rw [hpx]
      exact ⟨rfl, fun q => hno q.2, hH⟩
    · skip
      obtain ⟨rfl, ⟨f_6, hf_6, rfl⟩, hH⟩ := hp_4
      refine lv_aload_n hx hb dX6_rightTo_11 rfl (lv_at hl 0 rfl) ?_
      refine lv_aload_n hx hb dX6_rightTo_12 rfl (lv_at hl 1 rfl) ?_
      refine x_get C hH (ci := 7) (T := TX6) (N := 6) hX rfl iWX6 3 (by decide) qw_91 rfl rfl dX6_rightTo_13 ?_
      refine lv_iload_n hx hb dX6_rightTo_16 rfl (lv_at hl 3 rfl) ?_
      refine x_callV C hH hS (ci := 5) (t := (2, p_3, 0)) (hPT p_3 (by omega)).1 rfl rfl (c_rightIn l (E := E) (base := base) (hPT p_3 (by omega)) (f := f_6) (hh := nI nw) (by omega)) hH kX4_rightIn qw_488 qw_489 qw_487  rfl [] rfl hl.1 (Nat.le_of_ble_eq_true rfl) ⟨Nat.le_of_ble_eq_true rfl, Nat.le_of_ble_eq_true rfl⟩ dX6_rightTo_17 ⟨Nat.le_of_ble_eq_true rfl, Nat.le_of_ble_eq_true rfl⟩ (fun r_8 H locs hp_7 hS => ?_)
      obtain ⟨rfl, hH⟩ := hp_7
      rw [← hQ]
      refine vx_ret (x_reti C rfl hS (Nat.le_of_ble_eq_true rfl) (Nat.le_of_ble_eq_true rfl) dX6_rightTo_20 ?_)
      rw [hpost]
      exact ⟨p_3, f_6, hp_3, hf_6, rfl, rfl, rfl, hH⟩

set_option maxHeartbeats 4000000 in
set_option maxRecDepth 100000 in
theorem c_isSealed (l : Launch) (hfl : l.stackTraces = false) {E : xE} {base : Nat} {al : Tg → Nat} {w : Tg → Option va_E} {nf np na nw : Nat} {sg : Nat → Nat → Nat → Int32} {rc : Nat → Bool} (hR : RM E al w nf np na nw sg rc) (hI : INV nf np na nw sg rc) {x : Int32} : xMetX l yX6_isSealed cX6_isSealed 2 (some (.boolean)) ({ frames := 8, cells := 1, slots := 6, locals := 124 } : Room) E base [.ref (al (0, 0, 0)), .int x] (fun H => xH E base al w H) (fun r H => ∃ f, f < nf ∧ x = nI f ∧ r = some (.int (ob (decide (nI nw ≤ sg 2 f 0)))) ∧ xH E base al w H) (fun X H => X = "java/lang/IndexOutOfBoundsException" ∧ ¬ inR x nf ∧ xH E base al w H) := by
  refine xMetX.of (by decide +kernel) "Dataroom" rfl (Nat.le_of_ble_eq_true rfl) ?_
  intro p9 e9 s m9 below meth c9 ls C het hP hS hl
  have hx := C.hx
  have hb := C.hb
  have hH := hP
  have hl : lv_has ls 2 [(0, .ref (al (0, 0, 0))), (1, .int x)] := hl
  obtain ⟨post, hpost⟩ : ∃ zz9 : Option Value → Heap → Prop, zz9 = (fun r H => ∃ f, f < nf ∧ x = nI f ∧ r = some (.int (ob (decide (nI nw ≤ sg 2 f 0)))) ∧ xH E base al w H) := ⟨_, rfl⟩
  obtain ⟨px, hpx⟩ : ∃ zz9 : String → Heap → Prop, zz9 = (fun X H => X = "java/lang/IndexOutOfBoundsException" ∧ ¬ inR x nf ∧ xH E base al w H) := ⟨_, rfl⟩
  rw [← hpost, ← hpx]
  generalize hQ : (vx_MQ below (xQ base post) (xX base px) ([.ref (al (0, 0, 0)), .int x] : List Value).toArray s 1 6 (xA base)) = Q
  have hR0 := hR
  have hI0 := hI
  obtain ⟨hX, hF, hPl, hAl, hSh, hMk, hC, hPT, hAn⟩ := hR
  obtain ⟨mcF, aF, hLF⟩ := hF.sz
  obtain ⟨mcP, aP, hLP⟩ := hPl.sz
  obtain ⟨mcA, aA, hLA⟩ := hAl.sz
  obtain ⟨v16, v6, v150, vnow, vA, vS, vP, vK, vR⟩ := hI
  refine lv_aload_n hx hb dX6_isSealed_0 rfl (lv_at hl 0 rfl) ?_
  refine lv_iload_n hx hb dX6_isSealed_1 rfl (lv_at hl 1 rfl) ?_
  refine x_thrV C hH hS (ci := 7) (t := (0, 0, 0)) hX rfl rfl (c_fAt l hfl (E := E) (base := base) hR0 hI0 (x := x)) hH kX6_fileAt qw_291 (ws_p (List.mem_of_getElem? (i := 4) rfl) rfl) qw_289  rfl [] rfl hl.1 (Nat.le_of_ble_eq_true rfl) ⟨Nat.le_of_ble_eq_true rfl, Nat.le_of_ble_eq_true rfl⟩ dX6_isSealed_2 ⟨Nat.le_of_ble_eq_true rfl, Nat.le_of_ble_eq_true rfl⟩ (fun X ce q9 H locs hp_1 hS hce hcv hcl => ?_) (fun r_2 H locs hp_1 hS => ?_)
  · skip
    obtain ⟨rfl, hno, hH⟩ := hp_1
    rw [← hQ]
    refine x_outX C het hS hce hcv hcl (Nat.le_of_ble_eq_true rfl) (Nat.le_of_ble_eq_true rfl) ?_
    rw [hpx]
    exact ⟨rfl, hno, hH⟩
  · skip
    obtain ⟨f_3, hf_3, rfl, rfl, hH⟩ := hp_1
    refine lv_aload_n hx hb dX6_isSealed_5 rfl (lv_at hl 0 rfl) ?_
    refine x_get C hH (ci := 7) (T := TX6) (N := 6) hX rfl iWX6 3 (by decide) qw_91 rfl rfl dX6_isSealed_6 ?_
    refine x_callV C hH hS (ci := 2) (t := (1, f_3, 0)) (hC f_3 (by omega)) rfl rfl (c_closed l (E := E) (base := base) (hC f_3 (by omega)) (h := nI nw)) hH kX1_isClosedIn qw_501 qw_502 qw_500  rfl [] rfl hl.1 (Nat.le_of_ble_eq_true rfl) ⟨Nat.le_of_ble_eq_true rfl, Nat.le_of_ble_eq_true rfl⟩ dX6_isSealed_9 ⟨Nat.le_of_ble_eq_true rfl, Nat.le_of_ble_eq_true rfl⟩ (fun r_5 H locs hp_4 hS => ?_)
    obtain ⟨rfl, hH⟩ := hp_4
    rw [← hQ]
    refine vx_ret (x_reti C ob_nar hS (Nat.le_of_ble_eq_true rfl) (Nat.le_of_ble_eq_true rfl) dX6_isSealed_12 ?_)
    rw [hpost]
    exact ⟨f_3, hf_3, rfl, rfl, hH⟩

set_option maxHeartbeats 4000000 in
set_option maxRecDepth 100000 in
theorem c_finds (l : Launch) (hfl : l.stackTraces = false) {E : xE} {base : Nat} {al : Tg → Nat} {w : Tg → Option va_E} {nf np na nw : Nat} {sg : Nat → Nat → Nat → Int32} {rc : Nat → Bool} (hR : RM E al w nf np na nw sg rc) (hI : INV nf np na nw sg rc) {x z : Int32} : xMetX l yX6_finds cX6_finds 6 (some (.int)) ({ frames := 7, cells := 2, slots := 12, locals := 103 } : Room) E base [.ref (al (0, 0, 0)), .int x, .int z] (fun H => xH E base al w H) (fun r H => ∃ p f, p < np ∧ f < nf ∧ x = nI p ∧ z = nI f ∧ r = some (.int (fBs (fun b => decide (red (KFs sg rc na p b) 16 (nI 1 <<< (nI f &&& 31)) = 0)) 8)) ∧ xH E base al w H) (fun X H => X = "java/lang/IndexOutOfBoundsException" ∧ ¬ (inR x np ∧ inR z nf) ∧ xH E base al w H) := by
  refine xMetX.of (by decide +kernel) "Dataroom" rfl (Nat.le_of_ble_eq_true rfl) ?_
  intro p9 e9 s m9 below meth c9 ls C het hP hS hl
  have hx := C.hx
  have hb := C.hb
  have hH := hP
  have hl : lv_has ls 6 [(0, .ref (al (0, 0, 0))), (1, .int x), (2, .int z)] := hl
  obtain ⟨post, hpost⟩ : ∃ zz9 : Option Value → Heap → Prop, zz9 = (fun r H => ∃ p f, p < np ∧ f < nf ∧ x = nI p ∧ z = nI f ∧ r = some (.int (fBs (fun b => decide (red (KFs sg rc na p b) 16 (nI 1 <<< (nI f &&& 31)) = 0)) 8)) ∧ xH E base al w H) := ⟨_, rfl⟩
  obtain ⟨px, hpx⟩ : ∃ zz9 : String → Heap → Prop, zz9 = (fun X H => X = "java/lang/IndexOutOfBoundsException" ∧ ¬ (inR x np ∧ inR z nf) ∧ xH E base al w H) := ⟨_, rfl⟩
  rw [← hpost, ← hpx]
  generalize hQ : (vx_MQ below (xQ base post) (xX base px) ([.ref (al (0, 0, 0)), .int x, .int z] : List Value).toArray s 2 12 (xA base)) = Q
  have hR0 := hR
  have hI0 := hI
  obtain ⟨hX, hF, hPl, hAl, hSh, hMk, hC, hPT, hAn⟩ := hR
  obtain ⟨mcF, aF, hLF⟩ := hF.sz
  obtain ⟨mcP, aP, hLP⟩ := hPl.sz
  obtain ⟨mcA, aA, hLA⟩ := hAl.sz
  obtain ⟨v16, v6, v150, vnow, vA, vS, vP, vK, vR⟩ := hI
  refine lv_aload_n hx hb dX6_finds_0 rfl (lv_at hl 0 rfl) ?_
  refine lv_iload_n hx hb dX6_finds_1 rfl (lv_at hl 1 rfl) ?_
  refine x_thrV C hH hS (ci := 7) (t := (0, 0, 0)) hX rfl rfl (c_pAt l hfl (E := E) (base := base) hR0 hI0 (x := x)) hH kX6_partyAt qw_411 (ws_p (List.mem_of_getElem? (i := 8) rfl) rfl) qw_409  rfl [] rfl hl.1 (Nat.le_of_ble_eq_true rfl) ⟨Nat.le_of_ble_eq_true rfl, Nat.le_of_ble_eq_true rfl⟩ dX6_finds_2 ⟨Nat.le_of_ble_eq_true rfl, Nat.le_of_ble_eq_true rfl⟩ (fun X ce q9 H locs hp_1 hS hce hcv hcl => ?_) (fun r_2 H locs hp_1 hS => ?_)
  · skip
    obtain ⟨rfl, hno, hH⟩ := hp_1
    rw [← hQ]
    refine x_outX C het hS hce hcv hcl (Nat.le_of_ble_eq_true rfl) (Nat.le_of_ble_eq_true rfl) ?_
    rw [hpx]
    exact ⟨rfl, fun q => hno q.1, hH⟩
  · skip
    obtain ⟨p_3, hp_3, rfl, rfl, hH⟩ := hp_1
    refine lv_astore_n (lv' := [(3, .ref (al (2, p_3, 0))), (0, .ref (al (0, 0, 0))), (1, .int (nI p_3)), (2, .int z)]) hx hb dX6_finds_5 rfl hl (by decide) rfl (fun ls hl => ?_)
    refine lv_aload_n hx hb dX6_finds_6 rfl (lv_at hl 1 rfl) ?_
    refine lv_iload_n hx hb dX6_finds_7 rfl (lv_at hl 3 rfl) ?_
    refine x_thrV C hH hS (ci := 7) (t := (0, 0, 0)) hX rfl rfl (c_rFile l hfl (E := E) (base := base) hR0 hI0 (x := z)) hH kX6_requireFile qw_295 (ws_p (List.mem_of_getElem? (i := 5) rfl) rfl) qw_293  rfl [] rfl hl.1 (Nat.le_of_ble_eq_true rfl) ⟨Nat.le_of_ble_eq_true rfl, Nat.le_of_ble_eq_true rfl⟩ dX6_finds_8 ⟨Nat.le_of_ble_eq_true rfl, Nat.le_of_ble_eq_true rfl⟩ (fun X ce q9 H locs hp_4 hS hce hcv hcl => ?_) (fun r_5 H locs hp_4 hS => ?_)
    · skip
      obtain ⟨rfl, hno, hH⟩ := hp_4
      rw [← hQ]
      refine x_outX C het hS hce hcv hcl (Nat.le_of_ble_eq_true rfl) (Nat.le_of_ble_eq_true rfl) ?_
      rw [hpx]
      exact ⟨rfl, fun q => hno q.2, hH⟩
    · skip
      obtain ⟨rfl, ⟨f_6, hf_6, rfl⟩, hH⟩ := hp_4
      refine lv_iconst (v := nI 0) hx hb dX6_finds_11 (by decide +kernel) ?_
      refine lv_istore (lv' := [(4, .int (nI 0)), (3, .ref (al (2, p_3, 0))), (0, .ref (al (0, 0, 0))), (1, .int (nI p_3)), (2, .int (nI f_6))]) hx hb dX6_finds_12 hl (by decide) rfl (fun ls hl => ?_)
      refine lv_iconst (v := nI 0) hx hb dX6_finds_14 (by decide +kernel) ?_
      refine lv_istore (lv' := [(5, .int (nI 0)), (4, .int (nI 0)), (3, .ref (al (2, p_3, 0))), (0, .ref (al (0, 0, 0))), (1, .int (nI p_3)), (2, .int (nI f_6))]) hx hb dX6_finds_15 hl (by decide) rfl (fun ls hl => ?_)
      have lp17 : ∀ (i : Nat), i ≤ 8 → ∀ (y : Int32) (H : Heap) (locs : List Loc) (ls : Array Slot), y = fBs (fun b => decide (red (KFs sg rc na p_3 b) 16 (nI 1 <<< (nI f_6 &&& 31)) = 0)) i → xH E base al w H → va_S (xA base) s.heap H locs → lv_has ls 6 [(5, .int (nI i)), (4, .int y), (3, .ref (al (2, p_3, 0))), (2, .int (nI f_6)), (1, .int (nI p_3)), (0, .ref (al (0, 0, 0)))] → W p9 l e9 ({ frames := 7, cells := 2, slots := 12, locals := 103 } : Room) s m9 ([.ref (al (0, 0, 0)), .int (nI p_3), .int (nI f_6)] : List Value).toArray below meth c9 H locs 2 12 Q (F0 m9 17 ls []) := by
        refine lp_up ?_
        intro i hii ih17 y H locs ls hy hH hS hl
        refine lv_iload hx hb dX6_finds_17 (lv_at hl 0 rfl) ?_
        refine lv_aload_n hx hb dX6_finds_19 rfl (lv_at hl 2 rfl) ?_
        refine x_getN C hH (ci := 5) (T := TX4) (N := 5) (hPT p_3 (by omega)).1 rfl iWX4 3 (by decide) nw_389 rfl rfl dX6_finds_20 ?_
        refine x_alen (v := nI 8) C hH 3 rfl (hPT p_3 (by omega)).2.2.1 rfl dX6_finds_23 ?_
        refine lv_icmp_ge (tgt := 58) hx hb dX6_finds_24 (by decide) (fun c_7 => ?_) (fun c_7 => ?_)
        · skip
          replace c_7 := (nI_leI (by omega) (by omega)).mp c_7
          refine lv_iload hx hb dX6_finds_58 (lv_at hl 1 rfl) ?_
          rw [← hQ]
          refine vx_ret (x_reti C rfl hS (Nat.le_of_ble_eq_true rfl) (Nat.le_of_ble_eq_true rfl) dX6_finds_60 ?_)
          rw [hpost]
          have e8 : i = 8 := by omega
          subst e8
          exact ⟨p_3, f_6, hp_3, hf_6, rfl, rfl, by rw [hy], hH⟩
        · skip
          replace c_7 := mt (nI_leI (by omega) (by omega)).mpr c_7
          refine lv_aload_n hx hb dX6_finds_27 rfl (lv_at hl 2 rfl) ?_
          refine x_getN C hH (ci := 5) (T := TX4) (N := 5) (hPT p_3 (by omega)).1 rfl iWX4 3 (by decide) nw_389 rfl rfl dX6_finds_28 ?_
          refine lv_iload hx hb dX6_finds_31 (lv_at hl 0 rfl) ?_
          refine x_aldq C hH 3 rfl (hPT p_3 (by omega)).2.2.1 (j := i) rfl (by omega) (by omega) (v := .ref (al (4, p_3, i))) (rfl) dX6_finds_33 ?_
          refine lv_iconst (v := nI 1) hx hb dX6_finds_34 (by decide +kernel) ?_
          refine lv_iload_n hx hb dX6_finds_35 rfl (lv_at hl 3 rfl) ?_
          refine lv_ishl hx hb dX6_finds_36 ?_
          refine x_callV C hH hS (ci := 3) (t := (4, p_3, i)) ((hPT p_3 (by omega)).2.2.2.2.2.1 i (by omega)) rfl rfl (c_knows l (E := E) (base := base) (x := (nI 1 <<< (nI f_6 &&& 31))) ((hPT p_3 (by omega)).2.2.2.2.2.1 i (by omega)) ((hPT p_3 (by omega)).2.2.2.2.2.2 i (by omega))) hH kX2_knows qw_518 qw_519 qw_643  rfl [] rfl hl.1 (Nat.le_of_ble_eq_true rfl) ⟨Nat.le_of_ble_eq_true rfl, Nat.le_of_ble_eq_true rfl⟩ dX6_finds_37 ⟨Nat.le_of_ble_eq_true rfl, Nat.le_of_ble_eq_true rfl⟩ (fun r_9 H locs hp_8 hS => ?_)
          obtain ⟨rfl, hH⟩ := hp_8
          refine lv_if_eq (tgt := 52) hx hb dX6_finds_40 (by decide) (fun c_10 => ?_) (fun c_10 => ?_)
          · skip
            replace c_10 := ob_0.mp c_10
            refine lv_iinc (v := nI (i + 1)) (lv' := [(5, .int (nI (i + 1))), (4, .int y), (3, .ref (al (2, p_3, 0))), (2, .int (nI f_6)), (1, .int (nI p_3)), (0, .ref (al (0, 0, 0)))]) hx hb dX6_finds_52 hl (k := 0) rfl (nI_1 _) (by decide) rfl (fun ls hl => ?_)
            refine lv_goto (tgt := 17) hx hb dX6_finds_55 (by decide) ?_
            exact ih17 (by omega) y _ _ _ (by rw [hy]; exact fBs_n (P := (fun b => decide (red (KFs sg rc na p_3 b) 16 (nI 1 <<< (nI f_6 &&& 31)) = 0))) c_10) hH hS (lv_sub hl [0, 1, 2, 3, 4, 5] rfl)
          · skip
            replace c_10 := ob_n.mp c_10
            refine lv_iload hx hb dX6_finds_43 (lv_at hl 1 rfl) ?_
            refine lv_iconst (v := nI 1) hx hb dX6_finds_45 (by decide +kernel) ?_
            refine lv_iload hx hb dX6_finds_46 (lv_at hl 0 rfl) ?_
            refine lv_ishl hx hb dX6_finds_48 ?_
            refine lv_ior hx hb dX6_finds_49 ?_
            refine lv_istore (lv' := [(4, .int (y ||| (nI 1 <<< (nI i &&& 31)))), (5, .int (nI i)), (3, .ref (al (2, p_3, 0))), (2, .int (nI f_6)), (1, .int (nI p_3)), (0, .ref (al (0, 0, 0)))]) hx hb dX6_finds_50 hl (by decide) rfl (fun ls hl => ?_)
            refine lv_iinc (v := nI (i + 1)) (lv' := [(5, .int (nI (i + 1))), (4, .int (y ||| (nI 1 <<< (nI i &&& 31)))), (3, .ref (al (2, p_3, 0))), (2, .int (nI f_6)), (1, .int (nI p_3)), (0, .ref (al (0, 0, 0)))]) hx hb dX6_finds_52 hl (k := 1) rfl (nI_1 _) (by decide) rfl (fun ls hl => ?_)
            refine lv_goto (tgt := 17) hx hb dX6_finds_55 (by decide) ?_
            exact ih17 (by omega) (y ||| (nI 1 <<< (nI i &&& 31))) _ _ _ (by rw [hy]; exact fBs_p (P := (fun b => decide (red (KFs sg rc na p_3 b) 16 (nI 1 <<< (nI f_6 &&& 31)) = 0))) c_10) hH hS (lv_sub hl [0, 1, 2, 3, 4, 5] rfl)
      exact lp17 0 (by omega) (nI 0) _ _ _ rfl hH hS (lv_sub hl [0, 1, 2, 5, 4, 3] rfl)

set_option maxHeartbeats 4000000 in
set_option maxRecDepth 100000 in
theorem c_cost (l : Launch) (hfl : l.stackTraces = false) {E : xE} {base : Nat} {al : Tg → Nat} {w : Tg → Option va_E} {nf np na nw : Nat} {sg : Nat → Nat → Nat → Int32} {rc : Nat → Bool} (hR : RM E al w nf np na nw sg rc) (hI : INV nf np na nw sg rc) {x z bit : Int32} : xMetX l yX6_cost cX6_cost 5 (some (.int)) ({ frames := 8, cells := 3, slots := 18, locals := 126 } : Room) E base [.ref (al (0, 0, 0)), .int x, .int z, .int bit] (fun H => xH E base al w H) (fun r H => ∃ p, p < np ∧ x = nI p ∧ Qok nf z bit ∧ r = some (.int (nI (cC (KFs sg rc na p) bit z 8))) ∧ xH E base al w H) (fun X H => ((X = "java/lang/IndexOutOfBoundsException" ∧ ¬ inR x np) ∨ (X = "java/lang/IllegalArgumentException" ∧ inR x np ∧ ¬ Qok nf z bit)) ∧ xH E base al w H) := by
  refine xMetX.of (by decide +kernel) "Dataroom" rfl (Nat.le_of_ble_eq_true rfl) ?_
  intro p9 e9 s m9 below meth c9 ls C het hP hS hl
  have hx := C.hx
  have hb := C.hb
  have hH := hP
  have hl : lv_has ls 5 [(0, .ref (al (0, 0, 0))), (1, .int x), (2, .int z), (3, .int bit)] := hl
  obtain ⟨post, hpost⟩ : ∃ zz9 : Option Value → Heap → Prop, zz9 = (fun r H => ∃ p, p < np ∧ x = nI p ∧ Qok nf z bit ∧ r = some (.int (nI (cC (KFs sg rc na p) bit z 8))) ∧ xH E base al w H) := ⟨_, rfl⟩
  obtain ⟨px, hpx⟩ : ∃ zz9 : String → Heap → Prop, zz9 = (fun X H => ((X = "java/lang/IndexOutOfBoundsException" ∧ ¬ inR x np) ∨ (X = "java/lang/IllegalArgumentException" ∧ inR x np ∧ ¬ Qok nf z bit)) ∧ xH E base al w H) := ⟨_, rfl⟩
  rw [← hpost, ← hpx]
  generalize hQ : (vx_MQ below (xQ base post) (xX base px) ([.ref (al (0, 0, 0)), .int x, .int z, .int bit] : List Value).toArray s 3 18 (xA base)) = Q
  have hR0 := hR
  have hI0 := hI
  obtain ⟨hX, hF, hPl, hAl, hSh, hMk, hC, hPT, hAn⟩ := hR
  obtain ⟨mcF, aF, hLF⟩ := hF.sz
  obtain ⟨mcP, aP, hLP⟩ := hPl.sz
  obtain ⟨mcA, aA, hLA⟩ := hAl.sz
  obtain ⟨v16, v6, v150, vnow, vA, vS, vP, vK, vR⟩ := hI
  refine lv_aload_n hx hb dX6_cost_0 rfl (lv_at hl 0 rfl) ?_
  refine lv_iload_n hx hb dX6_cost_1 rfl (lv_at hl 1 rfl) ?_
  refine x_thrV C hH hS (ci := 7) (t := (0, 0, 0)) hX rfl rfl (c_pAt l hfl (E := E) (base := base) hR0 hI0 (x := x)) hH kX6_partyAt qw_411 (ws_p (List.mem_of_getElem? (i := 8) rfl) rfl) qw_409  rfl [] rfl hl.1 (Nat.le_of_ble_eq_true rfl) ⟨Nat.le_of_ble_eq_true rfl, Nat.le_of_ble_eq_true rfl⟩ dX6_cost_2 ⟨Nat.le_of_ble_eq_true rfl, Nat.le_of_ble_eq_true rfl⟩ (fun X ce q9 H locs hp_1 hS hce hcv hcl => ?_) (fun r_2 H locs hp_1 hS => ?_)
  · skip
    obtain ⟨rfl, hno, hH⟩ := hp_1
    rw [← hQ]
    refine x_outX C het hS hce hcv hcl (Nat.le_of_ble_eq_true rfl) (Nat.le_of_ble_eq_true rfl) ?_
    rw [hpx]
    exact ⟨Or.inl ⟨rfl, hno⟩, hH⟩
  · skip
    obtain ⟨p_3, hp_3, rfl, rfl, hH⟩ := hp_1
    refine lv_astore (lv' := [(4, .ref (al (2, p_3, 0))), (0, .ref (al (0, 0, 0))), (1, .int (nI p_3)), (2, .int z), (3, .int bit)]) hx hb dX6_cost_5 hl (by decide) rfl (fun ls hl => ?_)
    refine lv_aload_n hx hb dX6_cost_7 rfl (lv_at hl 1 rfl) ?_
    refine lv_iload_n hx hb dX6_cost_8 rfl (lv_at hl 3 rfl) ?_
    refine lv_iload_n hx hb dX6_cost_9 rfl (lv_at hl 4 rfl) ?_
    refine x_thrV C hH hS (ci := 7) (t := (0, 0, 0)) hX rfl rfl (c_rQ l hfl (E := E) (base := base) hR0 hI0 (x := z) (bit := bit)) hH kX6_requireQuestion qw_476 (ws_p (List.mem_of_getElem? (i := 9) rfl) rfl) qw_474  rfl [] rfl hl.1 (Nat.le_of_ble_eq_true rfl) ⟨Nat.le_of_ble_eq_true rfl, Nat.le_of_ble_eq_true rfl⟩ dX6_cost_10 ⟨Nat.le_of_ble_eq_true rfl, Nat.le_of_ble_eq_true rfl⟩ (fun X ce q9 H locs hp_4 hS hce hcv hcl => ?_) (fun r_5 H locs hp_4 hS => ?_)
    · skip
      obtain ⟨rfl, hno, hH⟩ := hp_4
      rw [← hQ]
      refine x_outX C het hS hce hcv hcl (Nat.le_of_ble_eq_true rfl) (Nat.le_of_ble_eq_true rfl) ?_
      rw [hpx]
      exact ⟨Or.inr ⟨rfl, ⟨p_3, hp_3, rfl⟩, hno⟩, hH⟩
    · skip
      obtain ⟨rfl, hQk, hH⟩ := hp_4
      refine lv_aload hx hb dX6_cost_13 (lv_at hl 0 rfl) ?_
      refine lv_iload_n hx hb dX6_cost_15 rfl (lv_at hl 3 rfl) ?_
      refine lv_iload_n hx hb dX6_cost_16 rfl (lv_at hl 4 rfl) ?_
      refine x_callV C hH hS (ci := 5) (t := (2, p_3, 0)) (hPT p_3 (by omega)).1 rfl rfl (c_costOf l (E := E) (base := base) (hPT p_3 (by omega)) (x := z) (bit := bit)) hH kX4_costOf qw_526 qw_527 qw_525  rfl [] rfl hl.1 (Nat.le_of_ble_eq_true rfl) ⟨Nat.le_of_ble_eq_true rfl, Nat.le_of_ble_eq_true rfl⟩ dX6_cost_17 ⟨Nat.le_of_ble_eq_true rfl, Nat.le_of_ble_eq_true rfl⟩ (fun r_7 H locs hp_6 hS => ?_)
      obtain ⟨rfl, hH⟩ := hp_6
      rw [← hQ]
      refine vx_ret (x_reti C rfl hS (Nat.le_of_ble_eq_true rfl) (Nat.le_of_ble_eq_true rfl) dX6_cost_20 ?_)
      rw [hpost]
      exact ⟨p_3, hp_3, rfl, hQk, rfl, hH⟩
end
section
set_option maxHeartbeats 4000000 in
set_option maxRecDepth 100000 in
theorem c_Card (l : Launch) {E : xE} {base : Nat} {al : Tg → Nat} {w : Tg → Option va_E} {t : Tg} {a : Int32} {b : Int32} {x : Int32} (ht : w t = some (.inr (2, [.int a, .int b]))) : xMet l yX1_init cX1_init 2 none ({ frames := 1, cells := 0, slots := 0, locals := 12 } : Room) E base [.ref (al t), .int x] (fun H => xH E base al w H) (fun r H => r = none ∧ xH E base al (xu w t (.inr (2, [.int x, .int (-1)]))) H) := by
  refine xMet.of (by decide +kernel) "Dataroom$Card" rfl (Nat.le_of_ble_eq_true rfl) ?_
  intro p9 e9 s m9 below meth c9 ls C hin hP hS hl
  have hx := C.hx
  have hb := C.hb
  have hH := hP
  have hl : lv_has ls 2 [(0, .ref (al t)), (1, .int x)] := hl
  obtain ⟨post, hpost⟩ : ∃ zz9 : Option Value → Heap → Prop, zz9 = (fun r H => r = none ∧ xH E base al (xu w t (.inr (2, [.int x, .int (-1)]))) H) := ⟨_, rfl⟩
  rw [← hpost]
  generalize hQ : (MQ below (xQ base post) ([.ref (al t), .int x] : List Value).toArray s 0 0 (xA base)) = Q
  refine lv_aload_n hx hb dX1_init_0 rfl (lv_at hl 0 rfl) ?_
  refine x_init C qw_212 qw_31 qw_32 hl.1 dX1_init_1 (Nat.le_of_ble_eq_true rfl) (Nat.le_of_ble_eq_true rfl) ?_
  refine lv_aload_n hx hb dX1_init_4 rfl (lv_at hl 0 rfl) ?_
  refine lv_iconst (v := (-1)) hx hb dX1_init_5 (by decide +kernel) ?_
  refine x_put C hH hS (ci := 2) (T := TX1) (N := 2) (fs' := [.int a, .int (-1)]) ht rfl iWX1 tyX1 tyX1_ok nmX1 1 (by decide) qw_215 rfl rfl rfl rfl (Nat.le_of_ble_eq_true rfl) rfl dX1_init_6 (fun H locs hH hS => ?_)
  have ht : (xu w t (.inr (2, [.int a, .int (-1)]))) t = some (.inr (2, [.int a, .int (-1)])) := xu_self _ _ _
  refine lv_aload_n hx hb dX1_init_9 rfl (lv_at hl 0 rfl) ?_
  refine lv_iload_n hx hb dX1_init_10 rfl (lv_at hl 1 rfl) ?_
  refine x_put C hH hS (ci := 2) (T := TX1) (N := 2) (fs' := [.int x, .int (-1)]) ht rfl iWX1 tyX1 tyX1_ok nmX1 0 (by decide) qw_213 rfl rfl rfl rfl (Nat.le_of_ble_eq_true rfl) rfl dX1_init_11 (fun H locs hH hS => ?_)
  have ht : (xu (xu w t (.inr (2, [.int a, .int (-1)]))) t (.inr (2, [.int x, .int (-1)]))) t = some (.inr (2, [.int x, .int (-1)])) := xu_self _ _ _
  rw [← hQ]
  refine x_retv C hS (Nat.le_of_ble_eq_true rfl) (Nat.le_of_ble_eq_true rfl) dX1_init_14 ?_
  rw [hpost]
  exact ⟨rfl, by simpa only [xu_uu] using hH⟩

set_option maxHeartbeats 4000000 in
set_option maxRecDepth 100000 in
theorem c_Right (l : Launch) {E : xE} {base : Nat} {al : Tg → Nat} {w : Tg → Option va_E} {t : Tg} {a : Int32} {b : Int32} {c : Int32} {x : Int32} {y : Int32} {z : Int32} (ht : w t = some (.inr (6, [.int a, .int b, .int c]))) : xMet l yX5_init cX5_init 4 none ({ frames := 1, cells := 0, slots := 0, locals := 12 } : Room) E base [.ref (al t), .int x, .int y, .int z] (fun H => xH E base al w H) (fun r H => r = none ∧ xH E base al (xu w t (.inr (6, [.int x, .int y, .int z]))) H) := by
  refine xMet.of (by decide +kernel) "Dataroom$Right" rfl (Nat.le_of_ble_eq_true rfl) ?_
  intro p9 e9 s m9 below meth c9 ls C hin hP hS hl
  have hx := C.hx
  have hb := C.hb
  have hH := hP
  have hl : lv_has ls 4 [(0, .ref (al t)), (1, .int x), (2, .int y), (3, .int z)] := hl
  obtain ⟨post, hpost⟩ : ∃ zz9 : Option Value → Heap → Prop, zz9 = (fun r H => r = none ∧ xH E base al (xu w t (.inr (6, [.int x, .int y, .int z]))) H) := ⟨_, rfl⟩
  rw [← hpost]
  generalize hQ : (MQ below (xQ base post) ([.ref (al t), .int x, .int y, .int z] : List Value).toArray s 0 0 (xA base)) = Q
  refine lv_aload_n hx hb dX5_init_0 rfl (lv_at hl 0 rfl) ?_
  refine x_init C qw_426 qw_31 qw_32 hl.1 dX5_init_1 (Nat.le_of_ble_eq_true rfl) (Nat.le_of_ble_eq_true rfl) ?_
  refine lv_aload_n hx hb dX5_init_4 rfl (lv_at hl 0 rfl) ?_
  refine lv_iload_n hx hb dX5_init_5 rfl (lv_at hl 1 rfl) ?_
  refine x_putF C hH hS (ci := 6) (T := TX5) (N := 3) (fs' := [.int x, .int b, .int c]) ht rfl iWX5 tyX5 tyX5_ok nmX5 0 (by decide) qw_427 rfl rfl hin rfl rfl rfl (Nat.le_of_ble_eq_true rfl) rfl dX5_init_6 (fun H locs hH hS => ?_)
  have ht : (xu w t (.inr (6, [.int x, .int b, .int c]))) t = some (.inr (6, [.int x, .int b, .int c])) := xu_self _ _ _
  refine lv_aload_n hx hb dX5_init_9 rfl (lv_at hl 0 rfl) ?_
  refine lv_iload_n hx hb dX5_init_10 rfl (lv_at hl 2 rfl) ?_
  refine x_putF C hH hS (ci := 6) (T := TX5) (N := 3) (fs' := [.int x, .int y, .int c]) ht rfl iWX5 tyX5 tyX5_ok nmX5 1 (by decide) qw_428 rfl rfl hin rfl rfl rfl (Nat.le_of_ble_eq_true rfl) rfl dX5_init_11 (fun H locs hH hS => ?_)
  have ht : (xu (xu w t (.inr (6, [.int x, .int b, .int c]))) t (.inr (6, [.int x, .int y, .int c]))) t = some (.inr (6, [.int x, .int y, .int c])) := xu_self _ _ _
  refine lv_aload_n hx hb dX5_init_14 rfl (lv_at hl 0 rfl) ?_
  refine lv_iload_n hx hb dX5_init_15 rfl (lv_at hl 3 rfl) ?_
  refine x_putF C hH hS (ci := 6) (T := TX5) (N := 3) (fs' := [.int x, .int y, .int z]) ht rfl iWX5 tyX5 tyX5_ok nmX5 2 (by decide) qw_429 rfl rfl hin rfl rfl rfl (Nat.le_of_ble_eq_true rfl) rfl dX5_init_16 (fun H locs hH hS => ?_)
  have ht : (xu (xu (xu w t (.inr (6, [.int x, .int b, .int c]))) t (.inr (6, [.int x, .int y, .int c]))) t (.inr (6, [.int x, .int y, .int z]))) t = some (.inr (6, [.int x, .int y, .int z])) := xu_self _ _ _
  rw [← hQ]
  refine x_retv C hS (Nat.le_of_ble_eq_true rfl) (Nat.le_of_ble_eq_true rfl) dX5_init_19 ?_
  rw [hpost]
  exact ⟨rfl, by simpa only [xu_uu] using hH⟩

set_option maxHeartbeats 4000000 in
set_option maxRecDepth 100000 in
theorem c_Answer (l : Launch) {E : xE} {base : Nat} {al : Tg → Nat} {w : Tg → Option va_E} {t : Tg} {a : Int32} {b : Int32} {c : Int32} {d : Int32} {f : Int32} {g : Int32} {x : Int32} {y : Int32} {z : Int32} {u : Int32} {v : Int32} (ht : w t = some (.inr (1, [.int a, .int b, .int c, .int d, .int f, .int g]))) : xMet l yX0_init cX0_init 6 none ({ frames := 1, cells := 0, slots := 0, locals := 12 } : Room) E base [.ref (al t), .int x, .int y, .int z, .int u, .int v] (fun H => xH E base al w H) (fun r H => r = none ∧ xH E base al (xu w t (.inr (1, [.int x, .int y, .int z, .int u, .int v, .int g]))) H) := by
  refine xMet.of (by decide +kernel) "Dataroom$Answer" rfl (Nat.le_of_ble_eq_true rfl) ?_
  intro p9 e9 s m9 below meth c9 ls C hin hP hS hl
  have hx := C.hx
  have hb := C.hb
  have hH := hP
  have hl : lv_has ls 6 [(0, .ref (al t)), (1, .int x), (2, .int y), (3, .int z), (4, .int u), (5, .int v)] := hl
  obtain ⟨post, hpost⟩ : ∃ zz9 : Option Value → Heap → Prop, zz9 = (fun r H => r = none ∧ xH E base al (xu w t (.inr (1, [.int x, .int y, .int z, .int u, .int v, .int g]))) H) := ⟨_, rfl⟩
  rw [← hpost]
  generalize hQ : (MQ below (xQ base post) ([.ref (al t), .int x, .int y, .int z, .int u, .int v] : List Value).toArray s 0 0 (xA base)) = Q
  refine lv_aload_n hx hb dX0_init_0 rfl (lv_at hl 0 rfl) ?_
  refine x_init C qw_542 qw_31 qw_32 hl.1 dX0_init_1 (Nat.le_of_ble_eq_true rfl) (Nat.le_of_ble_eq_true rfl) ?_
  refine lv_aload_n hx hb dX0_init_4 rfl (lv_at hl 0 rfl) ?_
  refine lv_iload_n hx hb dX0_init_5 rfl (lv_at hl 1 rfl) ?_
  refine x_putF C hH hS (ci := 1) (T := TX0) (N := 6) (fs' := [.int x, .int b, .int c, .int d, .int f, .int g]) ht rfl iWX0 tyX0 tyX0_ok nmX0 0 (by decide) qw_543 rfl rfl hin rfl rfl rfl (Nat.le_of_ble_eq_true rfl) rfl dX0_init_6 (fun H locs hH hS => ?_)
  have ht : (xu w t (.inr (1, [.int x, .int b, .int c, .int d, .int f, .int g]))) t = some (.inr (1, [.int x, .int b, .int c, .int d, .int f, .int g])) := xu_self _ _ _
  refine lv_aload_n hx hb dX0_init_9 rfl (lv_at hl 0 rfl) ?_
  refine lv_iload_n hx hb dX0_init_10 rfl (lv_at hl 2 rfl) ?_
  refine x_putF C hH hS (ci := 1) (T := TX0) (N := 6) (fs' := [.int x, .int y, .int c, .int d, .int f, .int g]) ht rfl iWX0 tyX0 tyX0_ok nmX0 1 (by decide) qw_544 rfl rfl hin rfl rfl rfl (Nat.le_of_ble_eq_true rfl) rfl dX0_init_11 (fun H locs hH hS => ?_)
  have ht : (xu (xu w t (.inr (1, [.int x, .int b, .int c, .int d, .int f, .int g]))) t (.inr (1, [.int x, .int y, .int c, .int d, .int f, .int g]))) t = some (.inr (1, [.int x, .int y, .int c, .int d, .int f, .int g])) := xu_self _ _ _
  refine lv_aload_n hx hb dX0_init_14 rfl (lv_at hl 0 rfl) ?_
  refine lv_iload_n hx hb dX0_init_15 rfl (lv_at hl 3 rfl) ?_
  refine x_putF C hH hS (ci := 1) (T := TX0) (N := 6) (fs' := [.int x, .int y, .int z, .int d, .int f, .int g]) ht rfl iWX0 tyX0 tyX0_ok nmX0 2 (by decide) qw_546 rfl rfl hin rfl rfl rfl (Nat.le_of_ble_eq_true rfl) rfl dX0_init_16 (fun H locs hH hS => ?_)
  have ht : (xu (xu (xu w t (.inr (1, [.int x, .int b, .int c, .int d, .int f, .int g]))) t (.inr (1, [.int x, .int y, .int c, .int d, .int f, .int g]))) t (.inr (1, [.int x, .int y, .int z, .int d, .int f, .int g]))) t = some (.inr (1, [.int x, .int y, .int z, .int d, .int f, .int g])) := xu_self _ _ _
  refine lv_aload_n hx hb dX0_init_19 rfl (lv_at hl 0 rfl) ?_
  refine lv_iload hx hb dX0_init_20 (lv_at hl 4 rfl) ?_
  refine x_putF C hH hS (ci := 1) (T := TX0) (N := 6) (fs' := [.int x, .int y, .int z, .int u, .int f, .int g]) ht rfl iWX0 tyX0 tyX0_ok nmX0 3 (by decide) qw_548 rfl rfl hin rfl rfl rfl (Nat.le_of_ble_eq_true rfl) rfl dX0_init_22 (fun H locs hH hS => ?_)
  have ht : (xu (xu (xu (xu w t (.inr (1, [.int x, .int b, .int c, .int d, .int f, .int g]))) t (.inr (1, [.int x, .int y, .int c, .int d, .int f, .int g]))) t (.inr (1, [.int x, .int y, .int z, .int d, .int f, .int g]))) t (.inr (1, [.int x, .int y, .int z, .int u, .int f, .int g]))) t = some (.inr (1, [.int x, .int y, .int z, .int u, .int f, .int g])) := xu_self _ _ _
  refine lv_aload_n hx hb dX0_init_25 rfl (lv_at hl 0 rfl) ?_
  refine lv_iload hx hb dX0_init_26 (lv_at hl 5 rfl) ?_
  refine x_putF C hH hS (ci := 1) (T := TX0) (N := 6) (fs' := [.int x, .int y, .int z, .int u, .int v, .int g]) ht rfl iWX0 tyX0 tyX0_ok nmX0 4 (by decide) qw_549 rfl rfl hin rfl rfl rfl (Nat.le_of_ble_eq_true rfl) rfl dX0_init_28 (fun H locs hH hS => ?_)
  have ht : (xu (xu (xu (xu (xu w t (.inr (1, [.int x, .int b, .int c, .int d, .int f, .int g]))) t (.inr (1, [.int x, .int y, .int c, .int d, .int f, .int g]))) t (.inr (1, [.int x, .int y, .int z, .int d, .int f, .int g]))) t (.inr (1, [.int x, .int y, .int z, .int u, .int f, .int g]))) t (.inr (1, [.int x, .int y, .int z, .int u, .int v, .int g]))) t = some (.inr (1, [.int x, .int y, .int z, .int u, .int v, .int g])) := xu_self _ _ _
  rw [← hQ]
  refine x_retv C hS (Nat.le_of_ble_eq_true rfl) (Nat.le_of_ble_eq_true rfl) dX0_init_31 ?_
  rw [hpost]
  exact ⟨rfl, by simpa only [xu_uu] using hH⟩

set_option maxHeartbeats 4000000 in
set_option maxRecDepth 100000 in
theorem c_Knowledge (l : Launch) {E : xE} {base : Nat} {al : Tg → Nat} {w : Tg → Option va_E} {t tr : Tg} {n : Int32} (hne : t ≠ tr) (ht : w t = some (.inr (3, [.null, .int n]))) : xMet l yX2_init cX2_init 1 none ({ frames := 1, cells := 1, slots := 16, locals := 12 } : Room) E base [.ref (al t)] (fun H => xH E base al w H) (fun r H => r = none ∧ ∃ q : Nat, xH E base (xa al tr q) (xu (xu w tr (.inl (E.2.1 0, 16, .inl (fun _ => 0)))) t (.inr (3, [.ref q, .int n]))) H) := by
  refine xMet.of (by decide +kernel) "Dataroom$Knowledge" rfl (Nat.le_of_ble_eq_true rfl) ?_
  intro p9 e9 s m9 below meth c9 ls C hin hP hS hl
  have hx := C.hx
  have hb := C.hb
  have hH := hP
  have hl : lv_has ls 1 [(0, .ref (al t))] := hl
  obtain ⟨post, hpost⟩ : ∃ zz9 : Option Value → Heap → Prop, zz9 = (fun r H => r = none ∧ ∃ q : Nat, xH E base (xa al tr q) (xu (xu w tr (.inl (E.2.1 0, 16, .inl (fun _ => 0)))) t (.inr (3, [.ref q, .int n]))) H) := ⟨_, rfl⟩
  rw [← hpost]
  generalize hQ : (MQ below (xQ base post) ([.ref (al t)] : List Value).toArray s 1 16 (xA base)) = Q
  refine lv_aload_n hx hb dX2_init_0 rfl (lv_at hl 0 rfl) ?_
  refine x_init C qw_64 qw_31 qw_32 hl.1 dX2_init_1 (Nat.le_of_ble_eq_true rfl) (Nat.le_of_ble_eq_true rfl) ?_
  refine lv_aload_n hx hb dX2_init_4 rfl (lv_at hl 0 rfl) ?_
  refine lv_bipush (v := nI 16) hx hb dX2_init_5 (by decide +kernel) ?_
  refine x_newa C hH hS tr 0 (atype := .int) qw_73 rfl rfl (fun _ h => by cases h) (a0 := (16, .inl (fun _ => 0))) (fun cA => rfl) rfl (by omega) (by decide) (by decide) (by decide) dX2_init_7 (fun G1_ hH hS => ?_)
  obtain ⟨q_1, hq_1⟩ : ∃ zz9 : Nat, zz9 = xa al tr s.heap.size tr := ⟨_, rfl⟩
  obtain ⟨alq_1, halq_1⟩ : ∃ zz9 : Tg → Nat, zz9 = xa al tr s.heap.size := ⟨_, rfl⟩
  rw [← halq_1] at hH
  rw [← hq_1]
  have ad_2 : alq_1 t = al t := by rw [halq_1, xa_ne hne]
  have ht := xu_of (t := tr) (e := .inl (E.2.1 0, 16, .inl (fun _ => 0))) hne ht
  have ad_4 : alq_1 tr = q_1 := by rw [halq_1, hq_1]
  have hn_3 : (xu w tr (.inl (E.2.1 0, 16, .inl (fun _ => 0)))) tr = some (.inl (E.2.1 0, 16, .inl (fun _ => 0))) := xu_self _ _ _
  refine lv_adr2 (ad_2).symm ?_
  refine x_putF C hH hS (ci := 3) (T := TX2) (N := 2) (fs' := [.ref q_1, .int n]) ht rfl iWX2 tyX2 tyX2_ok nmX2 0 (by decide) qw_65 rfl rfl hin rfl rfl rfl (Nat.le_of_ble_eq_true rfl) rfl dX2_init_9 (fun H locs hH hS => ?_)
  have hn_3 := xu_of (t := t) (e := .inr (3, [.ref q_1, .int n])) (Ne.symm hne) hn_3
  have ht : (xu (xu w tr (.inl (E.2.1 0, 16, .inl (fun _ => 0)))) t (.inr (3, [.ref q_1, .int n]))) t = some (.inr (3, [.ref q_1, .int n])) := xu_self _ _ _
  rw [← hQ]
  refine x_retv C hS (Nat.le_of_ble_eq_true rfl) (Nat.le_of_ble_eq_true rfl) dX2_init_12 ?_
  rw [hpost]
  have hq9 : s.heap.size = q_1 := by rw [hq_1, xa_self]
  rw [halq_1, hq9] at hH
  exact ⟨rfl, q_1, hH⟩

set_option maxHeartbeats 4000000 in
set_option maxRecDepth 100000 in
theorem c_AbsC (l : Launch) {E : xE} {base : Nat} {al : Tg → Nat} {w : Tg → Option va_E} {t : Tg} {a b : Int32} (ht : w t = some (.inr (0, [.int a, .null, .int b]))) : xMet l yJxa1e45_init_da8c8 cJxa1e45_init_da8c8 1 none ({ frames := 1, cells := 0, slots := 0, locals := 12 } : Room) E base [.ref (al t)] (fun H => xH E base al w H) (fun r H => r = none ∧ xH E base al w H) := by
  refine xMet.of (by decide +kernel) "java/util/AbstractCollection" rfl (Nat.le_of_ble_eq_true rfl) ?_
  intro p9 e9 s m9 below meth c9 ls C hin hP hS hl
  have hx := C.hx
  have hb := C.hb
  have hH := hP
  have hl : lv_has ls 1 [(0, .ref (al t))] := hl
  obtain ⟨post, hpost⟩ : ∃ zz9 : Option Value → Heap → Prop, zz9 = (fun r H => r = none ∧ xH E base al w H) := ⟨_, rfl⟩
  rw [← hpost]
  generalize hQ : (MQ below (xQ base post) ([.ref (al t)] : List Value).toArray s 0 0 (xA base)) = Q
  refine lv_aload_n hx hb dJxa1e45_init_da8c8_0 rfl (lv_at hl 0 rfl) ?_
  refine x_init C qw_44 qw_31 qw_32 hl.1 dJxa1e45_init_da8c8_1 (Nat.le_of_ble_eq_true rfl) (Nat.le_of_ble_eq_true rfl) ?_
  rw [← hQ]
  refine x_retv C hS (Nat.le_of_ble_eq_true rfl) (Nat.le_of_ble_eq_true rfl) dJxa1e45_init_da8c8_4 ?_
  rw [hpost]
  exact ⟨rfl, hH⟩

set_option maxHeartbeats 4000000 in
set_option maxRecDepth 100000 in
theorem c_AbsL (l : Launch) {E : xE} {base : Nat} {al : Tg → Nat} {w : Tg → Option va_E} {t : Tg} {a b : Int32} (ht : w t = some (.inr (0, [.int a, .null, .int b]))) : xMet l yJxc12de_init_da8c8 cJxc12de_init_da8c8 1 none ({ frames := 2, cells := 0, slots := 0, locals := 32 } : Room) E base [.ref (al t)] (fun H => xH E base al w H) (fun r H => r = none ∧ xH E base al (xu w t (.inr (0, [.int (nI 0), .null, .int b]))) H) := by
  refine xMet.of (by decide +kernel) "java/util/AbstractList" rfl (Nat.le_of_ble_eq_true rfl) ?_
  intro p9 e9 s m9 below meth c9 ls C hin hP hS hl
  have hx := C.hx
  have hb := C.hb
  have hH := hP
  have hl : lv_has ls 1 [(0, .ref (al t))] := hl
  obtain ⟨post, hpost⟩ : ∃ zz9 : Option Value → Heap → Prop, zz9 = (fun r H => r = none ∧ xH E base al (xu w t (.inr (0, [.int (nI 0), .null, .int b]))) H) := ⟨_, rfl⟩
  rw [← hpost]
  generalize hQ : (MQ below (xQ base post) ([.ref (al t)] : List Value).toArray s 0 0 (xA base)) = Q
  refine lv_aload_n hx hb dJxc12de_init_da8c8_0 rfl (lv_at hl 0 rfl) ?_
  refine x_callI C hS (c_AbsC l (E := E) (base := base) ht) hH kJxa1e45_init_da8c8 qw_42 rfl qw_41  rfl [] rfl hl.1 (Nat.le_of_ble_eq_true rfl) ⟨Nat.le_of_ble_eq_true rfl, Nat.le_of_ble_eq_true rfl⟩ dJxc12de_init_da8c8_1 ⟨Nat.le_of_ble_eq_true rfl, Nat.le_of_ble_eq_true rfl⟩ (fun r_2 H locs hp_1 hS => ?_)
  obtain ⟨rfl, hH⟩ := hp_1
  refine lv_aload_n hx hb dJxc12de_init_da8c8_4 rfl (lv_at hl 0 rfl) ?_
  refine lv_iconst (v := nI 0) hx hb dJxc12de_init_da8c8_5 (by decide +kernel) ?_
  refine x_put C hH hS (ci := 0) (T := TJx4a65c) (N := 3) (fs' := [.int (nI 0), .null, .int b]) ht rfl iWJx4a65c tyJx4a65c tyJx4a65c_ok nmJx4a65c 0 (by decide) qw_49 rfl rfl rfl rfl (Nat.le_of_ble_eq_true rfl) rfl dJxc12de_init_da8c8_6 (fun H locs hH hS => ?_)
  have ht : (xu w t (.inr (0, [.int (nI 0), .null, .int b]))) t = some (.inr (0, [.int (nI 0), .null, .int b])) := xu_self _ _ _
  rw [← hQ]
  refine x_retv C hS (Nat.le_of_ble_eq_true rfl) (Nat.le_of_ble_eq_true rfl) dJxc12de_init_da8c8_9 ?_
  rw [hpost]
  exact ⟨rfl, hH⟩

set_option maxHeartbeats 4000000 in
set_option maxRecDepth 100000 in
theorem c_List (l : Launch) {E : xE} {base : Nat} {al : Tg → Nat} {w : Tg → Option va_E} {t : Tg} {a b : Int32} (ht : w t = some (.inr (0, [.int a, .null, .int b]))) : xMet l yJx4a65c_init_da8c8 cJx4a65c_init_da8c8 1 none ({ frames := 3, cells := 0, slots := 0, locals := 52 } : Room) E base [.ref (al t)] (fun H => xH E base al w H) (fun r H => r = none ∧ xH E base al (xu w t (.inr (0, [.int (nI 0), .ref (E.2.2 1), .int b]))) H) := by
  refine xMet.of (by decide +kernel) "java/util/ArrayList" rfl (Nat.le_of_ble_eq_true rfl) ?_
  intro p9 e9 s m9 below meth c9 ls C hin hP hS hl
  have hx := C.hx
  have hb := C.hb
  have hH := hP
  have hl : lv_has ls 1 [(0, .ref (al t))] := hl
  obtain ⟨post, hpost⟩ : ∃ zz9 : Option Value → Heap → Prop, zz9 = (fun r H => r = none ∧ xH E base al (xu w t (.inr (0, [.int (nI 0), .ref (E.2.2 1), .int b]))) H) := ⟨_, rfl⟩
  rw [← hpost]
  generalize hQ : (MQ below (xQ base post) ([.ref (al t)] : List Value).toArray s 0 0 (xA base)) = Q
  refine lv_aload_n hx hb dJx4a65c_init_da8c8_0 rfl (lv_at hl 0 rfl) ?_
  refine x_callI C hS (c_AbsL l (E := E) (base := base) ht) hH kJxc12de_init_da8c8 qw_39 rfl qw_38  rfl [] rfl hl.1 (Nat.le_of_ble_eq_true rfl) ⟨Nat.le_of_ble_eq_true rfl, Nat.le_of_ble_eq_true rfl⟩ dJx4a65c_init_da8c8_1 ⟨Nat.le_of_ble_eq_true rfl, Nat.le_of_ble_eq_true rfl⟩ (fun r_2 H locs hp_1 hS => ?_)
  obtain ⟨rfl, hH⟩ := hp_1
  have ht := xu_self w t (.inr (0, [.int (nI 0), .null, .int b]))
  refine lv_aload_n hx hb dJx4a65c_init_da8c8_4 rfl (lv_at hl 0 rfl) ?_
  refine x_getsE C hS qw_45 dJx4a65c_init_da8c8_5 ?_
  refine x_put C hH hS (ci := 0) (T := TJx4a65c) (N := 3) (fs' := [.int (nI 0), .ref (E.2.2 1), .int b]) ht rfl iWJx4a65c tyJx4a65c tyJx4a65c_ok nmJx4a65c 1 (by decide) qw_47 rfl rfl rfl rfl (Nat.le_of_ble_eq_true rfl) rfl dJx4a65c_init_da8c8_8 (fun H locs hH hS => ?_)
  have ht : (xu (xu w t (.inr (0, [.int (nI 0), .null, .int b]))) t (.inr (0, [.int (nI 0), .ref (E.2.2 1), .int b]))) t = some (.inr (0, [.int (nI 0), .ref (E.2.2 1), .int b])) := xu_self _ _ _
  rw [← hQ]
  refine x_retv C hS (Nat.le_of_ble_eq_true rfl) (Nat.le_of_ble_eq_true rfl) dJx4a65c_init_da8c8_11 ?_
  rw [hpost]
  exact ⟨rfl, by rw [xu_uu] at hH; exact hH⟩

set_option maxHeartbeats 4000000 in
set_option maxRecDepth 100000 in
theorem c_Marks (l : Launch) {E : xE} {base : Nat} {al : Tg → Nat} {w : Tg → Option va_E} {t tr : Tg} {n : Int32} (hne : t ≠ tr) (ht : w t = some (.inr (4, [.null, .int n]))) : xMet l yX3_init cX3_init 1 none ({ frames := 1, cells := 1, slots := 1024, locals := 12 } : Room) E base [.ref (al t)] (fun H => xH E base al w H) (fun r H => r = none ∧ ∃ q : Nat, xH E base (xa al tr q) (xu (xu w tr (.inl (E.2.1 1, 1024, .inr (.inl (fun _ => 0))))) t (.inr (4, [.ref q, .int n]))) H) := by
  refine xMet.of (by decide +kernel) "Dataroom$Marks" rfl (Nat.le_of_ble_eq_true rfl) ?_
  intro p9 e9 s m9 below meth c9 ls C hin hP hS hl
  have hx := C.hx
  have hb := C.hb
  have hH := hP
  have hl : lv_has ls 1 [(0, .ref (al t))] := hl
  obtain ⟨post, hpost⟩ : ∃ zz9 : Option Value → Heap → Prop, zz9 = (fun r H => r = none ∧ ∃ q : Nat, xH E base (xa al tr q) (xu (xu w tr (.inl (E.2.1 1, 1024, .inr (.inl (fun _ => 0))))) t (.inr (4, [.ref q, .int n]))) H) := ⟨_, rfl⟩
  rw [← hpost]
  generalize hQ : (MQ below (xQ base post) ([.ref (al t)] : List Value).toArray s 1 1024 (xA base)) = Q
  refine lv_aload_n hx hb dX3_init_0 rfl (lv_at hl 0 rfl) ?_
  refine x_init C qw_79 qw_31 qw_32 hl.1 dX3_init_1 (Nat.le_of_ble_eq_true rfl) (Nat.le_of_ble_eq_true rfl) ?_
  refine lv_aload_n hx hb dX3_init_4 rfl (lv_at hl 0 rfl) ?_
  refine lv_sipush (v := nI 1024) hx hb dX3_init_5 (by decide +kernel) ?_
  refine x_newa C hH hS tr 1 (atype := .long) qw_87 rfl rfl (fun _ h => by cases h) (a0 := (1024, .inr (.inl (fun _ => 0)))) (fun cA => rfl) rfl (by omega) (by decide) (by decide) (by decide) dX3_init_8 (fun G1_ hH hS => ?_)
  obtain ⟨q_1, hq_1⟩ : ∃ zz9 : Nat, zz9 = xa al tr s.heap.size tr := ⟨_, rfl⟩
  obtain ⟨alq_1, halq_1⟩ : ∃ zz9 : Tg → Nat, zz9 = xa al tr s.heap.size := ⟨_, rfl⟩
  rw [← halq_1] at hH
  rw [← hq_1]
  have ad_2 : alq_1 t = al t := by rw [halq_1, xa_ne hne]
  have ht := xu_of (t := tr) (e := .inl (E.2.1 1, 1024, .inr (.inl (fun _ => 0)))) hne ht
  have ad_4 : alq_1 tr = q_1 := by rw [halq_1, hq_1]
  have hn_3 : (xu w tr (.inl (E.2.1 1, 1024, .inr (.inl (fun _ => 0))))) tr = some (.inl (E.2.1 1, 1024, .inr (.inl (fun _ => 0)))) := xu_self _ _ _
  refine lv_adr2 (ad_2).symm ?_
  refine x_putF C hH hS (ci := 4) (T := TX3) (N := 2) (fs' := [.ref q_1, .int n]) ht rfl iWX3 tyX3 tyX3_ok nmX3 0 (by decide) qw_80 rfl rfl hin rfl rfl rfl (Nat.le_of_ble_eq_true rfl) rfl dX3_init_10 (fun H locs hH hS => ?_)
  have hn_3 := xu_of (t := t) (e := .inr (4, [.ref q_1, .int n])) (Ne.symm hne) hn_3
  have ht : (xu (xu w tr (.inl (E.2.1 1, 1024, .inr (.inl (fun _ => 0))))) t (.inr (4, [.ref q_1, .int n]))) t = some (.inr (4, [.ref q_1, .int n])) := xu_self _ _ _
  rw [← hQ]
  refine x_retv C hS (Nat.le_of_ble_eq_true rfl) (Nat.le_of_ble_eq_true rfl) dX3_init_13 ?_
  rw [hpost]
  have hq9 : s.heap.size = q_1 := by rw [hq_1, xa_self]
  rw [halq_1, hq9] at hH
  exact ⟨rfl, q_1, hH⟩
end
section
/-! rows for ArrayList's growth: a tag moved, System.arraycopy of references, getClass of an Object[] -/
def xmv (w : Tg → Option va_E) (tA tT : Tg) : Tg → Option va_E := fun t => if t = tA then w tT else if t = tT then none else w t
theorem xH.ren {E : xE} {base : Nat} {al : Tg → Nat} {w : Tg → Option va_E} {H : Heap} (h : xH E base al w H) (tA tT : Tg) : xH E base (xa al tA (al tT)) (xmv w tA tT) H := by
  have key : ∀ t e, xmv w tA tT t = some e → ∃ u, w u = some e ∧ xa al tA (al tT) t = al u ∧ (t = tA ∧ u = tT ∨ t ≠ tA ∧ t ≠ tT ∧ u = t) := by
    intro t e ht
    unfold xmv at ht
    by_cases k : t = tA
    · rw [if_pos k] at ht
      exact ⟨tT, ht, by rw [k, xa_self], Or.inl ⟨k, rfl⟩⟩
    · rw [if_neg k] at ht
      by_cases k2 : t = tT
      · rw [if_pos k2] at ht; cases ht
      · rw [if_neg k2] at ht
        exact ⟨t, ht, xa_ne k, Or.inr ⟨k, k2, rfl⟩⟩
  refine ⟨fun t e ht => ?_, fun t t' e e' ht ht' he => ?_⟩
  · obtain ⟨u, hu, ea, -⟩ := key t e ht
    rw [ea]
    exact h.1 u e hu
  · obtain ⟨u, hu, ea, k⟩ := key t e ht
    obtain ⟨u', hu', ea', k'⟩ := key t' e' ht'
    rw [ea, ea'] at he
    have := h.2 u u' e e' hu hu' he
    rcases k with ⟨k1, k2⟩ | ⟨k1, k2, k3⟩ <;> rcases k' with ⟨q1, q2⟩ | ⟨q1, q2, q3⟩
    · rw [k1, q1]
    · rw [q3, k2] at this; exact absurd this.symm q2
    · rw [k3, q2] at this; exact absurd this k2
    · rw [← k3, ← q3]; exact this
section XR4
variable {p : Program} {l : Launch} {e : Env} {R : Room} {s : State} {m : MethodId} {args : Array Value} {below : List Frame} {meth : Method} {c : Code} {H : Heap} {locs : List Loc} {cells slots : Nat} {Q : State → Prop}
variable {cc : ByteArray} {pc nL : Nat} {ls : Array Slot} {rest : List Value} {own : String} {ret : Option FieldType} {E : xE} {base : Nat} {al : Tg → Nat} {w : Tg → Option va_E}
theorem x_mmax (C : XC p s m args meth c own cc nL ret E base) {index : Nat} (hl : Cond.methodLink own index Lib.Math.max.name ∈ WS) (hst : Cond.static Lib.Math.max.name ∈ WS) (hini : Cond.initialized "java/lang/Math" ∈ WS) (hcode : Cond.code Lib.Math.max.name Lib.Math.max.code 2 (some .int) ∈ WS) (hsize : ls.size = nL) (hf : 1 ≤ R.frames) (hlo : (rest.map fun v => v.category).sum + 13 ≤ R.locals) (hc : cells ≤ R.cells) (hs : slots ≤ R.slots) {x y : Int32} (hdg : decode cc pc = .ok (.invokestatic index, 3)) {v : Int32} (hv : (if x < y then y else x) = v)
    (kk : W p l e R s m args below meth c H locs cells slots Q (F0 m (pc + 3) ls (.int v :: rest))) : W p l e R s m args below meth c H locs cells slots Q (F0 m pc ls (.int y :: .int x :: rest)) := by
  subst hv
  exact va_mmax C.hx C.hb (C.2.2.1.trans hsize.symm) C.hown (C.ws _ hl) (C.ws _ hst) (C.ws _ hini) (C.ws _ hcode) hf hlo hc hs hdg kk
theorem x_mmin (C : XC p s m args meth c own cc nL ret E base) {index : Nat} (hl : Cond.methodLink own index Lib.Math.min.name ∈ WS) (hst : Cond.static Lib.Math.min.name ∈ WS) (hini : Cond.initialized "java/lang/Math" ∈ WS) (hcode : Cond.code Lib.Math.min.name Lib.Math.min.code 2 (some .int) ∈ WS) (hsize : ls.size = nL) (hf : 1 ≤ R.frames) (hlo : (rest.map fun v => v.category).sum + 13 ≤ R.locals) (hc : cells ≤ R.cells) (hs : slots ≤ R.slots) {x y : Int32} (hdg : decode cc pc = .ok (.invokestatic index, 3)) {v : Int32} (hv : (if y < x then y else x) = v)
    (kk : W p l e R s m args below meth c H locs cells slots Q (F0 m (pc + 3) ls (.int v :: rest))) : W p l e R s m args below meth c H locs cells slots Q (F0 m pc ls (.int y :: .int x :: rest)) := by
  subst hv
  exact va_mmin C.hx C.hb (C.2.2.1.trans hsize.symm) C.hown (C.ws _ hl) (C.ws _ hst) (C.ws _ hini) (C.ws _ hcode) hf hlo hc hs hdg kk
abbrev gcN : MethodName := ⟨"java/lang/Object", "getClass", "()Ljava/lang/Class;"⟩
theorem x_getC (C : XC p s m args meth c own cc nL ret E base) (hH : xH E base al w H) {t : Tg} {n : Nat} {f : Nat → Option Nat} (ht : w t = some (.inl (E.2.1 5, n, .inr (.inr (.inr (.inr f)))))) {index : Nat} (hl : Cond.methodLink own index gcN ∈ WS) (hdc : Cond.declares gcN ∈ NB) (hsel : Cond.selects "[Ljava/lang/Object;" gcN gcN ∈ WS) (hin : Cond.instanceMethod gcN ∈ WS) (hna : Cond.native gcN ∈ NB) (hsize : ls.size = nL) (hf : 1 ≤ R.frames) (hlo : (rest.map fun v => v.category).sum + 14 ≤ R.locals) (hdg : decode cc pc = .ok (.invokevirtual index, 3))
    (kk : W p l e R s m args below meth c H locs cells slots Q (F0 m (pc + 3) ls (.ref (E.2.2 2) :: rest))) : W p l e R s m args below meth c H locs cells slots Q (F0 m pc ls (.ref (al t) :: rest)) := by
  have hfc : s.vm.findClass "[Ljava/lang/Object;" = some (E.2.1 5) := by
    obtain ⟨_, _, -, -, -, h4⟩ := (C.st.K.2 5 _ rfl).2
    exact h4
  exact va_getC C.hx C.hb (C.2.2.1.trans hsize.symm) C.hown (C.ws _ hl) ((C.st.nb hdc).use rfl) (C.ws _ hsel) (C.ws _ hin) ((C.st.nb hna).use rfl) C.st.2.2.2.2.2.1 ⟨_, (hH.1 t _ ht).2, rfl, hfc⟩ hf hlo hdg kk
theorem x_ldcM (C : XC p s m args meth c own cc nL ret E base) {index : Nat} (hl : Cond.classLink own index "[Ljava/lang/Object;" ∈ WS) (hdg : decode cc pc = .ok (.ldc index, 2))
    (kk : W p l e R s m args below meth c H locs cells slots Q (F0 m (pc + 2) ls (.ref (E.2.2 2) :: rest))) : W p l e R s m args below meth c H locs cells slots Q (F0 m pc ls rest) :=
  va_ldcM C.hx C.hb C.hown (C.ws _ hl) C.st.2.2.2.2.2.1 hdg kk
theorem x_copyq (C : XC p s m args meth c own cc nL ret E base) (hH : xH E base al w H) (hS : va_S (xA base) s.heap H locs) {index : Nat} (hl : Cond.methodLink own index arraycopyName ∈ WS) (hna : Cond.native arraycopyName ∈ NB) (hst : Cond.static arraycopyName ∈ WS) (hini : Cond.initialized "java/lang/System" ∈ WS) (hsize : ls.size = nL)
    {t0 t1 : Tg} {n0 n1 k ci : Nat} {f g : Nat → Option Nat} {r : vw_C} (ha0 : w t0 = some (.inl (E.2.1 5, n0, .inr (.inr (.inr (.inr f)))))) (ha1 : w t1 = some (.inl (E.2.1 5, n1, .inr (.inr (.inr (.inr g)))))) (hk0 : k ≤ n0) (hk1 : k ≤ n1) (hb : n1 < 100000) (hc : vwCl[ci]? = some r) (hca : Cond.castable r.1 "java/lang/Object" ∈ NB) (hel : ∀ i : Nat, i < k → ∀ y : Nat, f i = some y → ∃ tv vs, al tv = y ∧ w tv = some (.inr (ci, vs)))
    (hframes : 1 ≤ R.frames) (hlocals : (rest.map fun v => v.category).sum + (nativeFrameWords "java/lang/System" "arraycopy" 5 + 11) ≤ R.locals) (hdg : decode cc pc = .ok (.invokestatic index, 3))
    (kk : ∀ (H1 : Heap) (locs1 : List Loc), xH E base al (xu w t1 (.inl (E.2.1 5, n1, .inr (.inr (.inr (.inr (fun i => if i < k then f i else g i))))))) H1 → va_S (xA base) s.heap H1 locs1 → W p l e R s m args below meth c H1 locs1 cells slots Q (F0 m (pc + 3) ls rest)) : W p l e R s m args below meth c H locs cells slots Q (F0 m pc ls (.int (nI k) :: .int (nI 0) :: .ref (al t1) :: .int (nI 0) :: .ref (al t0) :: rest)) := by
  have hkn : (nI k).toNatClampNeg = k := nI_clamp (by omega)
  have h00 : (nI 0).toNatClampNeg = 0 := nI_clamp (by omega)
  have nn : ∀ z : Int32, ¬ z < 0 → z.toInt = (z.toNatClampNeg : Int) := by
    intro z hz
    have hz0 : (0 : Int) ≤ z.toInt := by
      have := Int32.not_lt.mp hz
      simpa using Int32.le_iff_toInt_le.mp this
    show z.toInt = ((z.toInt.toNat : Nat) : Int)
    omega
  have h1 : ¬ nI 0 < 0 := nI_pos (by omega)
  have h3 : ¬ nI k < 0 := nI_pos (by omega)
  intro T hT X
  have hc0 : H[al t0]? = some (vp_cell (E.2.1 5) (n0, .inr (.inr (.inr (.inr f))))) := (hH.1 t0 _ ha0).2
  have hc1 : H[al t1]? = some (vp_cell (E.2.1 5) (n1, .inr (.inr (.inr (.inr g))))) := (hH.1 t1 _ ha1).2
  obtain ⟨-, k0, hk0', cm0, hkk0⟩ := (C.st.K.2 5 _ rfl).1 n0 (fun j => va_rf (f j))
  obtain ⟨-, k1, hk1', cm1, hkk1⟩ := (C.st.K.2 5 _ rfl).1 n1 (fun j => va_rf (g j))
  obtain ⟨vm', X', step⟩ := X.arraycopy C.hx C.hown (C.ws _ hl) ((C.st.nb hna).use rfl) (C.ws _ hst) (C.ws _ hini) (src := al t0) (dst := al t1) (cs := vp_cell (E.2.1 5) (n0, .inr (.inr (.inr (.inr f))))) (cd := vp_cell (E.2.1 5) (n1, .inr (.inr (.inr (.inr g))))) (srcPos := nI 0) (destPos := nI 0) (n := nI k) (by rw [hT]; exact hc0) (by rw [hT]; exact hc1)
    (fun _ h => by cases h) (fun _ h => by cases h) (fun h => by cases h) (fun h => by cases h) hk0' hk1' hkk0 hkk1 rfl h1 h1 h3
    (by rw [nn _ h1, nn _ h3, h00, hkn]; show ¬ _ > ((arrV (E.2.1 5) n0 (fun j => va_rf (f j))).slots.size : Int); rw [arrV_size]; omega)
    (by rw [nn _ h1, nn _ h3, h00, hkn]; show ¬ _ > ((arrV (E.2.1 5) n1 (fun j => va_rf (g j))).slots.size : Int); rw [arrV_size]; omega)
    (fun vm₁ hal i hi => by
      rw [hkn] at hi
      have e : (vp_cell (E.2.1 5) (n0, .inr (.inr (.inr (.inr f))))).slots.getD ((nI 0).toNatClampNeg + i) .null = va_rf (f i) := by
        show (arrV (E.2.1 5) n0 (fun j => va_rf (f j))).slots.getD _ _ = _
        rw [h00, Nat.zero_add, Array.getD_eq_getD_getElem?, arrV_read _ _ (by omega)]
        rfl
      rw [e]
      cases hy : f i with
      | none => exact ⟨rfl, trivial⟩
      | some y =>
        obtain ⟨tv, vs, hav, hwv⟩ := hel i hi y hy
        obtain ⟨cellV, g1, g2, g3⟩ := va_recv C.st.K (hH.P hwv) hc (q0 := 0) rfl
        rw [hav] at g1
        obtain ⟨kA, comp, r1, r2, r3, -⟩ := (C.st.K.2 5 _ rfl).2
        cases hk1'.symm.trans r1
        cases hkk1.symm.trans r2
        obtain ⟨kC, hkC, -⟩ := Vm.findClass_spec g3
        obtain ⟨kE, hkE, -⟩ := Vm.findClass_spec r3
        obtain ⟨kC', hkC', -⟩ := hal.2.2 _ _ hkC
        obtain ⟨kE', hkE', -⟩ := hal.2.2 _ _ hkE
        refine ⟨rfl, cellV, (show T.heap[y]? = some cellV by rw [hT]; exact g1), (fun q h => by rw [h] at g2; cases g2), ⟨kC', hkC'⟩, ?_, ?_⟩
        · exact ⟨kE', hkE'⟩
        · show vm₁.assignable _ _ = true
          rw [hal.assignable]
          exact vb_asgC (C.st.nb hca) _ _ r3 g3)
    (g := F0 m pc ls (.int (nI k) :: .int (nI 0) :: .ref (al t1) :: .int (nI 0) :: .ref (al t0) :: rest)) rfl (by rw [C.2.2.1]; exact hsize) (rest := rest) rfl (by rw [C.hb]; exact hdg) hframes (by show 2 * 0 + _ + _ ≤ _; omega)
  have e1 : copied (vp_cell (E.2.1 5) (n0, .inr (.inr (.inr (.inr f))))) (vp_cell (E.2.1 5) (n1, .inr (.inr (.inr (.inr g))))) (nI 0) (nI 0) (nI k) = vp_cell (E.2.1 5) (n1, .inr (.inr (.inr (.inr (va_cpy f g (nI 0).toNatClampNeg (nI 0).toNatClampNeg (nI k).toNatClampNeg))))) := by
    rw [vp_cell_q, vp_cell_q, vp_cell_q]
    exact va_copied (fun z => va_rf z) (E.2.1 5) (E.2.1 5) f g (by rw [h00, hkn]; omega)
  have e2 : va_cpy f g (nI 0).toNatClampNeg (nI 0).toNatClampNeg (nI k).toNatClampNeg = fun i => if i < k then f i else g i := by
    funext i
    rw [h00, hkn]
    simp [va_cpy]
  rw [e2] at e1
  rw [e1] at X' step
  have hll : al t1 < H.size := (Array.getElem?_eq_some_iff.mp hc1).1
  obtain ⟨CN, hCN⟩ : ∃ z, z = vp_cell (E.2.1 5) (n1, .inr (.inr (.inr (.inr (fun i => if i < k then f i else g i))))) := ⟨_, rfl⟩
  rw [← hCN] at X' step
  have hheap : ((T.setVm vm').setCell (al t1) CN).heap = H.setIfInBounds (al t1) CN := by rw [← hT]; rfl
  have oq : ∀ q : Nat, q ≠ al t1 → (H.setIfInBounds (al t1) CN)[q]? = H[q]? := fun q hq => by simp [Array.getElem?_setIfInBounds, Ne.symm hq]
  obtain ⟨t, a1, b1⟩ := kk _ _ (hH.set ha1 (show (H.setIfInBounds (al t1) CN)[al t1]? = some _ by rw [← hCN]; simp [Array.getElem?_setIfInBounds, hll]) oq) ⟨by simp; exact hS.1, fun q g1 g2 => by
      rw [oq q (fun e => g2 (by rw [e]; exact (hH.1 t1 _ ha1).1))]
      exact hS.2.1 q g1 g2, fun q hq => by
      rcases List.mem_append.mp hq with h | h
      · exact hS.2.2 q h
      · obtain ⟨z, -, hz⟩ := List.mem_map.mp h
        rw [← hz]
        exact (hH.1 t1 _ ha1).1⟩ _ hheap X'
  exact ⟨t, step t a1, b1⟩
end XR4
end
section
section LAD5
variable {p : Program} {l : Launch} {e : Env} {R : Room} {s : State} {m : MethodId} {args : Array Value} {below : List Frame} {meth : Method} {c : Code} {H : Heap} {locs : List Loc} {cells slots : Nat} {Q : State → Prop} {pc : Nat} {ls : Array Slot} {rest : List Value}
theorem lv_adr5 {a b : Nat} {v u x z : Value} (h : a = b) (k : W p l e R s m args below meth c H locs cells slots Q (F0 m pc ls (v :: u :: x :: z :: .ref b :: rest))) : W p l e R s m args below meth c H locs cells slots Q (F0 m pc ls (v :: u :: x :: z :: .ref a :: rest)) := h ▸ k
end LAD5
set_option maxHeartbeats 4000000 in
set_option maxRecDepth 100000 in
theorem c_newLen (l : Launch) {E : xE} {base : Nat} {al : Tg → Nat} {w : Tg → Option va_E} {n : Nat} (h1 : 10 ≤ n) (h2 : n ≤ 240) : xMet l yJ8_newLength_cabcc cJ8_newLength_cabcc 4 (some (.int)) ({ frames := 1, cells := 0, slots := 0, locals := 17 } : Room) E base [.int (nI n), .int (nI 1), .int (nI (n / 2))] (fun H => xH E base al w H) (fun r H => r = some (.int (nI (n + n / 2))) ∧ xH E base al w H) := by
  refine xMet.of (by decide +kernel) "jdk/internal/util/ArraysSupport" rfl (Nat.le_of_ble_eq_true rfl) ?_
  intro p9 e9 s m9 below meth c9 ls C hin hP hS hl
  have hx := C.hx
  have hb := C.hb
  have hH := hP
  have hl : lv_has ls 4 [(0, .int (nI n)), (1, .int (nI 1)), (2, .int (nI (n / 2)))] := hl
  obtain ⟨post, hpost⟩ : ∃ zz9 : Option Value → Heap → Prop, zz9 = (fun r H => r = some (.int (nI (n + n / 2))) ∧ xH E base al w H) := ⟨_, rfl⟩
  rw [← hpost]
  generalize hQ : (MQ below (xQ base post) ([.int (nI n), .int (nI 1), .int (nI (n / 2))] : List Value).toArray s 0 0 (xA base)) = Q
  refine lv_iload_n hx hb dJ8_newLength_cabcc_0 rfl (lv_at hl 0 rfl) ?_
  refine lv_iload_n hx hb dJ8_newLength_cabcc_1 rfl (lv_at hl 1 rfl) ?_
  refine lv_iload_n hx hb dJ8_newLength_cabcc_2 rfl (lv_at hl 2 rfl) ?_
  refine x_mmax C qw_241 qw_242 qw_15 qw_243 hl.1 (Nat.le_of_ble_eq_true rfl) (Nat.le_of_ble_eq_true rfl) (Nat.le_of_ble_eq_true rfl) (Nat.le_of_ble_eq_true rfl) dJ8_newLength_cabcc_3 (v := nI (n / 2)) (if_pos (nI_lt (by omega) (by omega))) ?_
  refine lv_iadd hx hb dJ8_newLength_cabcc_6 ?_
  refine lv_re (nI_add _ _) ?_
  refine lv_istore_n (lv' := [(3, .int (nI (n + n / 2))), (0, .int (nI n)), (1, .int (nI 1)), (2, .int (nI (n / 2)))]) hx hb dJ8_newLength_cabcc_7 rfl hl (by decide) rfl (fun ls hl => ?_)
  refine lv_iconst (v := nI 0) hx hb dJ8_newLength_cabcc_8 (by decide +kernel) ?_
  refine lv_iload_n hx hb dJ8_newLength_cabcc_9 rfl (lv_at hl 0 rfl) ?_
  refine lv_icmp_ge (tgt := 21) hx hb dJ8_newLength_cabcc_10 (by decide) (fun c_1 => ?_) (fun c_1 => ?_)
  · skip
    replace c_1 := (nI_leI (by omega) (by omega)).mp c_1
    exfalso; omega
  · skip
    replace c_1 := mt (nI_leI (by omega) (by omega)).mpr c_1
    refine lv_iload_n hx hb dJ8_newLength_cabcc_13 rfl (lv_at hl 0 rfl) ?_
    refine lv_ldc (v := nI 2147483639) hx hb C.hown (C.ws _ qw_244) dJ8_newLength_cabcc_14 ?_
    refine lv_icmp_gt (tgt := 21) hx hb dJ8_newLength_cabcc_16 (by decide) (fun c_2 => ?_) (fun c_2 => ?_)
    · skip
      replace c_2 := (nI_ltI (by omega) (by omega)).mp c_2
      exfalso; omega
    · skip
      replace c_2 := mt (nI_ltI (by omega) (by omega)).mpr c_2
      refine lv_iload_n hx hb dJ8_newLength_cabcc_19 rfl (lv_at hl 0 rfl) ?_
      rw [← hQ]
      refine x_reti C rfl hS (Nat.le_of_ble_eq_true rfl) (Nat.le_of_ble_eq_true rfl) dJ8_newLength_cabcc_20 ?_
      rw [hpost]
      exact ⟨rfl, hH⟩

set_option maxHeartbeats 4000000 in
set_option maxRecDepth 100000 in
theorem c_copy3 (l : Launch) {E : xE} {base : Nat} {al : Tg → Nat} {w : Tg → Option va_E} {tA : Tg} {n : Nat} {g : Nat → Option Nat} (hA : w tA = some (.inl (E.2.1 5, n, .inr (.inr (.inr (.inr g)))))) (h1 : 10 ≤ n) (h2 : n ≤ 240) (hne : tA ≠ (9, 9, 9)) {ci : Nat} {r : vw_C} (hc : vwCl[ci]? = some r) (hca : Cond.castable r.1 "java/lang/Object" ∈ NB) (hel : ∀ i : Nat, i < n → ∀ y : Nat, g i = some y → ∃ tv vs, tv ≠ (9, 9, 9) ∧ al tv = y ∧ w tv = some (.inr (ci, vs))) : xMet l yJ7_copyOf_6403c cJ7_copyOf_6403c 4 (some ((.array (.object "java/lang/Object")))) ({ frames := 1, cells := 1, slots := 360, locals := 60 } : Room) E base [.ref (al tA), .int (nI (n + n / 2)), .ref (E.2.2 2)] (fun H => xH E base al w H) (fun r H => ∃ q : Nat, r = some (.ref q) ∧ xH E base (xa al (9, 9, 9) q) (xu w (9, 9, 9) (.inl (E.2.1 5, n + n / 2, .inr (.inr (.inr (.inr (fun i => if i < n then g i else none))))))) H) := by
  refine xMet.of (by decide +kernel) "java/util/Arrays" rfl (Nat.le_of_ble_eq_true rfl) ?_
  intro p9 e9 s m9 below meth c9 ls C hin hP hS hl
  have hx := C.hx
  have hb := C.hb
  have hH := hP
  have hl : lv_has ls 4 [(0, .ref (al tA)), (1, .int (nI (n + n / 2))), (2, .ref (E.2.2 2))] := hl
  obtain ⟨post, hpost⟩ : ∃ zz9 : Option Value → Heap → Prop, zz9 = (fun r H => ∃ q : Nat, r = some (.ref q) ∧ xH E base (xa al (9, 9, 9) q) (xu w (9, 9, 9) (.inl (E.2.1 5, n + n / 2, .inr (.inr (.inr (.inr (fun i => if i < n then g i else none))))))) H) := ⟨_, rfl⟩
  rw [← hpost]
  generalize hQ : (MQ below (xQ base post) ([.ref (al tA), .int (nI (n + n / 2)), .ref (E.2.2 2)] : List Value).toArray s 1 360 (xA base)) = Q
  refine lv_aload_n hx hb dJ7_copyOf_6403c_0 rfl (lv_at hl 2 rfl) ?_
  refine x_ldcM C qw_270 dJ7_copyOf_6403c_1 ?_
  refine lv_acmp_ne (rx := some (E.2.2 2)) (ry := some (E.2.2 2)) (tgt := 13) hx hb dJ7_copyOf_6403c_3 (by decide) (fun c => absurd rfl c) (fun _ => ?_)
  refine lv_iload_n hx hb dJ7_copyOf_6403c_6 rfl (lv_at hl 1 rfl) ?_
  refine x_newq C hH hS (9, 9, 9) 5 qw_272 C.st.2.2.2.2.1.1 rfl rfl (by omega) (Nat.le_of_ble_eq_true rfl) (by show 0 + _ ≤ 360; omega) dJ7_copyOf_6403c_7 (fun G1_ hH hS => ?_)
  obtain ⟨q_1, hq_1⟩ : ∃ zz9 : Nat, zz9 = xa al (9, 9, 9) s.heap.size (9, 9, 9) := ⟨_, rfl⟩
  obtain ⟨alq_1, halq_1⟩ : ∃ zz9 : Tg → Nat, zz9 = xa al (9, 9, 9) s.heap.size := ⟨_, rfl⟩
  rw [← halq_1] at hH
  rw [← hq_1]
  have ad_2 : alq_1 tA = al tA := by rw [halq_1, xa_ne hne]
  have hA := xu_of (t := (9, 9, 9)) (e := .inl (E.2.1 5, n + n / 2, .inr (.inr (.inr (.inr (fun _ => none)))))) hne hA
  have ad_4 : alq_1 (9, 9, 9) = q_1 := by rw [halq_1, hq_1]
  have hn_3 : (xu w (9, 9, 9) (.inl (E.2.1 5, n + n / 2, .inr (.inr (.inr (.inr (fun _ => none))))))) (9, 9, 9) = some (.inl (E.2.1 5, n + n / 2, .inr (.inr (.inr (.inr (fun _ => none)))))) := xu_self _ _ _
  refine W.widen (k := 1) (n := 360) (Nat.le_of_ble_eq_true rfl) (by omega) ?_
  refine lv_goto (tgt := 24) hx hb dJ7_copyOf_6403c_10 (by decide) ?_
  refine lv_astore_n (lv' := [(3, .ref q_1), (0, .ref (al tA)), (1, .int (nI (n + n / 2))), (2, .ref (E.2.2 2))]) hx hb dJ7_copyOf_6403c_24 rfl hl (by decide) rfl (fun ls hl => ?_)
  refine lv_aload_n hx hb dJ7_copyOf_6403c_25 rfl (lv_at hl 1 rfl) ?_
  refine lv_iconst (v := nI 0) hx hb dJ7_copyOf_6403c_26 (by decide +kernel) ?_
  refine lv_aload_n hx hb dJ7_copyOf_6403c_27 rfl (lv_at hl 0 rfl) ?_
  refine lv_iconst (v := nI 0) hx hb dJ7_copyOf_6403c_28 (by decide +kernel) ?_
  refine lv_aload_n hx hb dJ7_copyOf_6403c_29 rfl (lv_at hl 1 rfl) ?_
  refine lv_adr (ad_2).symm ?_
  refine x_alen (v := nI n) C hH 5 rfl hA rfl dJ7_copyOf_6403c_30 ?_
  refine lv_iload_n hx hb dJ7_copyOf_6403c_31 rfl (lv_at hl 2 rfl) ?_
  refine x_mmin C qw_273 qw_274 qw_15 qw_275 hl.1 (Nat.le_of_ble_eq_true rfl) (Nat.le_of_ble_eq_true rfl) (Nat.le_of_ble_eq_true rfl) (Nat.le_of_ble_eq_true rfl) dJ7_copyOf_6403c_32 (v := nI n) (if_neg (nI_nlt (by omega) (by omega))) ?_
  refine lv_adr3 (ad_4).symm ?_
  refine lv_adr5 (ad_2).symm ?_
  refine x_copyq C hH hS (k := n) (ci := ci) qw_276 nw_278 qw_277 qw_17 hl.1 hA hn_3 (by omega) (by omega) (by omega) hc hca ?_ (Nat.le_of_ble_eq_true rfl) (by decide +kernel) dJ7_copyOf_6403c_35 (fun H locs hH hS => ?_)
  · intro i hi y hy
    obtain ⟨tv, vs, k1, k2, k3⟩ := hel i hi y hy
    exact ⟨tv, vs, by rw [halq_1, xa_ne k1]; exact k2, xu_of k1 k3⟩
  rw [xu_uu] at hH
  refine lv_aload_n hx hb dJ7_copyOf_6403c_38 rfl (lv_at hl 0 rfl) ?_
  rw [← hQ]
  refine x_reta C (Or.inr ⟨_, rfl⟩) (Or.inr ⟨_, rfl⟩) hS (Nat.le_of_ble_eq_true rfl) (Nat.le_of_ble_eq_true rfl) dJ7_copyOf_6403c_39 ?_
  rw [hpost]
  have hq9 : s.heap.size = q_1 := by rw [hq_1, xa_self]
  rw [halq_1, hq9] at hH
  exact ⟨q_1, rfl, hH⟩

set_option maxHeartbeats 4000000 in
set_option maxRecDepth 100000 in
theorem c_copy2 (l : Launch) {E : xE} {base : Nat} {al : Tg → Nat} {w : Tg → Option va_E} {tA : Tg} {n : Nat} {g : Nat → Option Nat} (hA : w tA = some (.inl (E.2.1 5, n, .inr (.inr (.inr (.inr g)))))) (h1 : 10 ≤ n) (h2 : n ≤ 240) (hne : tA ≠ (9, 9, 9)) {ci : Nat} {r : vw_C} (hc : vwCl[ci]? = some r) (hca : Cond.castable r.1 "java/lang/Object" ∈ NB) (hel : ∀ i : Nat, i < n → ∀ y : Nat, g i = some y → ∃ tv vs, tv ≠ (9, 9, 9) ∧ al tv = y ∧ w tv = some (.inr (ci, vs))) : xMet l yJ7_copyOf_1904c cJ7_copyOf_1904c 2 (some ((.array (.object "java/lang/Object")))) ({ frames := 2, cells := 1, slots := 360, locals := 83 } : Room) E base [.ref (al tA), .int (nI (n + n / 2))] (fun H => xH E base al w H) (fun r H => ∃ q : Nat, r = some (.ref q) ∧ xH E base (xa al (9, 9, 9) q) (xu w (9, 9, 9) (.inl (E.2.1 5, n + n / 2, .inr (.inr (.inr (.inr (fun i => if i < n then g i else none))))))) H) := by
  refine xMet.of (by decide +kernel) "java/util/Arrays" rfl (Nat.le_of_ble_eq_true rfl) ?_
  intro p9 e9 s m9 below meth c9 ls C hin hP hS hl
  have hx := C.hx
  have hb := C.hb
  have hH := hP
  have hl : lv_has ls 2 [(0, .ref (al tA)), (1, .int (nI (n + n / 2)))] := hl
  obtain ⟨post, hpost⟩ : ∃ zz9 : Option Value → Heap → Prop, zz9 = (fun r H => ∃ q : Nat, r = some (.ref q) ∧ xH E base (xa al (9, 9, 9) q) (xu w (9, 9, 9) (.inl (E.2.1 5, n + n / 2, .inr (.inr (.inr (.inr (fun i => if i < n then g i else none))))))) H) := ⟨_, rfl⟩
  rw [← hpost]
  generalize hQ : (MQ below (xQ base post) ([.ref (al tA), .int (nI (n + n / 2))] : List Value).toArray s 1 360 (xA base)) = Q
  refine lv_aload_n hx hb dJ7_copyOf_1904c_0 rfl (lv_at hl 0 rfl) ?_
  refine lv_iload_n hx hb dJ7_copyOf_1904c_1 rfl (lv_at hl 1 rfl) ?_
  refine lv_aload_n hx hb dJ7_copyOf_1904c_2 rfl (lv_at hl 0 rfl) ?_
  refine x_getC C hH hA qw_251 nw_917 qw_916 qw_252 nw_266 hl.1 (Nat.le_of_ble_eq_true rfl) (Nat.le_of_ble_eq_true rfl) dJ7_copyOf_1904c_3 ?_
  refine x_callS C hS (c_copy3 l (E := E) (base := base) hA h1 h2 hne hc hca hel) hH kJ7_copyOf_6403c qw_268 qw_267  rfl [] rfl hl.1 (Nat.le_of_ble_eq_true rfl) ⟨Nat.le_of_ble_eq_true rfl, Nat.le_of_ble_eq_true rfl⟩ dJ7_copyOf_1904c_6 ⟨Nat.le_of_ble_eq_true rfl, Nat.le_of_ble_eq_true rfl⟩ (fun r_2 H locs hp_1 hS => ?_)
  obtain ⟨qq_3, rfl, hH⟩ := hp_1
  rw [← hQ]
  refine x_reta C (Or.inr ⟨_, rfl⟩) (Or.inr ⟨_, rfl⟩) hS (Nat.le_of_ble_eq_true rfl) (Nat.le_of_ble_eq_true rfl) dJ7_copyOf_1904c_9 ?_
  rw [hpost]
  exact ⟨qq_3, rfl, hH⟩

set_option maxHeartbeats 4000000 in
set_option maxRecDepth 100000 in
theorem c_growI (l : Launch) {E : xE} {base : Nat} {al : Tg → Nat} {w : Tg → Option va_E} {tL tA : Tg} {n : Nat} {g : Nat → Option Nat} {mc : Int32} (hL : w tL = some (.inr (0, [.int mc, .ref (al tA), .int (nI n)]))) (hLA : tL ≠ tA) (hL9 : tL ≠ (9, 9, 9)) (hA : w tA = some (.inl (E.2.1 5, n, .inr (.inr (.inr (.inr g)))))) (h1 : 10 ≤ n) (h2 : n ≤ 240) (hne : tA ≠ (9, 9, 9)) {ci : Nat} {r : vw_C} (hc : vwCl[ci]? = some r) (hca : Cond.castable r.1 "java/lang/Object" ∈ NB) (hel : ∀ i : Nat, i < n → ∀ y : Nat, g i = some y → ∃ tv vs, tv ≠ (9, 9, 9) ∧ al tv = y ∧ w tv = some (.inr (ci, vs))) : xMet l yJx4a65c_grow_92f84 cJx4a65c_grow_92f84 4 (some ((.array (.object "java/lang/Object")))) ({ frames := 3, cells := 1, slots := 360, locals := 104 } : Room) E base [.ref (al tL), .int (nI (n + 1))] (fun H => xH E base al w H) (fun r H => ∃ q : Nat, r = some (.ref q) ∧ xH E base (xa (xa al (9, 9, 9) q) tA q) (xu (xmv (xu w (9, 9, 9) (.inl (E.2.1 5, n + n / 2, .inr (.inr (.inr (.inr (fun i => if i < n then g i else none))))))) tA (9, 9, 9)) tL (.inr (0, [.int mc, .ref q, .int (nI n)]))) H) := by
  refine xMet.of (by decide +kernel) "java/util/ArrayList" rfl (Nat.le_of_ble_eq_true rfl) ?_
  intro p9 e9 s m9 below meth c9 ls C hin hP hS hl
  have hx := C.hx
  have hb := C.hb
  have hH := hP
  have hl : lv_has ls 4 [(0, .ref (al tL)), (1, .int (nI (n + 1)))] := hl
  obtain ⟨post, hpost⟩ : ∃ zz9 : Option Value → Heap → Prop, zz9 = (fun r H => ∃ q : Nat, r = some (.ref q) ∧ xH E base (xa (xa al (9, 9, 9) q) tA q) (xu (xmv (xu w (9, 9, 9) (.inl (E.2.1 5, n + n / 2, .inr (.inr (.inr (.inr (fun i => if i < n then g i else none))))))) tA (9, 9, 9)) tL (.inr (0, [.int mc, .ref q, .int (nI n)]))) H) := ⟨_, rfl⟩
  rw [← hpost]
  generalize hQ : (MQ below (xQ base post) ([.ref (al tL), .int (nI (n + 1))] : List Value).toArray s 1 360 (xA base)) = Q
  refine lv_aload_n hx hb dJx4a65c_grow_92f84_0 rfl (lv_at hl 0 rfl) ?_
  refine x_get C hH (ci := 0) (T := TJx4a65c) (N := 3) hL rfl iWJx4a65c 1 (by decide) qw_47 rfl rfl dJx4a65c_grow_92f84_1 ?_
  refine x_alen (v := nI n) C hH 5 rfl hA rfl dJx4a65c_grow_92f84_4 ?_
  refine lv_istore_n (lv' := [(2, .int (nI n)), (0, .ref (al tL)), (1, .int (nI (n + 1)))]) hx hb dJx4a65c_grow_92f84_5 rfl hl (by decide) rfl (fun ls hl => ?_)
  refine lv_iload_n hx hb dJx4a65c_grow_92f84_6 rfl (lv_at hl 0 rfl) ?_
  refine lv_if_gt (tgt := 20) hx hb dJx4a65c_grow_92f84_7 (by decide) (fun _ => ?_) (fun c => absurd ((nI_gt0 (by omega)).mpr (by omega)) c)
  refine lv_iload_n hx hb dJx4a65c_grow_92f84_20 rfl (lv_at hl 0 rfl) ?_
  refine lv_iload_n hx hb dJx4a65c_grow_92f84_21 rfl (lv_at hl 2 rfl) ?_
  refine lv_iload_n hx hb dJx4a65c_grow_92f84_22 rfl (lv_at hl 0 rfl) ?_
  refine lv_isub hx hb dJx4a65c_grow_92f84_23 ?_
  refine lv_re (y := nI 1) (by rw [pk_sub (by omega), Nat.add_sub_cancel_left]) ?_
  refine lv_iload_n hx hb dJx4a65c_grow_92f84_24 rfl (lv_at hl 0 rfl) ?_
  refine lv_iconst (v := nI 1) hx hb dJx4a65c_grow_92f84_25 (by decide +kernel) ?_
  refine lv_ishr hx hb dJx4a65c_grow_92f84_26 ?_
  refine lv_re (y := nI (n / 2)) (by have k := pk_shrN (n := n) (by omega) ((1 : Int32) &&& 31) 1 (by decide); rw [Nat.pow_one] at k; exact k) ?_
  refine x_callS C hS (c_newLen l (E := E) (base := base) (al := al) (w := w) h1 h2) hH kJ8_newLength_cabcc qw_239 qw_238  rfl [] rfl hl.1 (Nat.le_of_ble_eq_true rfl) ⟨Nat.le_of_ble_eq_true rfl, Nat.le_of_ble_eq_true rfl⟩ dJx4a65c_grow_92f84_27 ⟨Nat.le_of_ble_eq_true rfl, Nat.le_of_ble_eq_true rfl⟩ (fun r_2 H locs hp_1 hS => ?_)
  obtain ⟨rfl, hH⟩ := hp_1
  refine lv_istore_n (lv' := [(3, .int (nI (n + n / 2))), (2, .int (nI n)), (0, .ref (al tL)), (1, .int (nI (n + 1)))]) hx hb dJx4a65c_grow_92f84_30 rfl hl (by decide) rfl (fun ls hl => ?_)
  refine lv_aload_n hx hb dJx4a65c_grow_92f84_31 rfl (lv_at hl 2 rfl) ?_
  refine lv_aload_n hx hb dJx4a65c_grow_92f84_32 rfl (lv_at hl 2 rfl) ?_
  refine x_get C hH (ci := 0) (T := TJx4a65c) (N := 3) hL rfl iWJx4a65c 1 (by decide) qw_47 rfl rfl dJx4a65c_grow_92f84_33 ?_
  refine lv_iload_n hx hb dJx4a65c_grow_92f84_36 rfl (lv_at hl 0 rfl) ?_
  refine x_callS C hS (c_copy2 l (E := E) (base := base) hA h1 h2 hne hc hca hel) hH kJ7_copyOf_1904c qw_249 qw_248  rfl [.ref (al tL)] rfl hl.1 (Nat.le_of_ble_eq_true rfl) ⟨Nat.le_of_ble_eq_true rfl, Nat.le_of_ble_eq_true rfl⟩ dJx4a65c_grow_92f84_37 ⟨Nat.le_of_ble_eq_true rfl, Nat.le_of_ble_eq_true rfl⟩ (fun r_4 H locs hp_3 hS => ?_)
  obtain ⟨qq, rfl, hH⟩ := hp_3
  replace hH := hH.ren tA (9, 9, 9)
  rw [xa_self] at hH
  have hL2 : (xmv (xu w (9, 9, 9) (.inl (E.2.1 5, n + n / 2, .inr (.inr (.inr (.inr (fun i => if i < n then g i else none))))))) tA (9, 9, 9)) tL = some (.inr (0, [.int mc, .ref (al tA), .int (nI n)])) := by unfold xmv; rw [if_neg hLA, if_neg hL9, xu_ne hL9]; exact hL
  have aL2 : (xa (xa al (9, 9, 9) qq) tA qq) tL = al tL := by rw [xa_ne hLA, xa_ne hL9]
  refine lv_dup_x1 hx hb dJx4a65c_grow_92f84_40 rfl rfl ?_
  refine lv_adr2 aL2.symm ?_
  refine x_put C hH hS (ci := 0) (T := TJx4a65c) (N := 3) (fs' := [.int mc, .ref qq, .int (nI n)]) hL2 rfl iWJx4a65c tyJx4a65c tyJx4a65c_ok nmJx4a65c 1 (by decide) qw_47 rfl rfl rfl rfl (Nat.le_of_ble_eq_true rfl) rfl dJx4a65c_grow_92f84_41 (fun H locs hH hS => ?_)
  have hL2 : (xu (xmv (xu w (9, 9, 9) (.inl (E.2.1 5, n + n / 2, .inr (.inr (.inr (.inr (fun i => if i < n then g i else none))))))) tA (9, 9, 9)) tL (.inr (0, [.int mc, .ref qq, .int (nI n)]))) tL = some (.inr (0, [.int mc, .ref qq, .int (nI n)])) := xu_self _ _ _
  rw [← hQ]
  refine x_reta C (Or.inr ⟨_, rfl⟩) (Or.inr ⟨_, rfl⟩) hS (Nat.le_of_ble_eq_true rfl) (Nat.le_of_ble_eq_true rfl) dJx4a65c_grow_92f84_44 ?_
  rw [hpost]
  exact ⟨qq, rfl, hH⟩

set_option maxHeartbeats 4000000 in
set_option maxRecDepth 100000 in
theorem c_grow (l : Launch) {E : xE} {base : Nat} {al : Tg → Nat} {w : Tg → Option va_E} {tL tA : Tg} {n : Nat} {g : Nat → Option Nat} {mc : Int32} (hL : w tL = some (.inr (0, [.int mc, .ref (al tA), .int (nI n)]))) (hLA : tL ≠ tA) (hL9 : tL ≠ (9, 9, 9)) (hA : w tA = some (.inl (E.2.1 5, n, .inr (.inr (.inr (.inr g)))))) (h1 : 10 ≤ n) (h2 : n ≤ 240) (hne : tA ≠ (9, 9, 9)) {ci : Nat} {r : vw_C} (hc : vwCl[ci]? = some r) (hca : Cond.castable r.1 "java/lang/Object" ∈ NB) (hel : ∀ i : Nat, i < n → ∀ y : Nat, g i = some y → ∃ tv vs, tv ≠ (9, 9, 9) ∧ al tv = y ∧ w tv = some (.inr (ci, vs))) : xMet l yJx4a65c_grow_d5877 cJx4a65c_grow_d5877 1 (some ((.array (.object "java/lang/Object")))) ({ frames := 4, cells := 1, slots := 360, locals := 127 } : Room) E base [.ref (al tL)] (fun H => xH E base al w H) (fun r H => ∃ q : Nat, r = some (.ref q) ∧ xH E base (xa (xa al (9, 9, 9) q) tA q) (xu (xmv (xu w (9, 9, 9) (.inl (E.2.1 5, n + n / 2, .inr (.inr (.inr (.inr (fun i => if i < n then g i else none))))))) tA (9, 9, 9)) tL (.inr (0, [.int mc, .ref q, .int (nI n)]))) H) := by
  refine xMet.of (by decide +kernel) "java/util/ArrayList" rfl (Nat.le_of_ble_eq_true rfl) ?_
  intro p9 e9 s m9 below meth c9 ls C hin hP hS hl
  have hx := C.hx
  have hb := C.hb
  have hH := hP
  have hl : lv_has ls 1 [(0, .ref (al tL))] := hl
  obtain ⟨post, hpost⟩ : ∃ zz9 : Option Value → Heap → Prop, zz9 = (fun r H => ∃ q : Nat, r = some (.ref q) ∧ xH E base (xa (xa al (9, 9, 9) q) tA q) (xu (xmv (xu w (9, 9, 9) (.inl (E.2.1 5, n + n / 2, .inr (.inr (.inr (.inr (fun i => if i < n then g i else none))))))) tA (9, 9, 9)) tL (.inr (0, [.int mc, .ref q, .int (nI n)]))) H) := ⟨_, rfl⟩
  rw [← hpost]
  generalize hQ : (MQ below (xQ base post) ([.ref (al tL)] : List Value).toArray s 1 360 (xA base)) = Q
  refine lv_aload_n hx hb dJx4a65c_grow_d5877_0 rfl (lv_at hl 0 rfl) ?_
  refine lv_aload_n hx hb dJx4a65c_grow_d5877_1 rfl (lv_at hl 0 rfl) ?_
  refine x_get C hH (ci := 0) (T := TJx4a65c) (N := 3) hL rfl iWJx4a65c 2 (by decide) qw_48 rfl rfl dJx4a65c_grow_d5877_2 ?_
  refine lv_iconst (v := nI 1) hx hb dJx4a65c_grow_d5877_5 (by decide +kernel) ?_
  refine lv_iadd hx hb dJx4a65c_grow_d5877_6 ?_
  refine lv_re (nI_add _ _) ?_
  refine x_callV C hH hS (ci := 0) (t := tL) hL rfl rfl (c_growI l (E := E) (base := base) hL hLA hL9 hA h1 h2 hne hc hca hel) hH kJx4a65c_grow_92f84 qw_236 (ws_p (List.mem_of_getElem? (i := 3) rfl) rfl) qw_234  rfl [] rfl hl.1 (Nat.le_of_ble_eq_true rfl) ⟨Nat.le_of_ble_eq_true rfl, Nat.le_of_ble_eq_true rfl⟩ dJx4a65c_grow_d5877_7 ⟨Nat.le_of_ble_eq_true rfl, Nat.le_of_ble_eq_true rfl⟩ (fun r_2 H locs hp_1 hS => ?_)
  obtain ⟨qq_3, rfl, hH⟩ := hp_1
  rw [← hQ]
  refine x_reta C (Or.inr ⟨_, rfl⟩) (Or.inr ⟨_, rfl⟩) hS (Nat.le_of_ble_eq_true rfl) (Nat.le_of_ble_eq_true rfl) dJx4a65c_grow_d5877_10 ?_
  rw [hpost]
  exact ⟨qq_3, rfl, hH⟩

set_option maxHeartbeats 4000000 in
set_option maxRecDepth 100000 in
theorem c_growIE (l : Launch) {E : xE} {base : Nat} {al : Tg → Nat} {w : Tg → Option va_E} {tL tA : Tg} {mc : Int32} (hL : w tL = some (.inr (0, [.int mc, .ref (E.2.2 1), .int (nI 0)]))) (hLA : tL ≠ tA)  : xMet l yJx4a65c_grow_92f84 cJx4a65c_grow_92f84 4 (some ((.array (.object "java/lang/Object")))) ({ frames := 3, cells := 1, slots := 360, locals := 104 } : Room) E base [.ref (al tL), .int (nI 1)] (fun H => xH E base al w H) (fun r H => ∃ q : Nat, r = some (.ref q) ∧ xH E base (xa al tA q) (xu (xu w tA (.inl (E.2.1 5, 10, .inr (.inr (.inr (.inr (fun _ => none))))))) tL (.inr (0, [.int mc, .ref q, .int (nI 0)]))) H) := by
  refine xMet.of (by decide +kernel) "java/util/ArrayList" rfl (Nat.le_of_ble_eq_true rfl) ?_
  intro p9 e9 s m9 below meth c9 ls C hin hP hS hl
  have hx := C.hx
  have hb := C.hb
  have hH := hP
  have hl : lv_has ls 4 [(0, .ref (al tL)), (1, .int (nI 1))] := hl
  obtain ⟨post, hpost⟩ : ∃ zz9 : Option Value → Heap → Prop, zz9 = (fun r H => ∃ q : Nat, r = some (.ref q) ∧ xH E base (xa al tA q) (xu (xu w tA (.inl (E.2.1 5, 10, .inr (.inr (.inr (.inr (fun _ => none))))))) tL (.inr (0, [.int mc, .ref q, .int (nI 0)]))) H) := ⟨_, rfl⟩
  rw [← hpost]
  generalize hQ : (MQ below (xQ base post) ([.ref (al tL), .int (nI 1)] : List Value).toArray s 1 360 (xA base)) = Q
  refine lv_aload_n hx hb dJx4a65c_grow_92f84_0 rfl (lv_at hl 0 rfl) ?_
  refine x_get C hH (ci := 0) (T := TJx4a65c) (N := 3) hL rfl iWJx4a65c 1 (by decide) qw_47 rfl rfl dJx4a65c_grow_92f84_1 ?_
  refine x_lenE C hS dJx4a65c_grow_92f84_4 ?_
  refine lv_istore_n (lv' := [(2, .int (nI 0)), (0, .ref (al tL)), (1, .int (nI 1))]) hx hb dJx4a65c_grow_92f84_5 rfl hl (by decide) rfl (fun ls hl => ?_)
  refine lv_iload_n hx hb dJx4a65c_grow_92f84_6 rfl (lv_at hl 0 rfl) ?_
  refine lv_if_gt (tgt := 20) hx hb dJx4a65c_grow_92f84_7 (by decide) (fun c_1 => absurd c_1 (by decide +kernel)) (fun c_1 => ?_)
  clear c_1
  refine lv_aload_n hx hb dJx4a65c_grow_92f84_10 rfl (lv_at hl 1 rfl) ?_
  refine x_get C hH (ci := 0) (T := TJx4a65c) (N := 3) hL rfl iWJx4a65c 1 (by decide) qw_47 rfl rfl dJx4a65c_grow_92f84_11 ?_
  refine x_getsE C hS qw_45 dJx4a65c_grow_92f84_14 ?_
  refine lv_acmp_eq (rx := some (E.2.2 1)) (ry := some (E.2.2 1)) (tgt := 45) hx hb dJx4a65c_grow_92f84_17 (by decide) (fun _ => ?_) (fun c => absurd rfl c)
  refine lv_aload_n hx hb dJx4a65c_grow_92f84_45 rfl (lv_at hl 1 rfl) ?_
  refine lv_bipush (v := nI 10) hx hb dJx4a65c_grow_92f84_46 (by decide +kernel) ?_
  refine lv_iload_n hx hb dJx4a65c_grow_92f84_48 rfl (lv_at hl 2 rfl) ?_
  refine x_mmax C qw_279 qw_242 qw_15 qw_243 hl.1 (Nat.le_of_ble_eq_true rfl) (Nat.le_of_ble_eq_true rfl) (Nat.le_of_ble_eq_true rfl) (Nat.le_of_ble_eq_true rfl) dJx4a65c_grow_92f84_49 (v := nI 10) (by decide +kernel) ?_
  refine x_newq C hH hS tA 5 qw_280 C.st.2.2.2.2.1.1 rfl rfl (by omega) (Nat.le_of_ble_eq_true rfl) (Nat.le_of_ble_eq_true rfl) dJx4a65c_grow_92f84_52 (fun G2_ hH hS => ?_)
  obtain ⟨q_2, hq_2⟩ : ∃ zz9 : Nat, zz9 = xa al tA s.heap.size tA := ⟨_, rfl⟩
  obtain ⟨alq_2, halq_2⟩ : ∃ zz9 : Tg → Nat, zz9 = xa al tA s.heap.size := ⟨_, rfl⟩
  rw [← halq_2] at hH
  rw [← hq_2]
  have ad_3 : alq_2 tL = al tL := by rw [halq_2, xa_ne hLA]
  have hL := xu_of (t := tA) (e := .inl (E.2.1 5, 10, .inr (.inr (.inr (.inr (fun _ => none)))))) hLA hL
  have ad_5 : alq_2 tA = q_2 := by rw [halq_2, hq_2]
  have hn_4 : (xu w tA (.inl (E.2.1 5, 10, .inr (.inr (.inr (.inr (fun _ => none))))))) tA = some (.inl (E.2.1 5, 10, .inr (.inr (.inr (.inr (fun _ => none)))))) := xu_self _ _ _
  refine lv_dup_x1 hx hb dJx4a65c_grow_92f84_55 rfl rfl ?_
  refine lv_adr2 (ad_3).symm ?_
  refine x_put C hH hS (ci := 0) (T := TJx4a65c) (N := 3) (fs' := [.int mc, .ref q_2, .int (nI 0)]) hL rfl iWJx4a65c tyJx4a65c tyJx4a65c_ok nmJx4a65c 1 (by decide) qw_47 rfl rfl rfl rfl (Nat.le_of_ble_eq_true rfl) rfl dJx4a65c_grow_92f84_56 (fun H locs hH hS => ?_)
  have hn_4 := xu_of (t := tL) (e := .inr (0, [.int mc, .ref q_2, .int (nI 0)])) (Ne.symm hLA) hn_4
  have hL : (xu (xu w tA (.inl (E.2.1 5, 10, .inr (.inr (.inr (.inr (fun _ => none))))))) tL (.inr (0, [.int mc, .ref q_2, .int (nI 0)]))) tL = some (.inr (0, [.int mc, .ref q_2, .int (nI 0)])) := xu_self _ _ _
  rw [← hQ]
  refine x_reta C (Or.inr ⟨_, rfl⟩) (Or.inr ⟨_, rfl⟩) hS (Nat.le_of_ble_eq_true rfl) (Nat.le_of_ble_eq_true rfl) dJx4a65c_grow_92f84_59 ?_
  rw [hpost]
  have hq9 : s.heap.size = q_2 := by rw [hq_2, xa_self]
  rw [halq_2, hq9] at hH
  exact ⟨q_2, rfl, hH⟩

set_option maxHeartbeats 4000000 in
set_option maxRecDepth 100000 in
theorem c_growE (l : Launch) {E : xE} {base : Nat} {al : Tg → Nat} {w : Tg → Option va_E} {tL tA : Tg} {mc : Int32} (hL : w tL = some (.inr (0, [.int mc, .ref (E.2.2 1), .int (nI 0)]))) (hLA : tL ≠ tA)  : xMet l yJx4a65c_grow_d5877 cJx4a65c_grow_d5877 1 (some ((.array (.object "java/lang/Object")))) ({ frames := 4, cells := 1, slots := 360, locals := 127 } : Room) E base [.ref (al tL)] (fun H => xH E base al w H) (fun r H => ∃ q : Nat, r = some (.ref q) ∧ xH E base (xa al tA q) (xu (xu w tA (.inl (E.2.1 5, 10, .inr (.inr (.inr (.inr (fun _ => none))))))) tL (.inr (0, [.int mc, .ref q, .int (nI 0)]))) H) := by
  refine xMet.of (by decide +kernel) "java/util/ArrayList" rfl (Nat.le_of_ble_eq_true rfl) ?_
  intro p9 e9 s m9 below meth c9 ls C hin hP hS hl
  have hx := C.hx
  have hb := C.hb
  have hH := hP
  have hl : lv_has ls 1 [(0, .ref (al tL))] := hl
  obtain ⟨post, hpost⟩ : ∃ zz9 : Option Value → Heap → Prop, zz9 = (fun r H => ∃ q : Nat, r = some (.ref q) ∧ xH E base (xa al tA q) (xu (xu w tA (.inl (E.2.1 5, 10, .inr (.inr (.inr (.inr (fun _ => none))))))) tL (.inr (0, [.int mc, .ref q, .int (nI 0)]))) H) := ⟨_, rfl⟩
  rw [← hpost]
  generalize hQ : (MQ below (xQ base post) ([.ref (al tL)] : List Value).toArray s 1 360 (xA base)) = Q
  refine lv_aload_n hx hb dJx4a65c_grow_d5877_0 rfl (lv_at hl 0 rfl) ?_
  refine lv_aload_n hx hb dJx4a65c_grow_d5877_1 rfl (lv_at hl 0 rfl) ?_
  refine x_get C hH (ci := 0) (T := TJx4a65c) (N := 3) hL rfl iWJx4a65c 2 (by decide) qw_48 rfl rfl dJx4a65c_grow_d5877_2 ?_
  refine lv_iconst (v := nI 1) hx hb dJx4a65c_grow_d5877_5 (by decide +kernel) ?_
  refine lv_iadd hx hb dJx4a65c_grow_d5877_6 ?_
  refine lv_re (y := nI 1) (by decide +kernel) ?_
  refine x_callV C hH hS (ci := 0) (t := tL) hL rfl rfl (c_growIE l (E := E) (base := base) hL hLA) hH kJx4a65c_grow_92f84 qw_236 (ws_p (List.mem_of_getElem? (i := 3) rfl) rfl) qw_234  rfl [] rfl hl.1 (Nat.le_of_ble_eq_true rfl) ⟨Nat.le_of_ble_eq_true rfl, Nat.le_of_ble_eq_true rfl⟩ dJx4a65c_grow_d5877_7 ⟨Nat.le_of_ble_eq_true rfl, Nat.le_of_ble_eq_true rfl⟩ (fun r_2 H locs hp_1 hS => ?_)
  obtain ⟨qq_3, rfl, hH⟩ := hp_1
  rw [← hQ]
  refine x_reta C (Or.inr ⟨_, rfl⟩) (Or.inr ⟨_, rfl⟩) hS (Nat.le_of_ble_eq_true rfl) (Nat.le_of_ble_eq_true rfl) dJx4a65c_grow_d5877_10 ?_
  rw [hpost]
  exact ⟨qq_3, rfl, hH⟩
end
section
section XU
variable {p : Program} {l : Launch} {e : Env} {R : Room} {s : State} {m : MethodId} {args : Array Value} {below : List Frame} {meth : Method} {c : Code} {H : Heap} {locs : List Loc} {cells slots : Nat} {Q : State → Prop}
variable {cc : ByteArray} {pc nL : Nat} {ls : Array Slot} {rest : List Value} {own : String} {ret : Option FieldType} {E : xE} {base : Nat} {al : Tg → Nat} {w : Tg → Option va_E}
theorem x_getU (C : XC p s m args meth c own cc nL ret E base) (hH : xH E base al w H) {C' ref : String} {T : u_T} {N ci index : Nat} {t : Tg} {fs : List Value} (ht : w t = some (.inr (ci, fs))) (hc : vwCl[ci]? = some (C', T, N)) (hin : ∀ w ∈ u_ws C' T N, w ∈ WS) (k : Nat) (hk : k < N) (hlink : Cond.fieldLink own index ref (T k).2.1 (T k).2.2.1 ∈ WS) (hsame : Cond.sameField ref (T k).1 (T k).2.1 (T k).2.2.1 ∈ WS) {v : Value} (hv : fs[k]? = some v) (hdg : decode cc pc = .ok (.getfield index, 3))
    (kk : W p l e R s m args below meth c H locs cells slots Q (F0 m (pc + 3) ls (v :: rest))) : W p l e R s m args below meth c H locs cells slots Q (F0 m pc ls (.ref (al t) :: rest)) :=
  va_get C.hx C.hb C.ws hin C.hown C.st.K (hH.P ht) 0 rfl hc k hk (C.ws _ hlink) (fun x h => u_same (C.ws _ hsame) x h) hv hdg kk
theorem x_putU (C : XC p s m args meth c own cc nL ret E base) (hH : xH E base al w H) (hS0 : va_S (xA base) s.heap H locs) {C' ref : String} {T : u_T} {N ci index : Nat} {t : Tg} {fs : List Value} (ht : w t = some (.inr (ci, fs))) (hc : vwCl[ci]? = some (C', T, N)) (hin : ∀ w ∈ u_ws C' T N, w ∈ WS) (ty0 : Nat → FieldType) (hty : ∀ k, k < N → parseFieldDescriptor (T k).2.2.1 = some (ty0 k)) (hnm : ∀ a, a < N → ∀ b, b < N → a ≠ b → (T a).2.1 ≠ (T b).2.1) (k : Nat) (hk : k < N) (hlink : Cond.fieldLink own index ref (T k).2.1 (T k).2.2.1 ∈ WS) (hsame : Cond.sameField ref (T k).1 (T k).2.1 (T k).2.2.1 ∈ WS) (hfin : (T k).2.2.2 = false) {v : Value} (hn : narrow (ty0 k) v = v) (hfit : fits (ty0 k) v = true) (hl : k < fs.length) {fs' : List Value} (hfs : fs.set k v = fs')
    (hdg : decode cc pc = .ok (.putfield index, 3)) (kk : ∀ (H1 : Heap) (locs1 : List Loc), xH E base al (xu w t (.inr (ci, fs'))) H1 → va_S (xA base) s.heap H1 locs1 → W p l e R s m args below meth c H1 locs1 cells slots Q (F0 m (pc + 3) ls rest)) : W p l e R s m args below meth c H locs cells slots Q (F0 m pc ls (v :: .ref (al t) :: rest)) := by
  have hd := hty k hk
  subst hfs
  have hap := va_apart (own := own) C.ws hin ty0 hty hnm C.st.K hc
  obtain ⟨r, h1, cell, q1, q2, q3, q4⟩ := (hH.1 t _ ht).2
  have hr : r = (C', T, N) := Option.some.inj (h1.symm.trans hc)
  subst hr
  obtain ⟨hS, hfc, kC, hkC, hkind⟩ := C.st.K.1 ci _ hc
  obtain ⟨cf, kf, fi, f, hi, hsl⟩ := hS k hk
  have hlay := C.ws _ (hin _ (u_in_lay hk))
  unfold u_lay at hlay
  rw [if_neg (by rw [hfin]; decide)] at hlay
  have hst := (u_facts hfc hkC (u_lays C.ws hin hk) hi).1
  have h6 := u_store hfc hkC hkind hlay hi hd hn hfit
  refine W.putK C.hx C.hb (f := f) ⟨C.hown, C.ws _ hlink, ⟨_, _, _, u_same (C.ws _ hsame) _ hi⟩, hst⟩ (by rw [q2]; exact h6) q1 q3 (by rw [hsl]; exact k2_hasslot (q4 k hk)) rfl rfl hdg fun H' e1 e2 e3 => ?_
  rw [hsl] at e1 ⊢
  exact kk H' _ (hH.set ht ⟨_, hc, t_OB.to (V := updV (vp_V fs) k v) ⟨_, e1, q2, q3, t_set q4 hap hk v⟩ (fun j _ => vp_updV_set hl v j)⟩ e3) (hS0.put e2 e3 (hH.1 t _ ht).1)
end XU
/-- behind add: the list holds one more; other cells stay where and what they were -/
def ADP (E : xE) (base : Nat) (al : Tg → Nat) (w : Tg → Option va_E) (tL tA : Tg) (n : Nat) (te : Nat → Tg) (H : Heap) : Prop :=
  ∃ (al' : Tg → Nat) (w' : Tg → Option va_E), xH E base al' w' H ∧ LRa E al' w' tL tA n te ∧ (∀ t, t ≠ tL → t ≠ tA → t ≠ (9, 9, 9) → w' t = w t ∧ al' t = al t) ∧ al' tL = al tL
theorem adp_A {E : xE} {base : Nat} {al : Tg → Nat} {w : Tg → Option va_E} {H : Heap} {tL tA tv : Tg} {n cap : Nat} {g : Nat → Option Nat} {mc : Int32} {te : Nat → Tg} (hLA : tL ≠ tA) (h1 : n < cap) (h10 : 10 ≤ cap) (h2 : cap ≤ 240) (hg : ∀ i, i < n → g i = some (al (te i)))
    (hH : xH E base al (xu (xu w tA (.inl (E.2.1 5, cap, .inr (.inr (.inr (.inr (va_up g n (some (al tv)))))))) ) tL (.inr (0, [.int mc, .ref (al tA), .int (nI (n + 1))]))) H) : ADP E base al w tL tA (n + 1) (fun i => if i = n then tv else te i) H := by
  refine ⟨al, _, hH, ⟨mc, cap, _, h1, h10, h2, xu_self _ _ _, xu_of (Ne.symm hLA) (xu_self _ _ _), fun i hi => ?_⟩, fun t h3 h4 _ => ⟨by rw [xu_ne h3, xu_ne h4], rfl⟩, rfl⟩
  show va_up g n (some (al tv)) i = some (al (if i = n then tv else te i))
  by_cases e : i = n
  · subst e; rw [va_up_self, if_pos rfl]
  · rw [va_up_ne _ _ e, if_neg e]; exact hg i (by omega)
theorem adp_E {E : xE} {base : Nat} {al : Tg → Nat} {w : Tg → Option va_E} {H : Heap} {tL tA tv : Tg} {mc : Int32} {q : Nat} {te : Nat → Tg} (hLA : tL ≠ tA) (hvA : tv ≠ tA)
    (hH : xH E base (xa al tA q) (xu (xu (xu (xu w tA (.inl (E.2.1 5, 10, .inr (.inr (.inr (.inr (fun _ => none))))))) tL (.inr (0, [.int mc, .ref q, .int (nI 0)]))) tA (.inl (E.2.1 5, 10, .inr (.inr (.inr (.inr (va_up (fun _ => none) 0 (some (xa al tA q tv))))))))) tL (.inr (0, [.int mc, .ref q, .int (nI (0 + 1))]))) H) : ADP E base al w tL tA (0 + 1) (fun i => if i = 0 then tv else te i) H := by
  refine ⟨_, _, hH, ⟨mc, 10, _, by omega, by omega, by omega, by rw [xa_self]; exact xu_self _ _ _, xu_of (Ne.symm hLA) (xu_self _ _ _), fun i hi => ?_⟩, fun t h3 h4 _ => ⟨by rw [xu_ne h3, xu_ne h4, xu_ne h3, xu_ne h4], xa_ne h4⟩, xa_ne hLA⟩
  have e : i = 0 := by omega
  subst e
  show va_up (fun _ => none) 0 (some (xa al tA q tv)) 0 = some (xa al tA q tv)
  rw [va_up_self]
theorem adp_B {E : xE} {base : Nat} {al : Tg → Nat} {w : Tg → Option va_E} {H : Heap} {tL tA tv : Tg} {n q : Nat} {g : Nat → Option Nat} {mc : Int32} {te : Nat → Tg} (hLA : tL ≠ tA) (hL9 : tL ≠ (9, 9, 9)) (hA9 : tA ≠ (9, 9, 9)) (h1 : 10 ≤ n) (h2 : n ≤ 160) (hg : ∀ i, i < n → g i = some (al (te i))) (hte : ∀ i, i < n → te i ≠ tL ∧ te i ≠ tA ∧ te i ≠ (9, 9, 9)) (hvA : tv ≠ tA) (hv9 : tv ≠ (9, 9, 9))
    (hH : xH E base (xa (xa al (9, 9, 9) q) tA q) (xu (xu (xu (xmv (xu w (9, 9, 9) (.inl (E.2.1 5, n + n / 2, .inr (.inr (.inr (.inr (fun i => if i < n then g i else none))))))) tA (9, 9, 9)) tL (.inr (0, [.int mc, .ref q, .int (nI n)]))) tA (.inl (E.2.1 5, n + n / 2, .inr (.inr (.inr (.inr (va_up (fun i => if i < n then g i else none) n (some (xa (xa al (9, 9, 9) q) tA q tv))))))))) tL (.inr (0, [.int mc, .ref q, .int (nI (n + 1))]))) H) : ADP E base al w tL tA (n + 1) (fun i => if i = n then tv else te i) H := by
  have ea : ∀ t, t ≠ tA → t ≠ (9, 9, 9) → xa (xa al (9, 9, 9) q) tA q t = al t := fun t a b => by rw [xa_ne a, xa_ne b]
  refine ⟨_, _, hH, ⟨mc, n + n / 2, _, by omega, by omega, by omega, by rw [xa_self]; exact xu_self _ _ _, xu_of (Ne.symm hLA) (xu_self _ _ _), fun i hi => ?_⟩, fun t h3 h4 h5 => ⟨?_, ea t h4 h5⟩, ea tL hLA hL9⟩
  · show va_up (fun i => if i < n then g i else none) n (some (xa (xa al (9, 9, 9) q) tA q tv)) i = some (xa (xa al (9, 9, 9) q) tA q (if i = n then tv else te i))
    by_cases e : i = n
    · subst e; rw [va_up_self, if_pos rfl]
    · rw [va_up_ne _ _ e, if_neg e, if_pos (by omega : i < n), hg i (by omega)]
      rw [ea _ (hte i (by omega)).2.1 (hte i (by omega)).2.2]
  · rw [xu_ne h3, xu_ne h4, xu_ne h3]
    unfold xmv
    rw [if_neg h4, if_neg h5, xu_ne h5]
theorem adp_mc {E : xE} {base : Nat} {al : Tg → Nat} {w : Tg → Option va_E} {H : Heap} {tL tA : Tg} {n : Nat} {te : Nat → Tg} {v : va_E} (h : ADP E base al (xu w tL v) tL tA n te H) : ADP E base al w tL tA n te H := by
  obtain ⟨al', w', a, b, c, d⟩ := h
  exact ⟨al', w', a, b, fun t h1 h2 h3 => ⟨by rw [(c t h1 h2 h3).1, xu_ne h1], (c t h1 h2 h3).2⟩, d⟩
set_option maxHeartbeats 4000000 in
set_option maxRecDepth 100000 in
theorem c_add3A (l : Launch) {E : xE} {base : Nat} {al : Tg → Nat} {w : Tg → Option va_E} {tL tA : Tg} {n cap : Nat} {g : Nat → Option Nat} {mc : Int32} (hL : w tL = some (.inr (0, [.int mc, .ref (al tA), .int (nI n)]))) (hLA : tL ≠ tA) (hA : w tA = some (.inl (E.2.1 5, cap, .inr (.inr (.inr (.inr g)))))) (h1 : n < cap) (h10 : 10 ≤ cap) (h2 : cap ≤ 240) {ci : Nat} {r : vw_C} (hc : vwCl[ci]? = some r) (hca : Cond.castable r.1 "java/lang/Object" ∈ NB) {tv : Tg} {vs : List Value} (hv : w tv = some (.inr (ci, vs))) {te : Nat → Tg} (hg : ∀ i, i < n → g i = some (al (te i))) (hte : ∀ i, i < n → (te i ≠ tL ∧ te i ≠ tA ∧ te i ≠ (9, 9, 9)) ∧ ∃ vs, w (te i) = some (.inr (ci, vs))) (hvL : tv ≠ tL) (hvA : tv ≠ tA) (hv9 : tv ≠ (9, 9, 9))  : xMet l yJx4a65c_add_72be8 cJx4a65c_add_72be8 4 none ({ frames := 5, cells := 1, slots := 360, locals := 147 } : Room) E base [.ref (al tL), .ref (al tv), .ref (al tA), .int (nI n)] (fun H => xH E base al w H) (fun r H => r = none ∧ ADP E base al w tL tA (n + 1) (fun i => if i = n then tv else te i) H) := by
  refine xMet.of (by decide +kernel) "java/util/ArrayList" rfl (Nat.le_of_ble_eq_true rfl) ?_
  intro p9 e9 s m9 below meth c9 ls C hin hP hS hl
  have hx := C.hx
  have hb := C.hb
  have hH := hP
  have hl : lv_has ls 4 [(0, .ref (al tL)), (1, .ref (al tv)), (2, .ref (al tA)), (3, .int (nI n))] := hl
  obtain ⟨post, hpost⟩ : ∃ zz9 : Option Value → Heap → Prop, zz9 = (fun r H => r = none ∧ ADP E base al w tL tA (n + 1) (fun i => if i = n then tv else te i) H) := ⟨_, rfl⟩
  rw [← hpost]
  generalize hQ : (MQ below (xQ base post) ([.ref (al tL), .ref (al tv), .ref (al tA), .int (nI n)] : List Value).toArray s 1 360 (xA base)) = Q
  refine lv_iload_n hx hb dJx4a65c_add_72be8_0 rfl (lv_at hl 3 rfl) ?_
  refine lv_aload_n hx hb dJx4a65c_add_72be8_1 rfl (lv_at hl 2 rfl) ?_
  refine x_alen (v := nI cap) C hH 5 rfl hA rfl dJx4a65c_add_72be8_2 ?_
  refine lv_icmp_ne (tgt := 11) hx hb dJx4a65c_add_72be8_3 (by decide) (fun c_1 => ?_) (fun c_1 => ?_)
  · skip
    replace c_1 := mt (nI_eq (by omega) (by omega)).mpr c_1
    refine lv_aload_n hx hb dJx4a65c_add_72be8_11 rfl (lv_at hl 2 rfl) ?_
    refine lv_iload_n hx hb dJx4a65c_add_72be8_12 rfl (lv_at hl 3 rfl) ?_
    refine lv_aload_n hx hb dJx4a65c_add_72be8_13 rfl (lv_at hl 1 rfl) ?_
    refine x_astqO C hH hS (ci := ci) hA hv hc hca (j := n) rfl (by omega) (by omega) dJx4a65c_add_72be8_14 (fun H locs hH hS => ?_)
    have hL := xu_of (t := tA) (e := .inl (E.2.1 5, cap, .inr (.inr (.inr (.inr (va_up g n (some (al tv)))))))) hLA hL
    have hA : (xu w tA (.inl (E.2.1 5, cap, .inr (.inr (.inr (.inr (va_up g n (some (al tv))))))))) tA = some (.inl (E.2.1 5, cap, .inr (.inr (.inr (.inr (va_up g n (some (al tv)))))))) := xu_self _ _ _
    refine lv_aload_n hx hb dJx4a65c_add_72be8_15 rfl (lv_at hl 0 rfl) ?_
    refine lv_iload_n hx hb dJx4a65c_add_72be8_16 rfl (lv_at hl 3 rfl) ?_
    refine lv_iconst (v := nI 1) hx hb dJx4a65c_add_72be8_17 (by decide +kernel) ?_
    refine lv_iadd hx hb dJx4a65c_add_72be8_18 ?_
    refine lv_re (nI_add _ _) ?_
    refine x_put C hH hS (ci := 0) (T := TJx4a65c) (N := 3) (fs' := [.int mc, .ref (al tA), .int (nI (n + 1))]) hL rfl iWJx4a65c tyJx4a65c tyJx4a65c_ok nmJx4a65c 2 (by decide) qw_48 rfl rfl rfl rfl (Nat.le_of_ble_eq_true rfl) rfl dJx4a65c_add_72be8_19 (fun H locs hH hS => ?_)
    have hA := xu_of (t := tL) (e := .inr (0, [.int mc, .ref (al tA), .int (nI (n + 1))])) (Ne.symm hLA) hA
    have hL : (xu (xu w tA (.inl (E.2.1 5, cap, .inr (.inr (.inr (.inr (va_up g n (some (al tv))))))))) tL (.inr (0, [.int mc, .ref (al tA), .int (nI (n + 1))]))) tL = some (.inr (0, [.int mc, .ref (al tA), .int (nI (n + 1))])) := xu_self _ _ _
    rw [← hQ]
    refine x_retv C hS (Nat.le_of_ble_eq_true rfl) (Nat.le_of_ble_eq_true rfl) dJx4a65c_add_72be8_22 ?_
    rw [hpost]
    exact ⟨rfl, adp_A hLA h1 h10 h2 hg hH⟩
  · skip
    replace c_1 := (nI_eq (by omega) (by omega)).mp c_1
    exfalso; omega

set_option maxHeartbeats 4000000 in
set_option maxRecDepth 100000 in
theorem c_add3B (l : Launch) {E : xE} {base : Nat} {al : Tg → Nat} {w : Tg → Option va_E} {tL tA : Tg} {n : Nat} {g : Nat → Option Nat} {mc : Int32} (hL : w tL = some (.inr (0, [.int mc, .ref (al tA), .int (nI n)]))) (hLA : tL ≠ tA) (hL9 : tL ≠ (9, 9, 9)) (hA : w tA = some (.inl (E.2.1 5, n, .inr (.inr (.inr (.inr g)))))) (h1 : 10 ≤ n) (h2 : n ≤ 160) (hne : tA ≠ (9, 9, 9)) {ci : Nat} {r : vw_C} (hc : vwCl[ci]? = some r) (hca : Cond.castable r.1 "java/lang/Object" ∈ NB) {tv : Tg} {vs : List Value} (hv : w tv = some (.inr (ci, vs))) {te : Nat → Tg} (hg : ∀ i, i < n → g i = some (al (te i))) (hte : ∀ i, i < n → (te i ≠ tL ∧ te i ≠ tA ∧ te i ≠ (9, 9, 9)) ∧ ∃ vs, w (te i) = some (.inr (ci, vs))) (hvL : tv ≠ tL) (hvA : tv ≠ tA) (hv9 : tv ≠ (9, 9, 9))  : xMet l yJx4a65c_add_72be8 cJx4a65c_add_72be8 4 none ({ frames := 5, cells := 1, slots := 360, locals := 147 } : Room) E base [.ref (al tL), .ref (al tv), .ref (al tA), .int (nI n)] (fun H => xH E base al w H) (fun r H => r = none ∧ ADP E base al w tL tA (n + 1) (fun i => if i = n then tv else te i) H) := by
  refine xMet.of (by decide +kernel) "java/util/ArrayList" rfl (Nat.le_of_ble_eq_true rfl) ?_
  intro p9 e9 s m9 below meth c9 ls C hin hP hS hl
  have hx := C.hx
  have hb := C.hb
  have hH := hP
  have hl : lv_has ls 4 [(0, .ref (al tL)), (1, .ref (al tv)), (2, .ref (al tA)), (3, .int (nI n))] := hl
  obtain ⟨post, hpost⟩ : ∃ zz9 : Option Value → Heap → Prop, zz9 = (fun r H => r = none ∧ ADP E base al w tL tA (n + 1) (fun i => if i = n then tv else te i) H) := ⟨_, rfl⟩
  rw [← hpost]
  generalize hQ : (MQ below (xQ base post) ([.ref (al tL), .ref (al tv), .ref (al tA), .int (nI n)] : List Value).toArray s 1 360 (xA base)) = Q
  have h240 : n ≤ 240 := by omega
  refine lv_iload_n hx hb dJx4a65c_add_72be8_0 rfl (lv_at hl 3 rfl) ?_
  refine lv_aload_n hx hb dJx4a65c_add_72be8_1 rfl (lv_at hl 2 rfl) ?_
  refine x_alen (v := nI n) C hH 5 rfl hA rfl dJx4a65c_add_72be8_2 ?_
  refine lv_icmp_ne (tgt := 11) hx hb dJx4a65c_add_72be8_3 (by decide) (fun c_1 => ?_) (fun c_1 => ?_)
  · skip
    replace c_1 := mt (nI_eq (by omega) (by omega)).mpr c_1
    exact absurd rfl c_1
  · skip
    replace c_1 := (nI_eq (by omega) (by omega)).mp c_1
    refine lv_aload_n hx hb dJx4a65c_add_72be8_6 rfl (lv_at hl 0 rfl) ?_
    refine x_callV C hH hS (ci := 0) (t := tL) hL rfl rfl (c_grow l (E := E) (base := base) hL hLA hL9 hA h1 h240 hne hc hca (fun i hi y hy => ⟨te i, (hte i hi).2.choose, (hte i hi).1.2.2, Option.some.inj ((hg i hi).symm.trans hy), (hte i hi).2.choose_spec⟩)) hH kJx4a65c_grow_d5877 qw_232 (ws_p (List.mem_of_getElem? (i := 2) rfl) rfl) qw_230  rfl [] rfl hl.1 (Nat.le_of_ble_eq_true rfl) ⟨Nat.le_of_ble_eq_true rfl, Nat.le_of_ble_eq_true rfl⟩ dJx4a65c_add_72be8_7 ⟨Nat.le_of_ble_eq_true rfl, Nat.le_of_ble_eq_true rfl⟩ (fun r_3 H locs hp_2 hS => ?_)
    obtain ⟨q, rfl, hH⟩ := hp_2
    have k1 : (xu (xmv (xu w (9, 9, 9) (.inl (E.2.1 5, n + n / 2, .inr (.inr (.inr (.inr (fun i => if i < n then g i else none))))))) tA (9, 9, 9)) tL (.inr (0, [.int mc, .ref q, .int (nI n)]))) tL = some (.inr (0, [.int mc, .ref q, .int (nI n)])) := xu_self _ _ _
    have k2 : (xu (xmv (xu w (9, 9, 9) (.inl (E.2.1 5, n + n / 2, .inr (.inr (.inr (.inr (fun i => if i < n then g i else none))))))) tA (9, 9, 9)) tL (.inr (0, [.int mc, .ref q, .int (nI n)]))) tA = some (.inl (E.2.1 5, n + n / 2, .inr (.inr (.inr (.inr (fun i => if i < n then g i else none)))))) := by rw [xu_ne (Ne.symm hLA)]; unfold xmv; rw [if_pos rfl, xu_self]
    have k3 : (xu (xmv (xu w (9, 9, 9) (.inl (E.2.1 5, n + n / 2, .inr (.inr (.inr (.inr (fun i => if i < n then g i else none))))))) tA (9, 9, 9)) tL (.inr (0, [.int mc, .ref q, .int (nI n)]))) tv = some (.inr (ci, vs)) := by rw [xu_ne hvL]; unfold xmv; rw [if_neg hvA, if_neg hv9, xu_ne hv9]; exact hv
    have e1 : (xa (xa al (9, 9, 9) q) tA q) tL = al tL := by rw [xa_ne hLA, xa_ne hL9]
    have e2 : (xa (xa al (9, 9, 9) q) tA q) tA = q := xa_self _ _ _
    have e3 : (xa (xa al (9, 9, 9) q) tA q) tv = al tv := by rw [xa_ne hvA, xa_ne hv9]
    refine lv_astore_n (lv' := [(2, .ref q), (0, .ref (al tL)), (1, .ref (al tv)), (3, .int (nI n))]) hx hb dJx4a65c_add_72be8_10 rfl hl (by decide) rfl (fun ls hl => ?_)
    refine lv_aload_n hx hb dJx4a65c_add_72be8_11 rfl (lv_at hl 0 rfl) ?_
    refine lv_iload_n hx hb dJx4a65c_add_72be8_12 rfl (lv_at hl 3 rfl) ?_
    refine lv_aload_n hx hb dJx4a65c_add_72be8_13 rfl (lv_at hl 2 rfl) ?_
    refine lv_adr3 e2.symm ?_
    refine lv_adr e3.symm ?_
    refine x_astqO C hH hS (ci := ci) k2 k3 hc hca (j := n) rfl (by omega) (by omega) dJx4a65c_add_72be8_14 (fun H locs hH hS => ?_)
    have k1 := xu_of (t := tA) (e := .inl (E.2.1 5, n + n / 2, .inr (.inr (.inr (.inr (va_up (fun i => if i < n then g i else none) n (some ((xa (xa al (9, 9, 9) q) tA q) tv)))))))) hLA k1
    have k2 : (xu (xu (xmv (xu w (9, 9, 9) (.inl (E.2.1 5, n + n / 2, .inr (.inr (.inr (.inr (fun i => if i < n then g i else none))))))) tA (9, 9, 9)) tL (.inr (0, [.int mc, .ref q, .int (nI n)]))) tA (.inl (E.2.1 5, n + n / 2, .inr (.inr (.inr (.inr (va_up (fun i => if i < n then g i else none) n (some ((xa (xa al (9, 9, 9) q) tA q) tv))))))))) tA = some (.inl (E.2.1 5, n + n / 2, .inr (.inr (.inr (.inr (va_up (fun i => if i < n then g i else none) n (some ((xa (xa al (9, 9, 9) q) tA q) tv)))))))) := xu_self _ _ _
    refine lv_aload_n hx hb dJx4a65c_add_72be8_15 rfl (lv_at hl 1 rfl) ?_
    refine lv_iload_n hx hb dJx4a65c_add_72be8_16 rfl (lv_at hl 3 rfl) ?_
    refine lv_iconst (v := nI 1) hx hb dJx4a65c_add_72be8_17 (by decide +kernel) ?_
    refine lv_iadd hx hb dJx4a65c_add_72be8_18 ?_
    refine lv_re (nI_add _ _) ?_
    refine lv_adr2 e1.symm ?_
    refine x_put C hH hS (ci := 0) (T := TJx4a65c) (N := 3) (fs' := [.int mc, .ref q, .int (nI (n + 1))]) k1 rfl iWJx4a65c tyJx4a65c tyJx4a65c_ok nmJx4a65c 2 (by decide) qw_48 rfl rfl rfl rfl (Nat.le_of_ble_eq_true rfl) rfl dJx4a65c_add_72be8_19 (fun H locs hH hS => ?_)
    have k2 := xu_of (t := tL) (e := .inr (0, [.int mc, .ref q, .int (nI (n + 1))])) (Ne.symm hLA) k2
    have k1 : (xu (xu (xu (xmv (xu w (9, 9, 9) (.inl (E.2.1 5, n + n / 2, .inr (.inr (.inr (.inr (fun i => if i < n then g i else none))))))) tA (9, 9, 9)) tL (.inr (0, [.int mc, .ref q, .int (nI n)]))) tA (.inl (E.2.1 5, n + n / 2, .inr (.inr (.inr (.inr (va_up (fun i => if i < n then g i else none) n (some ((xa (xa al (9, 9, 9) q) tA q) tv))))))))) tL (.inr (0, [.int mc, .ref q, .int (nI (n + 1))]))) tL = some (.inr (0, [.int mc, .ref q, .int (nI (n + 1))])) := xu_self _ _ _
    rw [← hQ]
    refine x_retv C hS (Nat.le_of_ble_eq_true rfl) (Nat.le_of_ble_eq_true rfl) dJx4a65c_add_72be8_22 ?_
    rw [hpost]
    exact ⟨rfl, adp_B hLA hL9 hne h1 h2 hg (fun i hi => (hte i hi).1) hvA hv9 hH⟩

set_option maxHeartbeats 4000000 in
set_option maxRecDepth 100000 in
theorem c_add3E (l : Launch) {E : xE} {base : Nat} {al : Tg → Nat} {w : Tg → Option va_E} {tL tA : Tg} {mc : Int32} (hL : w tL = some (.inr (0, [.int mc, .ref (E.2.2 1), .int (nI 0)]))) (hLA : tL ≠ tA) {ci : Nat} {r : vw_C} (hc : vwCl[ci]? = some r) (hca : Cond.castable r.1 "java/lang/Object" ∈ NB) {tv : Tg} {vs : List Value} (hv : w tv = some (.inr (ci, vs))) (hvL : tv ≠ tL) (hvA : tv ≠ tA) (hv9 : tv ≠ (9, 9, 9)) {te : Nat → Tg}  : xMet l yJx4a65c_add_72be8 cJx4a65c_add_72be8 4 none ({ frames := 5, cells := 1, slots := 360, locals := 147 } : Room) E base [.ref (al tL), .ref (al tv), .ref (E.2.2 1), .int (nI 0)] (fun H => xH E base al w H) (fun r H => r = none ∧ ADP E base al w tL tA (0 + 1) (fun i => if i = 0 then tv else te i) H) := by
  refine xMet.of (by decide +kernel) "java/util/ArrayList" rfl (Nat.le_of_ble_eq_true rfl) ?_
  intro p9 e9 s m9 below meth c9 ls C hin hP hS hl
  have hx := C.hx
  have hb := C.hb
  have hH := hP
  have hl : lv_has ls 4 [(0, .ref (al tL)), (1, .ref (al tv)), (2, .ref (E.2.2 1)), (3, .int (nI 0))] := hl
  obtain ⟨post, hpost⟩ : ∃ zz9 : Option Value → Heap → Prop, zz9 = (fun r H => r = none ∧ ADP E base al w tL tA (0 + 1) (fun i => if i = 0 then tv else te i) H) := ⟨_, rfl⟩
  rw [← hpost]
  generalize hQ : (MQ below (xQ base post) ([.ref (al tL), .ref (al tv), .ref (E.2.2 1), .int (nI 0)] : List Value).toArray s 1 360 (xA base)) = Q
  refine lv_iload_n hx hb dJx4a65c_add_72be8_0 rfl (lv_at hl 3 rfl) ?_
  refine lv_aload_n hx hb dJx4a65c_add_72be8_1 rfl (lv_at hl 2 rfl) ?_
  refine x_lenE C hS dJx4a65c_add_72be8_2 ?_
  refine lv_icmp_ne (tgt := 11) hx hb dJx4a65c_add_72be8_3 (by decide) (fun c_1 => absurd c_1 (by decide +kernel)) (fun c_1 => ?_)
  clear c_1
  refine lv_aload_n hx hb dJx4a65c_add_72be8_6 rfl (lv_at hl 0 rfl) ?_
  refine x_callV C hH hS (ci := 0) (t := tL) hL rfl rfl (c_growE l (E := E) (base := base) hL hLA) hH kJx4a65c_grow_d5877 qw_232 (ws_p (List.mem_of_getElem? (i := 2) rfl) rfl) qw_230  rfl [] rfl hl.1 (Nat.le_of_ble_eq_true rfl) ⟨Nat.le_of_ble_eq_true rfl, Nat.le_of_ble_eq_true rfl⟩ dJx4a65c_add_72be8_7 ⟨Nat.le_of_ble_eq_true rfl, Nat.le_of_ble_eq_true rfl⟩ (fun r_3 H locs hp_2 hS => ?_)
  obtain ⟨q, rfl, hH⟩ := hp_2
  have k1 : (xu (xu w tA (.inl (E.2.1 5, 10, .inr (.inr (.inr (.inr (fun _ => none))))))) tL (.inr (0, [.int mc, .ref q, .int (nI 0)]))) tL = some (.inr (0, [.int mc, .ref q, .int (nI 0)])) := xu_self _ _ _
  have k2 : (xu (xu w tA (.inl (E.2.1 5, 10, .inr (.inr (.inr (.inr (fun _ => none))))))) tL (.inr (0, [.int mc, .ref q, .int (nI 0)]))) tA = some (.inl (E.2.1 5, 10, .inr (.inr (.inr (.inr (fun _ => none)))))) := by rw [xu_ne (Ne.symm hLA), xu_self]
  have k3 : (xu (xu w tA (.inl (E.2.1 5, 10, .inr (.inr (.inr (.inr (fun _ => none))))))) tL (.inr (0, [.int mc, .ref q, .int (nI 0)]))) tv = some (.inr (ci, vs)) := by rw [xu_ne hvL, xu_ne hvA]; exact hv
  have e1 : (xa al tA q) tL = al tL := xa_ne hLA
  have e2 : (xa al tA q) tA = q := xa_self _ _ _
  have e3 : (xa al tA q) tv = al tv := xa_ne hvA
  refine lv_astore_n (lv' := [(2, .ref q), (0, .ref (al tL)), (1, .ref (al tv)), (3, .int (nI 0))]) hx hb dJx4a65c_add_72be8_10 rfl hl (by decide) rfl (fun ls hl => ?_)
  refine lv_aload_n hx hb dJx4a65c_add_72be8_11 rfl (lv_at hl 0 rfl) ?_
  refine lv_iload_n hx hb dJx4a65c_add_72be8_12 rfl (lv_at hl 3 rfl) ?_
  refine lv_aload_n hx hb dJx4a65c_add_72be8_13 rfl (lv_at hl 2 rfl) ?_
  refine lv_adr3 e2.symm ?_
  refine lv_adr e3.symm ?_
  refine x_astqO C hH hS (ci := ci) k2 k3 hc hca (j := 0) rfl (by omega) (by omega) dJx4a65c_add_72be8_14 (fun H locs hH hS => ?_)
  have k1 := xu_of (t := tA) (e := .inl (E.2.1 5, 10, .inr (.inr (.inr (.inr (va_up (fun _ => none) 0 (some ((xa al tA q) tv)))))))) hLA k1
  have k2 : (xu (xu (xu w tA (.inl (E.2.1 5, 10, .inr (.inr (.inr (.inr (fun _ => none))))))) tL (.inr (0, [.int mc, .ref q, .int (nI 0)]))) tA (.inl (E.2.1 5, 10, .inr (.inr (.inr (.inr (va_up (fun _ => none) 0 (some ((xa al tA q) tv))))))))) tA = some (.inl (E.2.1 5, 10, .inr (.inr (.inr (.inr (va_up (fun _ => none) 0 (some ((xa al tA q) tv)))))))) := xu_self _ _ _
  refine lv_aload_n hx hb dJx4a65c_add_72be8_15 rfl (lv_at hl 1 rfl) ?_
  refine lv_iload_n hx hb dJx4a65c_add_72be8_16 rfl (lv_at hl 3 rfl) ?_
  refine lv_iconst (v := nI 1) hx hb dJx4a65c_add_72be8_17 (by decide +kernel) ?_
  refine lv_iadd hx hb dJx4a65c_add_72be8_18 ?_
  refine lv_re (y := nI 1) (by decide +kernel) ?_
  refine lv_adr2 e1.symm ?_
  refine x_put C hH hS (ci := 0) (T := TJx4a65c) (N := 3) (fs' := [.int mc, .ref q, .int (nI 1)]) k1 rfl iWJx4a65c tyJx4a65c tyJx4a65c_ok nmJx4a65c 2 (by decide) qw_48 rfl rfl rfl rfl (Nat.le_of_ble_eq_true rfl) rfl dJx4a65c_add_72be8_19 (fun H locs hH hS => ?_)
  have k2 := xu_of (t := tL) (e := .inr (0, [.int mc, .ref q, .int (nI 1)])) (Ne.symm hLA) k2
  have k1 : (xu (xu (xu (xu w tA (.inl (E.2.1 5, 10, .inr (.inr (.inr (.inr (fun _ => none))))))) tL (.inr (0, [.int mc, .ref q, .int (nI 0)]))) tA (.inl (E.2.1 5, 10, .inr (.inr (.inr (.inr (va_up (fun _ => none) 0 (some ((xa al tA q) tv))))))))) tL (.inr (0, [.int mc, .ref q, .int (nI 1)]))) tL = some (.inr (0, [.int mc, .ref q, .int (nI 1)])) := xu_self _ _ _
  rw [← hQ]
  refine x_retv C hS (Nat.le_of_ble_eq_true rfl) (Nat.le_of_ble_eq_true rfl) dJx4a65c_add_72be8_22 ?_
  rw [hpost]
  exact ⟨rfl, adp_E hLA hvA hH⟩

set_option maxHeartbeats 4000000 in
set_option maxRecDepth 100000 in
theorem c_addA (l : Launch) {E : xE} {base : Nat} {al : Tg → Nat} {w : Tg → Option va_E} {tL tA : Tg} {n cap : Nat} {g : Nat → Option Nat} {mc : Int32} (hL : w tL = some (.inr (0, [.int mc, .ref (al tA), .int (nI n)]))) (hLA : tL ≠ tA) (hA : w tA = some (.inl (E.2.1 5, cap, .inr (.inr (.inr (.inr g)))))) (h1 : n < cap) (h10 : 10 ≤ cap) (h2 : cap ≤ 240) {ci : Nat} {r : vw_C} (hc : vwCl[ci]? = some r) (hca : Cond.castable r.1 "java/lang/Object" ∈ NB) {tv : Tg} {vs : List Value} (hv : w tv = some (.inr (ci, vs))) {te : Nat → Tg} (hg : ∀ i, i < n → g i = some (al (te i))) (hte : ∀ i, i < n → (te i ≠ tL ∧ te i ≠ tA ∧ te i ≠ (9, 9, 9)) ∧ ∃ vs, w (te i) = some (.inr (ci, vs))) (hvL : tv ≠ tL) (hvA : tv ≠ tA) (hv9 : tv ≠ (9, 9, 9))  : xMet l yJx4a65c_add_9ea2d cJx4a65c_add_9ea2d 2 (some (.boolean)) ({ frames := 6, cells := 1, slots := 360, locals := 170 } : Room) E base [.ref (al tL), .ref (al tv)] (fun H => xH E base al w H) (fun r H => r = some (.int (nI 1)) ∧ ADP E base al w tL tA (n + 1) (fun i => if i = n then tv else te i) H) := by
  refine xMet.of (by decide +kernel) "java/util/ArrayList" rfl (Nat.le_of_ble_eq_true rfl) ?_
  intro p9 e9 s m9 below meth c9 ls C hin hP hS hl
  have hx := C.hx
  have hb := C.hb
  have hH := hP
  have hl : lv_has ls 2 [(0, .ref (al tL)), (1, .ref (al tv))] := hl
  obtain ⟨post, hpost⟩ : ∃ zz9 : Option Value → Heap → Prop, zz9 = (fun r H => r = some (.int (nI 1)) ∧ ADP E base al w tL tA (n + 1) (fun i => if i = n then tv else te i) H) := ⟨_, rfl⟩
  rw [← hpost]
  generalize hQ : (MQ below (xQ base post) ([.ref (al tL), .ref (al tv)] : List Value).toArray s 1 360 (xA base)) = Q
  refine lv_aload_n hx hb dJx4a65c_add_9ea2d_0 rfl (lv_at hl 0 rfl) ?_
  refine lv_dup hx hb dJx4a65c_add_9ea2d_1 rfl ?_
  refine x_getU C hH (ci := 0) (T := TJx4a65c) (N := 3) hL rfl iWJx4a65c 0 (by decide) qw_50 qw_51 rfl dJx4a65c_add_9ea2d_2 ?_
  refine lv_iconst (v := nI 1) hx hb dJx4a65c_add_9ea2d_5 (by decide +kernel) ?_
  refine lv_iadd hx hb dJx4a65c_add_9ea2d_6 ?_
  refine x_putU C hH hS (ci := 0) (T := TJx4a65c) (N := 3) (fs' := [.int (mc + nI 1), .ref (al tA), .int (nI n)]) hL rfl iWJx4a65c tyJx4a65c tyJx4a65c_ok nmJx4a65c 0 (by decide) qw_50 qw_51 rfl rfl rfl (Nat.le_of_ble_eq_true rfl) rfl dJx4a65c_add_9ea2d_7 (fun H locs hH hS => ?_)
  have hA := xu_of (t := tL) (e := .inr (0, [.int (mc + nI 1), .ref (al tA), .int (nI n)])) (Ne.symm hLA) hA
  have hL : (xu w tL (.inr (0, [.int (mc + nI 1), .ref (al tA), .int (nI n)]))) tL = some (.inr (0, [.int (mc + nI 1), .ref (al tA), .int (nI n)])) := xu_self _ _ _
  refine lv_aload_n hx hb dJx4a65c_add_9ea2d_10 rfl (lv_at hl 0 rfl) ?_
  refine lv_aload_n hx hb dJx4a65c_add_9ea2d_11 rfl (lv_at hl 1 rfl) ?_
  refine lv_aload_n hx hb dJx4a65c_add_9ea2d_12 rfl (lv_at hl 0 rfl) ?_
  refine x_get C hH (ci := 0) (T := TJx4a65c) (N := 3) hL rfl iWJx4a65c 1 (by decide) qw_47 rfl rfl dJx4a65c_add_9ea2d_13 ?_
  refine lv_aload_n hx hb dJx4a65c_add_9ea2d_16 rfl (lv_at hl 0 rfl) ?_
  refine x_get C hH (ci := 0) (T := TJx4a65c) (N := 3) hL rfl iWJx4a65c 2 (by decide) qw_48 rfl rfl dJx4a65c_add_9ea2d_17 ?_
  refine x_callV C hH hS (ci := 0) (t := tL) hL rfl rfl (c_add3A l (E := E) (base := base) hL hLA hA h1 h10 h2 hc hca (xu_of hvL hv) hg (fun i hi => ⟨(hte i hi).1, (hte i hi).2.choose, xu_of (hte i hi).1.1 (hte i hi).2.choose_spec⟩) hvL hvA hv9) hH kJx4a65c_add_72be8 qw_228 (ws_p (List.mem_of_getElem? (i := 1) rfl) rfl) qw_226  rfl [] rfl hl.1 (Nat.le_of_ble_eq_true rfl) ⟨Nat.le_of_ble_eq_true rfl, Nat.le_of_ble_eq_true rfl⟩ dJx4a65c_add_9ea2d_20 ⟨Nat.le_of_ble_eq_true rfl, Nat.le_of_ble_eq_true rfl⟩ (fun r_2 H locs hp_1 hS => ?_)
  obtain ⟨rfl, hAD⟩ := hp_1
  refine lv_iconst (v := nI 1) hx hb dJx4a65c_add_9ea2d_23 (by decide +kernel) ?_
  rw [← hQ]
  refine x_reti C rfl hS (Nat.le_of_ble_eq_true rfl) (Nat.le_of_ble_eq_true rfl) dJx4a65c_add_9ea2d_24 ?_
  rw [hpost]
  exact ⟨rfl, adp_mc hAD⟩

set_option maxHeartbeats 4000000 in
set_option maxRecDepth 100000 in
theorem c_addB (l : Launch) {E : xE} {base : Nat} {al : Tg → Nat} {w : Tg → Option va_E} {tL tA : Tg} {n : Nat} {g : Nat → Option Nat} {mc : Int32} (hL : w tL = some (.inr (0, [.int mc, .ref (al tA), .int (nI n)]))) (hLA : tL ≠ tA) (hL9 : tL ≠ (9, 9, 9)) (hA : w tA = some (.inl (E.2.1 5, n, .inr (.inr (.inr (.inr g)))))) (h1 : 10 ≤ n) (h2 : n ≤ 160) (hne : tA ≠ (9, 9, 9)) {ci : Nat} {r : vw_C} (hc : vwCl[ci]? = some r) (hca : Cond.castable r.1 "java/lang/Object" ∈ NB) {tv : Tg} {vs : List Value} (hv : w tv = some (.inr (ci, vs))) {te : Nat → Tg} (hg : ∀ i, i < n → g i = some (al (te i))) (hte : ∀ i, i < n → (te i ≠ tL ∧ te i ≠ tA ∧ te i ≠ (9, 9, 9)) ∧ ∃ vs, w (te i) = some (.inr (ci, vs))) (hvL : tv ≠ tL) (hvA : tv ≠ tA) (hv9 : tv ≠ (9, 9, 9))  : xMet l yJx4a65c_add_9ea2d cJx4a65c_add_9ea2d 2 (some (.boolean)) ({ frames := 6, cells := 1, slots := 360, locals := 170 } : Room) E base [.ref (al tL), .ref (al tv)] (fun H => xH E base al w H) (fun r H => r = some (.int (nI 1)) ∧ ADP E base al w tL tA (n + 1) (fun i => if i = n then tv else te i) H) := by
  refine xMet.of (by decide +kernel) "java/util/ArrayList" rfl (Nat.le_of_ble_eq_true rfl) ?_
  intro p9 e9 s m9 below meth c9 ls C hin hP hS hl
  have hx := C.hx
  have hb := C.hb
  have hH := hP
  have hl : lv_has ls 2 [(0, .ref (al tL)), (1, .ref (al tv))] := hl
  obtain ⟨post, hpost⟩ : ∃ zz9 : Option Value → Heap → Prop, zz9 = (fun r H => r = some (.int (nI 1)) ∧ ADP E base al w tL tA (n + 1) (fun i => if i = n then tv else te i) H) := ⟨_, rfl⟩
  rw [← hpost]
  generalize hQ : (MQ below (xQ base post) ([.ref (al tL), .ref (al tv)] : List Value).toArray s 1 360 (xA base)) = Q
  refine lv_aload_n hx hb dJx4a65c_add_9ea2d_0 rfl (lv_at hl 0 rfl) ?_
  refine lv_dup hx hb dJx4a65c_add_9ea2d_1 rfl ?_
  refine x_getU C hH (ci := 0) (T := TJx4a65c) (N := 3) hL rfl iWJx4a65c 0 (by decide) qw_50 qw_51 rfl dJx4a65c_add_9ea2d_2 ?_
  refine lv_iconst (v := nI 1) hx hb dJx4a65c_add_9ea2d_5 (by decide +kernel) ?_
  refine lv_iadd hx hb dJx4a65c_add_9ea2d_6 ?_
  refine x_putU C hH hS (ci := 0) (T := TJx4a65c) (N := 3) (fs' := [.int (mc + nI 1), .ref (al tA), .int (nI n)]) hL rfl iWJx4a65c tyJx4a65c tyJx4a65c_ok nmJx4a65c 0 (by decide) qw_50 qw_51 rfl rfl rfl (Nat.le_of_ble_eq_true rfl) rfl dJx4a65c_add_9ea2d_7 (fun H locs hH hS => ?_)
  have hA := xu_of (t := tL) (e := .inr (0, [.int (mc + nI 1), .ref (al tA), .int (nI n)])) (Ne.symm hLA) hA
  have hL : (xu w tL (.inr (0, [.int (mc + nI 1), .ref (al tA), .int (nI n)]))) tL = some (.inr (0, [.int (mc + nI 1), .ref (al tA), .int (nI n)])) := xu_self _ _ _
  refine lv_aload_n hx hb dJx4a65c_add_9ea2d_10 rfl (lv_at hl 0 rfl) ?_
  refine lv_aload_n hx hb dJx4a65c_add_9ea2d_11 rfl (lv_at hl 1 rfl) ?_
  refine lv_aload_n hx hb dJx4a65c_add_9ea2d_12 rfl (lv_at hl 0 rfl) ?_
  refine x_get C hH (ci := 0) (T := TJx4a65c) (N := 3) hL rfl iWJx4a65c 1 (by decide) qw_47 rfl rfl dJx4a65c_add_9ea2d_13 ?_
  refine lv_aload_n hx hb dJx4a65c_add_9ea2d_16 rfl (lv_at hl 0 rfl) ?_
  refine x_get C hH (ci := 0) (T := TJx4a65c) (N := 3) hL rfl iWJx4a65c 2 (by decide) qw_48 rfl rfl dJx4a65c_add_9ea2d_17 ?_
  refine x_callV C hH hS (ci := 0) (t := tL) hL rfl rfl (c_add3B l (E := E) (base := base) hL hLA hL9 hA h1 h2 hne hc hca (xu_of hvL hv) hg (fun i hi => ⟨(hte i hi).1, (hte i hi).2.choose, xu_of (hte i hi).1.1 (hte i hi).2.choose_spec⟩) hvL hvA hv9) hH kJx4a65c_add_72be8 qw_228 (ws_p (List.mem_of_getElem? (i := 1) rfl) rfl) qw_226  rfl [] rfl hl.1 (Nat.le_of_ble_eq_true rfl) ⟨Nat.le_of_ble_eq_true rfl, Nat.le_of_ble_eq_true rfl⟩ dJx4a65c_add_9ea2d_20 ⟨Nat.le_of_ble_eq_true rfl, Nat.le_of_ble_eq_true rfl⟩ (fun r_2 H locs hp_1 hS => ?_)
  obtain ⟨rfl, hAD⟩ := hp_1
  refine lv_iconst (v := nI 1) hx hb dJx4a65c_add_9ea2d_23 (by decide +kernel) ?_
  rw [← hQ]
  refine x_reti C rfl hS (Nat.le_of_ble_eq_true rfl) (Nat.le_of_ble_eq_true rfl) dJx4a65c_add_9ea2d_24 ?_
  rw [hpost]
  exact ⟨rfl, adp_mc hAD⟩

set_option maxHeartbeats 4000000 in
set_option maxRecDepth 100000 in
theorem c_addE (l : Launch) {E : xE} {base : Nat} {al : Tg → Nat} {w : Tg → Option va_E} {tL tA : Tg} {mc : Int32} (hL : w tL = some (.inr (0, [.int mc, .ref (E.2.2 1), .int (nI 0)]))) (hLA : tL ≠ tA) {ci : Nat} {r : vw_C} (hc : vwCl[ci]? = some r) (hca : Cond.castable r.1 "java/lang/Object" ∈ NB) {tv : Tg} {vs : List Value} (hv : w tv = some (.inr (ci, vs))) (hvL : tv ≠ tL) (hvA : tv ≠ tA) (hv9 : tv ≠ (9, 9, 9)) {te : Nat → Tg}  : xMet l yJx4a65c_add_9ea2d cJx4a65c_add_9ea2d 2 (some (.boolean)) ({ frames := 6, cells := 1, slots := 360, locals := 170 } : Room) E base [.ref (al tL), .ref (al tv)] (fun H => xH E base al w H) (fun r H => r = some (.int (nI 1)) ∧ ADP E base al w tL tA (0 + 1) (fun i => if i = 0 then tv else te i) H) := by
  refine xMet.of (by decide +kernel) "java/util/ArrayList" rfl (Nat.le_of_ble_eq_true rfl) ?_
  intro p9 e9 s m9 below meth c9 ls C hin hP hS hl
  have hx := C.hx
  have hb := C.hb
  have hH := hP
  have hl : lv_has ls 2 [(0, .ref (al tL)), (1, .ref (al tv))] := hl
  obtain ⟨post, hpost⟩ : ∃ zz9 : Option Value → Heap → Prop, zz9 = (fun r H => r = some (.int (nI 1)) ∧ ADP E base al w tL tA (0 + 1) (fun i => if i = 0 then tv else te i) H) := ⟨_, rfl⟩
  rw [← hpost]
  generalize hQ : (MQ below (xQ base post) ([.ref (al tL), .ref (al tv)] : List Value).toArray s 1 360 (xA base)) = Q
  refine lv_aload_n hx hb dJx4a65c_add_9ea2d_0 rfl (lv_at hl 0 rfl) ?_
  refine lv_dup hx hb dJx4a65c_add_9ea2d_1 rfl ?_
  refine x_getU C hH (ci := 0) (T := TJx4a65c) (N := 3) hL rfl iWJx4a65c 0 (by decide) qw_50 qw_51 rfl dJx4a65c_add_9ea2d_2 ?_
  refine lv_iconst (v := nI 1) hx hb dJx4a65c_add_9ea2d_5 (by decide +kernel) ?_
  refine lv_iadd hx hb dJx4a65c_add_9ea2d_6 ?_
  refine x_putU C hH hS (ci := 0) (T := TJx4a65c) (N := 3) (fs' := [.int (mc + nI 1), .ref (E.2.2 1), .int (nI 0)]) hL rfl iWJx4a65c tyJx4a65c tyJx4a65c_ok nmJx4a65c 0 (by decide) qw_50 qw_51 rfl rfl rfl (Nat.le_of_ble_eq_true rfl) rfl dJx4a65c_add_9ea2d_7 (fun H locs hH hS => ?_)
  have hL : (xu w tL (.inr (0, [.int (mc + nI 1), .ref (E.2.2 1), .int (nI 0)]))) tL = some (.inr (0, [.int (mc + nI 1), .ref (E.2.2 1), .int (nI 0)])) := xu_self _ _ _
  refine lv_aload_n hx hb dJx4a65c_add_9ea2d_10 rfl (lv_at hl 0 rfl) ?_
  refine lv_aload_n hx hb dJx4a65c_add_9ea2d_11 rfl (lv_at hl 1 rfl) ?_
  refine lv_aload_n hx hb dJx4a65c_add_9ea2d_12 rfl (lv_at hl 0 rfl) ?_
  refine x_get C hH (ci := 0) (T := TJx4a65c) (N := 3) hL rfl iWJx4a65c 1 (by decide) qw_47 rfl rfl dJx4a65c_add_9ea2d_13 ?_
  refine lv_aload_n hx hb dJx4a65c_add_9ea2d_16 rfl (lv_at hl 0 rfl) ?_
  refine x_get C hH (ci := 0) (T := TJx4a65c) (N := 3) hL rfl iWJx4a65c 2 (by decide) qw_48 rfl rfl dJx4a65c_add_9ea2d_17 ?_
  refine x_callV C hH hS (ci := 0) (t := tL) hL rfl rfl (c_add3E l (E := E) (base := base) (te := te) hL hLA hc hca (xu_of hvL hv) hvL hvA hv9) hH kJx4a65c_add_72be8 qw_228 (ws_p (List.mem_of_getElem? (i := 1) rfl) rfl) qw_226  rfl [] rfl hl.1 (Nat.le_of_ble_eq_true rfl) ⟨Nat.le_of_ble_eq_true rfl, Nat.le_of_ble_eq_true rfl⟩ dJx4a65c_add_9ea2d_20 ⟨Nat.le_of_ble_eq_true rfl, Nat.le_of_ble_eq_true rfl⟩ (fun r_2 H locs hp_1 hS => ?_)
  obtain ⟨rfl, hAD⟩ := hp_1
  refine lv_iconst (v := nI 1) hx hb dJx4a65c_add_9ea2d_23 (by decide +kernel) ?_
  rw [← hQ]
  refine x_reti C rfl hS (Nat.le_of_ble_eq_true rfl) (Nat.le_of_ble_eq_true rfl) dJx4a65c_add_9ea2d_24 ?_
  rw [hpost]
  exact ⟨rfl, adp_mc hAD⟩

/-- add: one element more, the others stay -/
theorem c_add (l : Launch) {E : xE} {base : Nat} {al : Tg → Nat} {w : Tg → Option va_E} {tL tA : Tg} {n : Nat} {te : Nat → Tg} (hLR : LR E al w tL tA n te) (hn : n < 150) (hLA : tL ≠ tA) (hL9 : tL ≠ (9, 9, 9)) (hne : tA ≠ (9, 9, 9)) {ci : Nat} {r : vw_C} (hc : vwCl[ci]? = some r) (hca : Cond.castable r.1 "java/lang/Object" ∈ NB) {tv : Tg} {vs : List Value} (hv : w tv = some (.inr (ci, vs))) (hte : ∀ i, i < n → (te i ≠ tL ∧ te i ≠ tA ∧ te i ≠ (9, 9, 9)) ∧ ∃ vs, w (te i) = some (.inr (ci, vs))) (hvL : tv ≠ tL) (hvA : tv ≠ tA) (hv9 : tv ≠ (9, 9, 9)) : xMet l yJx4a65c_add_9ea2d cJx4a65c_add_9ea2d 2 (some (.boolean)) ({ frames := 6, cells := 1, slots := 360, locals := 170 } : Room) E base [.ref (al tL), .ref (al tv)] (fun H => xH E base al w H) (fun r H => r = some (.int (nI 1)) ∧ ADP E base al w tL tA (n + 1) (fun i => if i = n then tv else te i) H) := by
  rcases hLR with ⟨rfl, mc, h⟩ | ⟨mc, cap, g, a1, a2, a3, a4, a5, a6⟩
  · exact c_addE l h hLA hc hca hv hvL hvA hv9
  · rcases Nat.lt_or_ge n cap with q | q
    · exact c_addA l a4 hLA a5 q a2 a3 hc hca hv a6 hte hvL hvA hv9
    · have e : cap = n := by omega
      subst e
      exact c_addB l a4 hLA hL9 a5 a2 (by omega) hne hc hca hv a6 hte hvL hvA hv9
end
section
def tlv (a b c d e g : Int32) : Nat → Int32
  | 0 => a | 1 => b | 2 => c | 3 => d | 4 => g | _ => e
theorem rg_of {z : Int32} {n : Nat} (hn : n < 2 ^ 31) (h : nI 0 ≤ z ∧ z ≤ nI n) : ∃ k, k ≤ n ∧ z = nI k := by
  obtain ⟨j, hj, rfl⟩ := nI_of (x := z) (Int32.not_lt.mpr h.1)
  exact ⟨j, (nI_leI hj hn).mp h.2, rfl⟩
set_option maxHeartbeats 4000000 in
set_option maxRecDepth 100000 in
theorem c_tell (l : Launch) {E : xE} {base : Nat} {al : Tg → Nat} {w : Tg → Option va_E} {t : Tg} {a b c d e : Int32} {g : Bool} {k : Nat} (hk : k ≤ 5) (ht : w t = some (.inr (1, [.int a, .int b, .int c, .int d, .int e, .int (ob g)]))) : xMet l yX0_tell cX0_tell 2 (some (.int)) ({ frames := 0, cells := 0, slots := 0, locals := 0 } : Room) E base [.ref (al t), .int (nI k)] (fun H => xH E base al w H) (fun r H => r = some (.int (tlv a b c d e (ob g) k)) ∧ xH E base al w H) := by
  refine xMet.of (by decide +kernel) "Dataroom$Answer" rfl (Nat.le_of_ble_eq_true rfl) ?_
  intro p9 e9 s m9 below meth c9 ls C hin hP hS hl
  have hx := C.hx
  have hb := C.hb
  have hH := hP
  have hl : lv_has ls 2 [(0, .ref (al t)), (1, .int (nI k))] := hl
  obtain ⟨post, hpost⟩ : ∃ zz9 : Option Value → Heap → Prop, zz9 = (fun r H => r = some (.int (tlv a b c d e (ob g) k)) ∧ xH E base al w H) := ⟨_, rfl⟩
  rw [← hpost]
  generalize hQ : (MQ below (xQ base post) ([.ref (al t), .int (nI k)] : List Value).toArray s 0 0 (xA base)) = Q
  rcases (show k = 0 ∨ k = 1 ∨ k = 2 ∨ k = 3 ∨ k = 4 ∨ k = 5 by omega) with rfl | rfl | rfl | rfl | rfl | rfl
  · skip
    refine lv_iload_n hx hb dX0_tell_0 rfl (lv_at hl 1 rfl) ?_
    refine lv_tableIn (tgt := 36) (off := 35) hx hb dX0_tell_1 (by decide +kernel) (by decide +kernel) rfl rfl ?_
    refine lv_aload_n hx hb dX0_tell_36 rfl (lv_at hl 0 rfl) ?_
    refine x_get C hH (ci := 1) (T := TX0) (N := 6) ht rfl iWX0 0 (by decide) qw_543 rfl rfl dX0_tell_37 ?_
    rw [← hQ]
    refine x_reti C rfl hS (Nat.le_of_ble_eq_true rfl) (Nat.le_of_ble_eq_true rfl) dX0_tell_40 ?_
    rw [hpost]
    exact ⟨rfl, hH⟩
  · skip
    refine lv_iload_n hx hb dX0_tell_0 rfl (lv_at hl 1 rfl) ?_
    refine lv_tableIn (tgt := 41) (off := 40) hx hb dX0_tell_1 (by decide +kernel) (by decide +kernel) rfl rfl ?_
    refine lv_aload_n hx hb dX0_tell_41 rfl (lv_at hl 0 rfl) ?_
    refine x_get C hH (ci := 1) (T := TX0) (N := 6) ht rfl iWX0 1 (by decide) qw_544 rfl rfl dX0_tell_42 ?_
    rw [← hQ]
    refine x_reti C rfl hS (Nat.le_of_ble_eq_true rfl) (Nat.le_of_ble_eq_true rfl) dX0_tell_45 ?_
    rw [hpost]
    exact ⟨rfl, hH⟩
  · skip
    refine lv_iload_n hx hb dX0_tell_0 rfl (lv_at hl 1 rfl) ?_
    refine lv_tableIn (tgt := 46) (off := 45) hx hb dX0_tell_1 (by decide +kernel) (by decide +kernel) rfl rfl ?_
    refine lv_aload_n hx hb dX0_tell_46 rfl (lv_at hl 0 rfl) ?_
    refine x_get C hH (ci := 1) (T := TX0) (N := 6) ht rfl iWX0 2 (by decide) qw_546 rfl rfl dX0_tell_47 ?_
    rw [← hQ]
    refine x_reti C rfl hS (Nat.le_of_ble_eq_true rfl) (Nat.le_of_ble_eq_true rfl) dX0_tell_50 ?_
    rw [hpost]
    exact ⟨rfl, hH⟩
  · skip
    refine lv_iload_n hx hb dX0_tell_0 rfl (lv_at hl 1 rfl) ?_
    refine lv_tableIn (tgt := 51) (off := 50) hx hb dX0_tell_1 (by decide +kernel) (by decide +kernel) rfl rfl ?_
    refine lv_aload_n hx hb dX0_tell_51 rfl (lv_at hl 0 rfl) ?_
    refine x_get C hH (ci := 1) (T := TX0) (N := 6) ht rfl iWX0 3 (by decide) qw_548 rfl rfl dX0_tell_52 ?_
    rw [← hQ]
    refine x_reti C rfl hS (Nat.le_of_ble_eq_true rfl) (Nat.le_of_ble_eq_true rfl) dX0_tell_55 ?_
    rw [hpost]
    exact ⟨rfl, hH⟩
  · skip
    refine lv_iload_n hx hb dX0_tell_0 rfl (lv_at hl 1 rfl) ?_
    refine lv_tableIn (tgt := 56) (off := 55) hx hb dX0_tell_1 (by decide +kernel) (by decide +kernel) rfl rfl ?_
    refine lv_aload_n hx hb dX0_tell_56 rfl (lv_at hl 0 rfl) ?_
    refine x_get C hH (ci := 1) (T := TX0) (N := 6) ht rfl iWX0 5 (by decide) qw_550 rfl rfl dX0_tell_57 ?_
    refine lv_if_eq (tgt := 67) hx hb dX0_tell_60 (by decide) (fun c_1 => ?_) (fun c_1 => ?_)
    · skip
      replace c_1 := ob_0.mp c_1
      refine lv_iconst (v := nI 0) hx hb dX0_tell_67 (by decide +kernel) ?_
      rw [← hQ]
      refine x_reti C rfl hS (Nat.le_of_ble_eq_true rfl) (Nat.le_of_ble_eq_true rfl) dX0_tell_68 ?_
      rw [hpost]
      exact ⟨by show some (Value.int (nI 0)) = some (Value.int (ob g)); rw [c_1]; rfl, hH⟩
    · skip
      replace c_1 := ob_n.mp c_1
      refine lv_iconst (v := nI 1) hx hb dX0_tell_63 (by decide +kernel) ?_
      refine lv_goto (tgt := 68) hx hb dX0_tell_64 (by decide) ?_
      rw [← hQ]
      refine x_reti C rfl hS (Nat.le_of_ble_eq_true rfl) (Nat.le_of_ble_eq_true rfl) dX0_tell_68 ?_
      rw [hpost]
      exact ⟨by show some (Value.int (nI 1)) = some (Value.int (ob g)); rw [c_1]; rfl, hH⟩
  · skip
    refine lv_iload_n hx hb dX0_tell_0 rfl (lv_at hl 1 rfl) ?_
    refine lv_tableOut (tgt := 69) hx hb dX0_tell_1 (by decide +kernel) rfl ?_
    refine lv_aload_n hx hb dX0_tell_69 rfl (lv_at hl 0 rfl) ?_
    refine x_get C hH (ci := 1) (T := TX0) (N := 6) ht rfl iWX0 4 (by decide) qw_549 rfl rfl dX0_tell_70 ?_
    rw [← hQ]
    refine x_reti C rfl hS (Nat.le_of_ble_eq_true rfl) (Nat.le_of_ble_eq_true rfl) dX0_tell_73 ?_
    rw [hpost]
    exact ⟨rfl, hH⟩
end
