/-! THE BASE: a world by tags. w says what is held under a tag, al where it lies; base is the heap's size when the law began: nothing below it changes. -/
abbrev Tg : Type := Nat × Nat × Nat
abbrev xE : Type := va_G × (Nat → ClassId) × (Nat → Nat)
abbrev xtys (E : xE) : List (ClassId × FieldType) := [(E.2.1 0, .int), (E.2.1 1, .long), (E.2.1 2, .byte), (E.2.1 3, .object "Dataroom$Knowledge"), (E.2.1 4, .object "Dataroom$Right"), (E.2.1 5, .object "java/lang/Object")]
def xu (w : Tg → Option va_E) (t : Tg) (e : va_E) : Tg → Option va_E := fun t' => if t' = t then some e else w t'
def xa (al : Tg → Nat) (t : Tg) (q : Nat) : Tg → Nat := fun t' => if t' = t then q else al t'
theorem xu_self (w : Tg → Option va_E) (t : Tg) (e : va_E) : xu w t e t = some e := if_pos rfl
theorem xu_ne {w : Tg → Option va_E} {t t' : Tg} {e : va_E} (h : t' ≠ t) : xu w t e t' = w t' := if_neg h
theorem xu_of {w : Tg → Option va_E} {t t' : Tg} {e e' : va_E} (h : t' ≠ t) (k : w t' = some e') : xu w t e t' = some e' := (if_neg h).trans k
theorem xu_uu (w : Tg → Option va_E) (t : Tg) (e e' : va_E) : xu (xu w t e) t e' = xu w t e' := by
  funext z
  by_cases h : z = t
  · subst h; rw [xu_self, xu_self]
  · rw [xu_ne h, xu_ne h, xu_ne h]
theorem xu_same {w : Tg → Option va_E} {t : Tg} {e : va_E} (h : w t = some e) : xu w t e = w := by
  funext z
  by_cases k : z = t
  · subst k; rw [xu_self, h]
  · rw [xu_ne k]
theorem xa_self (al : Tg → Nat) (t : Tg) (q : Nat) : xa al t q t = q := if_pos rfl
theorem xa_ne {al : Tg → Nat} {t t' : Tg} {q : Nat} (h : t' ≠ t) : xa al t q t' = al t' := if_neg h
def xH (E : xE) (base : Nat) (al : Tg → Nat) (w : Tg → Option va_E) (H : Heap) : Prop :=
  (∀ t e, w t = some e → base ≤ al t ∧ va_at E.1 vwCl (al t, e) H) ∧ ∀ t t' e e', w t = some e → w t' = some e' → al t = al t' → t = t'
section XH
variable {E : xE} {base : Nat} {al : Tg → Nat} {w : Tg → Option va_E} {H H1 : Heap}
theorem xH.P (h : xH E base al w H) {t : Tg} {e : va_E} (ht : w t = some e) : va_P E.1 vwCl [(al t, e)] H := by
  intro k q hk
  have hz : k < 1 := (List.getElem?_eq_some_iff.mp hk).1
  rw [show k = 0 by omega] at hk
  cases hk
  exact (h.1 t e ht).2
theorem xH.lt (h : xH E base al w H) {t : Tg} {e : va_E} (ht : w t = some e) : al t < H.size := va_at.lt (h.1 t e ht).2
theorem xH.set (h : xH E base al w H) {t : Tg} {e e' : va_E} (ht : w t = some e) (hn : va_at E.1 vwCl (al t, e') H1) (ho : ∀ q : Nat, q ≠ al t → H1[q]? = H[q]?) : xH E base al (xu w t e') H1 := by
  refine ⟨fun z f hz => ?_, fun z z' f f' hz hz' he => ?_⟩
  · by_cases k : z = t
    · subst k
      rw [xu_self] at hz
      cases hz
      exact ⟨(h.1 z e ht).1, hn⟩
    · rw [xu_ne k] at hz
      exact ⟨(h.1 z f hz).1, (h.1 z f hz).2.kept (ho _ (fun q => k (h.2 z t f e hz ht q)))⟩
  · have key : ∀ y g, xu w t e' y = some g → ∃ g', w y = some g' := by
      intro y g hy
      by_cases k : y = t
      · subst k; exact ⟨e, ht⟩
      · rw [xu_ne k] at hy; exact ⟨g, hy⟩
    obtain ⟨g, hg⟩ := key z f hz
    obtain ⟨g', hg'⟩ := key z' f' hz'
    exact h.2 z z' g g' hg hg' he
theorem xH.new (h : xH E base al w H) (t : Tg) {e' : va_E} (hb : base ≤ H.size) (hn : va_at E.1 vwCl (H.size, e') H1) (ho : ∀ q : Nat, q < H.size → H1[q]? = H[q]?) : xH E base (xa al t H.size) (xu w t e') H1 := by
  refine ⟨fun z f hz => ?_, fun z z' f f' hz hz' he => ?_⟩
  · by_cases k : z = t
    · subst k
      rw [xu_self] at hz
      cases hz
      rw [xa_self]
      exact ⟨hb, hn⟩
    · rw [xu_ne k] at hz
      rw [xa_ne k]
      exact ⟨(h.1 z f hz).1, (h.1 z f hz).2.kept (ho _ (h.lt hz))⟩
  · by_cases k : z = t
    · by_cases k' : z' = t
      · rw [k, k']
      · rw [xu_ne k'] at hz'
        have l := h.lt hz'
        rw [k, xa_self, xa_ne k'] at he
        omega
    · by_cases k' : z' = t
      · rw [xu_ne k] at hz
        have l := h.lt hz
        rw [k', xa_self, xa_ne k] at he
        omega
      · rw [xu_ne k] at hz
        rw [xu_ne k'] at hz'
        rw [xa_ne k, xa_ne k'] at he
        exact h.2 z z' f f' hz hz' he
end XH
/-! what the tables say besides the words, and the statics: moved along with every state of the run -/
def nbw (w : Cond) : Bool := match w with
  | .castable _ _ => true
  | .methodLinkNest _ _ _ _ => true
  | .fieldLinkNest _ _ _ _ _ _ => true
  | .native _ => true
  | .declares _ => true
  | _ => false
theorem nbw_warm {w : Cond} (h : nbw w = true) {s U : State} (hW : s.WarmedH U.vm) (hZ : va_Nw w s) : va_Nw w U := by
  cases w with
  | castable a b => exact va_Nw.warmC hW hZ
  | methodLinkNest a i x k => exact va_Nw.warmM hW hZ
  | fieldLinkNest a i b n d k => exact va_Nw.warmF hW hZ
  | native x => exact va_tabs rfl (rfl : (s.setVm U.vm).vm = U.vm) (by rw [Cond.native_setVm hW.alike]; exact hZ)
  | declares x => exact va_Nw.warmD hW hZ
  | _ => cases h
theorem nbw_same {w : Cond} (h : nbw w = true) {s U : State} (hv : s.vm = U.vm) (hZ : va_Nw w s) : va_Nw w U := by
  cases w with
  | castable a b => exact va_Nw.same rfl hv hZ
  | methodLinkNest a i x k => exact va_Nw.same rfl hv hZ
  | fieldLinkNest a i b n d k => exact va_Nw.same rfl hv hZ
  | native x => exact va_Nw.same rfl hv hZ
  | declares x => exact va_Nw.same rfl hv hZ
  | _ => cases h
def NB : List Cond := tables_1.filter nbw
theorem nb1 {w : Cond} {i : Nat} (h : tables_1_1[i]? = some w) (g : nbw w = true) : w ∈ NB := List.mem_filter.mpr ⟨List.mem_append_left _ (List.mem_of_getElem? h), g⟩
theorem nb2 {w : Cond} {i : Nat} (h : tables_1_2[i]? = some w) (g : nbw w = true) : w ∈ NB := List.mem_filter.mpr ⟨List.mem_append_right _ (List.mem_append_left _ (List.mem_of_getElem? h)), g⟩
theorem nb3 {w : Cond} {i : Nat} (h : tables_1_3[i]? = some w) (g : nbw w = true) : w ∈ NB := List.mem_filter.mpr ⟨List.mem_append_right _ (List.mem_append_right _ (List.mem_append_left _ (List.mem_of_getElem? h))), g⟩
theorem nb4 {w : Cond} {i : Nat} (h : tables_1_4[i]? = some w) (g : nbw w = true) : w ∈ NB := List.mem_filter.mpr ⟨List.mem_append_right _ (List.mem_append_right _ (List.mem_append_right _ (List.mem_of_getElem? h))), g⟩
/-- the texts that the class throws, by their places in its file -/
abbrev xtx : List (Nat × String) := [(191, "out of range"), (46, "there are 16 files"), (187, "no such file"), (78, "there are 6 parties"), (185, "no such party"), (111, "now would be above 5000"), (116, "there are 150 answers"), (145, "no such answer")]
/-- pairs of classes that can't be cast -/
abbrev xnc : List (String × String) := [("java/lang/IllegalArgumentException", "java/lang/IndexOutOfBoundsException"), ("java/lang/IllegalStateException", "java/lang/IndexOutOfBoundsException"), ("java/lang/IllegalStateException", "java/lang/IllegalArgumentException"), ("java/lang/IndexOutOfBoundsException", "java/lang/IllegalArgumentException")]
def lkf : Nat → Int64 := fun k => match k with
  | 0 => 6148914691236517205
  | 1 => 3689348814741910323
  | 2 => 1085102592571150095
  | 3 => 71777214294589695
  | 4 => 281470681808895
  | _ => 4294967295
def xSt (E : xE) (base : Nat) (U : State) : Prop :=
  va_K E.1 vwCl (xtys E) U ∧ (∀ w ∈ NB, va_Nw w U) ∧ (∀ q ∈ xtx, vk_R "Dataroom" q.1 q.2 (E.2.2 q.1) U) ∧ (∀ q ∈ xnc, va_Nc q.1 q.2 U) ∧
  (va_AO "java/lang/Object" U ∧ va_AO "Dataroom$Right" U ∧ va_AO "Dataroom$Knowledge" U) ∧ va_Mi "[Ljava/lang/Object;" (E.2.2 2) U ∧
  vx_Zq Bundle.tN "UNASSIGNED_STACK" Bundle.steD (fun q => base ≤ q) U U.heap ∧ vx_Zq Bundle.tN "SUPPRESSED_SENTINEL" Bundle.listD (fun q => base ≤ q) U U.heap ∧
  va_Z "Dataroom$Marks" "LACKING" "[J" (.ref (E.2.2 0)) (fun q => base ≤ q) U U.heap ∧ va_Z "java/util/ArrayList" "DEFAULTCAPACITY_EMPTY_ELEMENTDATA" "[Ljava/lang/Object;" (.ref (E.2.2 1)) (fun q => base ≤ q) U U.heap ∧
  va_T .long (E.2.2 0) 6 (fun j => .long (lkf j)) (fun q => base ≤ q) U U.heap ∧ va_T (.object "java/lang/Object") (E.2.2 1) 0 (fun _ => .null) (fun q => base ≤ q) U U.heap ∧
  E.2.2 0 < base ∧ E.2.2 1 < base ∧ base ≤ U.heap.size
theorem xSt.K {E : xE} {base : Nat} {U : State} (h : xSt E base U) : va_K E.1 vwCl (xtys E) U := h.1
theorem xSt.nb {E : xE} {base : Nat} {U : State} (h : xSt E base U) {w : Cond} (k : w ∈ NB) : va_Nw w U := h.2.1 w k
theorem xSt.move {E : xE} {base : Nat} {s U : State} (h : xSt E base s) (hW : s.WarmedH U.vm) (hk : ∀ q : Nat, q < base → U.heap[q]? = s.heap[q]?) (hb : base ≤ U.heap.size) : xSt E base U := by
  obtain ⟨h1, h2, h3, h4, ⟨h5, h6, h7⟩, h8, h9, h10, h11, h12, h13, h14, h15, h16, h17⟩ := h
  have kk : ∀ a : Nat, a < s.heap.size → ¬ base ≤ a → U.heap[a]? = s.heap[a]? := fun a _ q => hk a (Nat.not_le.mp q)
  exact ⟨h1.moved hW.alike, fun w hw => nbw_warm (List.mem_filter.mp hw).2 hW (h2 w hw), fun q hq => (h3 q hq).warm hW, fun q hq => (h4 q hq).moved hW.alike, ⟨h5.moved hW.alike, h6.moved hW.alike, h7.moved hW.alike⟩, h8.moved hW.alike, (h9.moved hW.alike).kept kk, (h10.moved hW.alike).kept kk, (h11.moved hW.alike).kept kk, (h12.moved hW.alike).kept kk, (h13.moved hW.alike).kept kk, (h14.moved hW.alike).kept kk, h15, h16, hb⟩
theorem xSt.same {E : xE} {base : Nat} {s U : State} (h : xSt E base s) (hv : s.vm = U.vm) (hh : U.heap = s.heap) : xSt E base U := by
  obtain ⟨h1, h2, h3, h4, ⟨h5, h6, h7⟩, h8, h9, h10, h11, h12, h13, h14, h15, h16, h17⟩ := h
  have al : s.vm.Alike U.vm := by rw [hv]; exact Vm.Alike.refl _
  have kk : ∀ a : Nat, a < s.heap.size → ¬ base ≤ a → U.heap[a]? = s.heap[a]? := fun a _ _ => by rw [hh]
  exact ⟨h1.moved al, fun w hw => nbw_same (List.mem_filter.mp hw).2 hv (h2 w hw), fun q hq => (h3 q hq).same hv.symm, fun q hq => (h4 q hq).moved al, ⟨h5.moved al, h6.moved al, h7.moved al⟩, h8.moved al, (h9.moved al).kept kk, (h10.moved al).kept kk, (h11.moved al).kept kk, (h12.moved al).kept kk, (h13.moved al).kept kk, (h14.moved al).kept kk, h15, h16, by rw [hh]; exact h17⟩
/-! contracts -/
abbrev xA (base : Nat) : Nat → Prop := fun q => base ≤ q
def xQ (base : Nat) (post : Option Value → Heap → Prop) : Array Value → State → Outcome → State → Prop := fun _ st oc t => (∃ r, oc = .returned r ∧ post r t.heap) ∧ va_F (xA base) st t
def xX (base : Nat) (px : String → Heap → Prop) : String → State → State → Prop := fun E st t => px E t.heap ∧ va_F (xA base) st t
abbrev xPc (E : xE) (base : Nat) (As : List Value) (P : Heap → Prop) : Array Value → State → Prop := va_Pc As (fun U => xSt E base U ∧ P U.heap)
abbrev xMet (l : Launch) (y : MethodName) (cc : ByteArray) (n : Nat) (ret : Option FieldType) (rm : Room) (E : xE) (base : Nat) (As : List Value) (P : Heap → Prop) (post : Option Value → Heap → Prop) : Prop :=
  Met l y (.code y cc n ret :: WS) rm (xPc E base As P) (xQ base post) rm.cells rm.slots (xA base)
abbrev xMetX (l : Launch) (y : MethodName) (cc : ByteArray) (n : Nat) (ret : Option FieldType) (rm : Room) (E : xE) (base : Nat) (As : List Value) (P : Heap → Prop) (post : Option Value → Heap → Prop) (px : String → Heap → Prop) : Prop :=
  vx_Met l y (.code y cc n ret :: WS) rm (xPc E base As P) (xQ base post) (xX base px) rm.cells rm.slots (xA base)
/-- what holds inside a method, from its start -/
def XC (p : Program) (s : State) (m : MethodId) (args : Array Value) (meth : Method) (c : Code) (own : String) (cc : ByteArray) (nL : Nat) (ret : Option FieldType) (E : xE) (base : Nat) : Prop :=
  p.tables.exec = Jvm.exec ∧ c.code = cc ∧ c.maxLocals = nL ∧ s.vm.findClass own = some m.cls ∧ (∀ w ∈ WS, w.before args s = true) ∧ meth.locks = false ∧ meth.sig.returnType = ret ∧ xSt E base s
theorem xPc_blind (E : xE) (base : Nat) (As : List Value) (P : Heap → Prop) : FrameBlind (xPc E base As P) := fun a U g mk h => ⟨h.1, h.2.1.same rfl rfl, h.2.2⟩
theorem ws_self (y : MethodName) (cc : ByteArray) (n : Nat) (ret : Option FieldType) (hc : Cond.code y cc n ret ∈ WS) : GoodIn WS (.code y cc n ret :: WS) := by
  intro w hw
  have hm : w ∈ WS := by
    rcases List.mem_cons.mp hw with e | h
    · rw [e]; exact hc
    · exact h
  exact ⟨hm, good_of_word (List.mem_filter.mp hm).2⟩
/-- what is known of a method by name -/
def xY (y : MethodName) (cc : ByteArray) (n : Nat) (ret : Option FieldType) (k : Nat) : Prop :=
  Cond.code y cc n ret ∈ WS ∧ Cond.initialized y.cls ∈ WS ∧ (y.cls ≠ "java/lang/invoke/MethodHandle" ∧ y.cls ≠ "java/lang/invoke/VarHandle" ∧ (parseMethodDescriptor y.desc).map (fun d => d.parameters.length) = some k)
section XR
variable {p : Program} {l : Launch} {e : Env} {R : Room} {s : State} {m : MethodId} {args : Array Value} {below : List Frame} {meth : Method} {c : Code} {H : Heap} {locs : List Loc} {cells slots : Nat} {Q : State → Prop}
variable {cc : ByteArray} {pc nL : Nat} {ls : Array Slot} {rest : List Value} {own : String} {ret : Option FieldType} {E : xE} {base : Nat} {al : Tg → Nat} {w : Tg → Option va_E}
theorem XC.hx (C : XC p s m args meth c own cc nL ret E base) : p.tables.exec = Jvm.exec := C.1
theorem XC.hb (C : XC p s m args meth c own cc nL ret E base) : c.code = cc := C.2.1
theorem XC.hown (C : XC p s m args meth c own cc nL ret E base) : s.vm.findClass own = some m.cls := C.2.2.2.1
theorem XC.ws (C : XC p s m args meth c own cc nL ret E base) : ∀ w ∈ WS, w.before args s = true := C.2.2.2.2.1
theorem XC.locks (C : XC p s m args meth c own cc nL ret E base) : meth.locks = false := C.2.2.2.2.2.1
theorem XC.rt (C : XC p s m args meth c own cc nL ret E base) : meth.sig.returnType = ret := C.2.2.2.2.2.2.1
theorem XC.st (C : XC p s m args meth c own cc nL ret E base) : xSt E base s := C.2.2.2.2.2.2.2
theorem XC.fix (C : XC p s m args meth c own cc nL ret E base) : CallFix p m c cc nL s args WS own := ⟨C.1, C.2.1, C.2.2.1, C.2.2.2.1, C.2.2.2.2.1⟩
theorem XC.A (C : XC p s m args meth c own cc nL ret E base) (hS : va_S (xA base) s.heap H locs) : base ≤ H.size := Nat.le_trans C.st.2.2.2.2.2.2.2.2.2.2.2.2.2.2 hS.1
theorem XC.at (C : XC p s m args meth c own cc nL ret E base) (hS : va_S (xA base) s.heap H locs) {U : State} (hU : U.heap = H) (hW : s.WarmedH U.vm) : xSt E base U :=
  C.st.move hW (fun q hq => by rw [hU]; exact hS.2.1 q (Nat.lt_of_lt_of_le hq C.st.2.2.2.2.2.2.2.2.2.2.2.2.2.2) (Nat.not_le.mpr hq)) (by rw [hU]; exact C.A hS)
theorem x_get (C : XC p s m args meth c own cc nL ret E base) (hH : xH E base al w H) {C' ref : String} {T : u_T} {N ci index : Nat} {t : Tg} {fs : List Value} (ht : w t = some (.inr (ci, fs))) (hc : vwCl[ci]? = some (C', T, N)) (hin : ∀ w ∈ u_ws C' T N, w ∈ WS) (k : Nat) (hk : k < N) (hlink : Cond.fieldLink own index ref (T k).2.1 (T k).2.2.1 ∈ WS) (hsame : (T k).1 = ref) {v : Value} (hv : fs[k]? = some v) (hdg : decode cc pc = .ok (.getfield index, 3))
    (kk : W p l e R s m args below meth c H locs cells slots Q (F0 m (pc + 3) ls (v :: rest))) : W p l e R s m args below meth c H locs cells slots Q (F0 m pc ls (.ref (al t) :: rest)) :=
  va_get C.hx C.hb C.ws hin C.hown C.st.K (hH.P ht) 0 rfl hc k hk (C.ws _ hlink) (fun x h => by subst hsame; exact h) hv hdg kk
theorem x_getN (C : XC p s m args meth c own cc nL ret E base) (hH : xH E base al w H) {C' ref host : String} {T : u_T} {N ci index : Nat} {t : Tg} {fs : List Value} (ht : w t = some (.inr (ci, fs))) (hc : vwCl[ci]? = some (C', T, N)) (hin : ∀ w ∈ u_ws C' T N, w ∈ WS) (k : Nat) (hk : k < N) (hlink : Cond.fieldLinkNest own index ref (T k).2.1 (T k).2.2.1 host ∈ NB) (hsame : (T k).1 = ref) {v : Value} (hv : fs[k]? = some v) (hdg : decode cc pc = .ok (.getfield index, 3))
    (kk : W p l e R s m args below meth c H locs cells slots Q (F0 m (pc + 3) ls (v :: rest))) : W p l e R s m args below meth c H locs cells slots Q (F0 m pc ls (.ref (al t) :: rest)) :=
  va_getN C.hx C.hb C.ws hin C.hown C.st.K (hH.P ht) 0 rfl hc k hk ((C.st.nb hlink).use rfl) (fun x h => by subst hsame; exact h) hv hdg kk
theorem x_put (C : XC p s m args meth c own cc nL ret E base) (hH : xH E base al w H) (hS0 : va_S (xA base) s.heap H locs) {C' ref : String} {T : u_T} {N ci index : Nat} {t : Tg} {fs : List Value} (ht : w t = some (.inr (ci, fs))) (hc : vwCl[ci]? = some (C', T, N)) (hin : ∀ w ∈ u_ws C' T N, w ∈ WS) (ty0 : Nat → FieldType) (hty : ∀ k, k < N → parseFieldDescriptor (T k).2.2.1 = some (ty0 k)) (hnm : ∀ a, a < N → ∀ b, b < N → a ≠ b → (T a).2.1 ≠ (T b).2.1) (k : Nat) (hk : k < N) (hlink : Cond.fieldLink own index ref (T k).2.1 (T k).2.2.1 ∈ WS) (hsame : (T k).1 = ref) (hfin : (T k).2.2.2 = false) {v : Value} (hn : narrow (ty0 k) v = v) (hfit : fits (ty0 k) v = true) (hl : k < fs.length) {fs' : List Value} (hfs : fs.set k v = fs')
    (hdg : decode cc pc = .ok (.putfield index, 3)) (kk : ∀ (H1 : Heap) (locs1 : List Loc), xH E base al (xu w t (.inr (ci, fs'))) H1 → va_S (xA base) s.heap H1 locs1 → W p l e R s m args below meth c H1 locs1 cells slots Q (F0 m (pc + 3) ls rest)) : W p l e R s m args below meth c H locs cells slots Q (F0 m pc ls (v :: .ref (al t) :: rest)) := by
  have hd := hty k hk
  subst hsame hfs
  have hap := va_apart (own := own) C.ws hin ty0 hty hnm C.st.K hc
  obtain ⟨r, h1, cell, q1, q2, q3, q4⟩ := (hH.1 t _ ht).2
  have hr : r = (C', T, N) := Option.some.inj (h1.symm.trans hc)
  subst hr
  obtain ⟨hS, hfc, kC, hkC, hkind⟩ := C.st.K.1 ci _ hc
  obtain ⟨cf, kf, fi, f, hi, hsl⟩ := hS k hk
  have hlay := C.ws _ (hin _ (u_in_lay hk))
  unfold u_lay at hlay
  rw [if_neg (by rw [hfin]; decide)] at hlay
  have hst := (u_facts hfc hkC (u_lays C.ws hin hk) hi).1
  have h6 := u_store hfc hkC hkind hlay hi hd hn hfit
  refine W.putK C.hx C.hb (f := f) ⟨C.hown, C.ws _ hlink, ⟨_, _, _, hi⟩, hst⟩ (by rw [q2]; exact h6) q1 q3 (by rw [hsl]; exact k2_hasslot (q4 k hk)) rfl rfl hdg fun H' e1 e2 e3 => ?_
  rw [hsl] at e1 ⊢
  exact kk H' _ (hH.set ht ⟨_, hc, t_OB.to (V := updV (vp_V fs) k v) ⟨_, e1, q2, q3, t_set q4 hap hk v⟩ (fun j _ => vp_updV_set hl v j)⟩ e3) (hS0.put e2 e3 (hH.1 t _ ht).1)
theorem x_putN (C : XC p s m args meth c own cc nL ret E base) (hH : xH E base al w H) (hS0 : va_S (xA base) s.heap H locs) {C' ref host : String} {T : u_T} {N ci index : Nat} {t : Tg} {fs : List Value} (ht : w t = some (.inr (ci, fs))) (hc : vwCl[ci]? = some (C', T, N)) (hin : ∀ w ∈ u_ws C' T N, w ∈ WS) (ty0 : Nat → FieldType) (hty : ∀ k, k < N → parseFieldDescriptor (T k).2.2.1 = some (ty0 k)) (hnm : ∀ a, a < N → ∀ b, b < N → a ≠ b → (T a).2.1 ≠ (T b).2.1) (k : Nat) (hk : k < N) (hlink : Cond.fieldLinkNest own index ref (T k).2.1 (T k).2.2.1 host ∈ NB) (hsame : (T k).1 = ref) (hfin : (T k).2.2.2 = false) {v : Value} (hn : narrow (ty0 k) v = v) (hfit : fits (ty0 k) v = true) (hl : k < fs.length) {fs' : List Value} (hfs : fs.set k v = fs')
    (hdg : decode cc pc = .ok (.putfield index, 3)) (kk : ∀ (H1 : Heap) (locs1 : List Loc), xH E base al (xu w t (.inr (ci, fs'))) H1 → va_S (xA base) s.heap H1 locs1 → W p l e R s m args below meth c H1 locs1 cells slots Q (F0 m (pc + 3) ls rest)) : W p l e R s m args below meth c H locs cells slots Q (F0 m pc ls (v :: .ref (al t) :: rest)) := by
  have hd := hty k hk
  subst hsame hfs
  have hap := va_apart (own := own) C.ws hin ty0 hty hnm C.st.K hc
  obtain ⟨r, h1, cell, q1, q2, q3, q4⟩ := (hH.1 t _ ht).2
  have hr : r = (C', T, N) := Option.some.inj (h1.symm.trans hc)
  subst hr
  obtain ⟨hS, hfc, kC, hkC, hkind⟩ := C.st.K.1 ci _ hc
  obtain ⟨cf, kf, fi, f, hi, hsl⟩ := hS k hk
  have hlay := C.ws _ (hin _ (u_in_lay hk))
  unfold u_lay at hlay
  rw [if_neg (by rw [hfin]; decide)] at hlay
  have hst := (u_facts hfc hkC (u_lays C.ws hin hk) hi).1
  have h6 := u_store hfc hkC hkind hlay hi hd hn hfit
  refine va_WputK C.hx C.hb (f := f) C.hown ((C.st.nb hlink).use rfl) hi hst (by rw [q2]; exact h6) q1 q3 (by rw [hsl]; exact k2_hasslot (q4 k hk)) rfl rfl hdg fun H' e1 e2 e3 => ?_
  rw [hsl] at e1 ⊢
  exact kk H' _ (hH.set ht ⟨_, hc, t_OB.to (V := updV (vp_V fs) k v) ⟨_, e1, q2, q3, t_set q4 hap hk v⟩ (fun j _ => vp_updV_set hl v j)⟩ e3) (hS0.put e2 e3 (hH.1 t _ ht).1)
theorem x_putF (C : XC p s m args meth c own cc nL ret E base) (hH : xH E base al w H) (hS0 : va_S (xA base) s.heap H locs) {C' ref : String} {T : u_T} {N ci index : Nat} {t : Tg} {fs : List Value} (ht : w t = some (.inr (ci, fs))) (hc : vwCl[ci]? = some (C', T, N)) (hin : ∀ w ∈ u_ws C' T N, w ∈ WS) (ty0 : Nat → FieldType) (hty : ∀ k, k < N → parseFieldDescriptor (T k).2.2.1 = some (ty0 k)) (hnm : ∀ a, a < N → ∀ b, b < N → a ≠ b → (T a).2.1 ≠ (T b).2.1) (k : Nat) (hk : k < N) (hlink : Cond.fieldLink own index ref (T k).2.1 (T k).2.2.1 ∈ WS) (hsame : (T k).1 = ref) (hfin : (T k).2.2.2 = true) (hin2 : meth.name = "<init>") (hdecl : (T k).1 = own) {v : Value} (hn : narrow (ty0 k) v = v) (hfit : fits (ty0 k) v = true) (hl : k < fs.length) {fs' : List Value} (hfs : fs.set k v = fs')
    (hdg : decode cc pc = .ok (.putfield index, 3)) (kk : ∀ (H1 : Heap) (locs1 : List Loc), xH E base al (xu w t (.inr (ci, fs'))) H1 → va_S (xA base) s.heap H1 locs1 → W p l e R s m args below meth c H1 locs1 cells slots Q (F0 m (pc + 3) ls rest)) : W p l e R s m args below meth c H locs cells slots Q (F0 m pc ls (v :: .ref (al t) :: rest)) := by
  have hd := hty k hk
  subst hsame hfs
  have hown := C.hown
  have hap := va_apart (own := own) C.ws hin ty0 hty hnm C.st.K hc
  obtain ⟨r, h1, cell, q1, q2, q3, q4⟩ := (hH.1 t _ ht).2
  have hr : r = (C', T, N) := Option.some.inj (h1.symm.trans hc)
  subst hr
  obtain ⟨hS, hfc, kC, hkC, hkind⟩ := C.st.K.1 ci _ hc
  obtain ⟨cf, kf, fi, f, hi, hsl⟩ := hS k hk
  have hlay := C.ws _ (hin _ (u_in_lay hk))
  unfold u_lay at hlay
  rw [if_pos hfin] at hlay
  have hst := (u_facts hfc hkC (u_lays C.ws hin hk) hi).1
  have hcf : m.cls = cf := by
    obtain ⟨_, _, c', _, _, _, -, -, hf', -, -, -, hown2, -⟩ := Cond.laysFinal_spec hlay
    have e1 : c' = cf := by have := hi.symm.trans hf'; simp at this; exact this.1.symm
    rw [hdecl] at hown2
    rw [← e1]; exact Option.some.inj (hown.symm.trans hown2)
  have h6 := u_fits hfc hkC hkind (Or.inr hlay) hi hd hn hfit
  refine W.putFinK C.hx C.hb hown (C.ws _ hlink) hi hst hcf hin2 (by rw [q2]; exact h6) q1 q3 (by rw [hsl]; exact k2_hasslot (q4 k hk)) rfl rfl hdg fun H' e1 e2 e3 => ?_
  rw [hsl] at e1 ⊢
  exact kk H' _ (hH.set ht ⟨_, hc, t_OB.to (V := updV (vp_V fs) k v) ⟨_, e1, q2, q3, t_set q4 hap hk v⟩ (fun j _ => vp_updV_set hl v j)⟩ e3) (hS0.put e2 e3 (hH.1 t _ ht).1)
theorem x_iald (C : XC p s m args meth c own cc nL ret E base) (hH : xH E base al w H) {t : Tg} {n : Nat} {f : Nat → Int32} (ht : w t = some (.inl (E.2.1 0, n, .inl f))) {i : Int32} {j : Nat} (hi : i = nI j) (hj : j < n) (hn : n < 2 ^ 31) (hdg : decode cc pc = .ok (.iaload, 1))
    (kk : W p l e R s m args below meth c H locs cells slots Q (F0 m (pc + 1) ls (.int (f j) :: rest))) : W p l e R s m args below meth c H locs cells slots Q (F0 m pc ls (.int i :: .ref (al t) :: rest)) := by
  subst hi
  exact va_iald C.hx C.hb C.st.K (hH.P ht) 0 0 rfl rfl (vp_in_nI hj hn) hdg (by rw [nI_clamp (by omega)]; exact kk)
theorem x_lald (C : XC p s m args meth c own cc nL ret E base) (hH : xH E base al w H) {t : Tg} {n : Nat} {f : Nat → Int64} (ht : w t = some (.inl (E.2.1 1, n, .inr (.inl f)))) {i : Int32} {j : Nat} (hi : i = nI j) (hj : j < n) (hn : n < 2 ^ 31) (hdg : decode cc pc = .ok (.laload, 1))
    (kk : W p l e R s m args below meth c H locs cells slots Q (F0 m (pc + 1) ls (.long (f j) :: rest))) : W p l e R s m args below meth c H locs cells slots Q (F0 m pc ls (.int i :: .ref (al t) :: rest)) := by
  subst hi
  exact va_lald C.hx C.hb C.st.K (hH.P ht) 0 1 rfl rfl (vp_in_nI hj hn) hdg (by rw [nI_clamp (by omega)]; exact kk)
theorem x_iast (C : XC p s m args meth c own cc nL ret E base) (hH : xH E base al w H) (hS : va_S (xA base) s.heap H locs) {t : Tg} {n : Nat} {f : Nat → Int32} (ht : w t = some (.inl (E.2.1 0, n, .inl f))) {i x : Int32} {j : Nat} (hi : i = nI j) (hj : j < n) (hn : n < 2 ^ 31) (hdg : decode cc pc = .ok (.iastore, 1))
    (kk : ∀ (H1 : Heap) (locs1 : List Loc), xH E base al (xu w t (.inl (E.2.1 0, n, .inl (upd f j x)))) H1 → va_S (xA base) s.heap H1 locs1 → W p l e R s m args below meth c H1 locs1 cells slots Q (F0 m (pc + 1) ls rest)) : W p l e R s m args below meth c H locs cells slots Q (F0 m pc ls (.int x :: .int i :: .ref (al t) :: rest)) := by
  subst hi
  have hin := vp_in_nI hj hn
  refine W.iast C.hx C.hb (hH.1 t _ ht).2 ((C.st.K.2 0 _ rfl).1 n (fun j => .int (f j))) (fun q => by cases q) (by show ¬ (nI j < 0 ∨ (arrV _ _ _).slots.size ≤ _); rw [arrV_size]; exact hin) rfl rfl hdg fun H1 e z oq => ?_
  refine kk H1 _ (hH.set ht ?_ oq) (hS.put z oq (hH.1 t _ ht).1)
  show H1[al t]? = some (vp_cell _ _)
  rw [e, nI_clamp (by omega)]
  rw [vp_cell_i, vp_cell_i, arrV_store]
  congr 2
  funext q
  by_cases hq : q = j
  · subst hq
    simp [updV, upd]
  · simp [updV, upd, hq]
theorem x_last (C : XC p s m args meth c own cc nL ret E base) (hH : xH E base al w H) (hS : va_S (xA base) s.heap H locs) {t : Tg} {n : Nat} {f : Nat → Int64} (ht : w t = some (.inl (E.2.1 1, n, .inr (.inl f)))) {i : Int32} {x : Int64} {j : Nat} (hi : i = nI j) (hj : j < n) (hn : n < 2 ^ 31) (hdg : decode cc pc = .ok (.lastore, 1))
    (kk : ∀ (H1 : Heap) (locs1 : List Loc), xH E base al (xu w t (.inl (E.2.1 1, n, .inr (.inl (vp_updL f j x))))) H1 → va_S (xA base) s.heap H1 locs1 → W p l e R s m args below meth c H1 locs1 cells slots Q (F0 m (pc + 1) ls rest)) : W p l e R s m args below meth c H locs cells slots Q (F0 m pc ls (.long x :: .int i :: .ref (al t) :: rest)) := by
  subst hi
  have hin := vp_in_nI hj hn
  refine W.last C.hx C.hb (hH.1 t _ ht).2 ((C.st.K.2 1 _ rfl).1 n (fun j => .long (f j))) (fun q => by cases q) (by show ¬ (nI j < 0 ∨ (arrV _ _ _).slots.size ≤ _); rw [arrV_size]; exact hin) rfl rfl hdg fun H1 e z oq => ?_
  refine kk H1 _ (hH.set ht ?_ oq) (hS.put z oq (hH.1 t _ ht).1)
  show H1[al t]? = some (vp_cell _ _)
  rw [e, nI_clamp (by omega)]
  rw [vp_cell_l, vp_cell_l, arrV_store]
  congr 2
  funext q
  by_cases hq : q = j
  · subst hq
    simp [updV, vp_updL]
  · simp [updV, vp_updL, hq]
theorem x_aldq (C : XC p s m args meth c own cc nL ret E base) (hH : xH E base al w H) (k0 : Nat) {Cn : String} {t : Tg} {n : Nat} {f : Nat → Option Nat} (hk : (xtys E)[k0]? = some (E.2.1 k0, .object Cn)) (ht : w t = some (.inl (E.2.1 k0, n, .inr (.inr (.inr (.inr f)))))) {i : Int32} {j : Nat} (hi : i = nI j) (hj : j < n) (hn : n < 2 ^ 31) {v : Value} (hv : va_rf (f j) = v) (hdg : decode cc pc = .ok (.aaload, 1))
    (kk : W p l e R s m args below meth c H locs cells slots Q (F0 m (pc + 1) ls (v :: rest))) : W p l e R s m args below meth c H locs cells slots Q (F0 m pc ls (.int i :: .ref (al t) :: rest)) := by
  subst hi hv
  exact va_aldq C.hx C.hb C.st.K (hH.P ht) 0 k0 rfl hk (vp_in_nI hj hn) hdg (by rw [nI_clamp (by omega)]; exact kk)
theorem x_astq (C : XC p s m args meth c own cc nL ret E base) (hH : xH E base al w H) (hS : va_S (xA base) s.heap H locs) (k0 : Nat) {r : vw_C} {ci : Nat} {vs : List Value} {t tv : Tg} {n : Nat} {f : Nat → Option Nat} (hk : (xtys E)[k0]? = some (E.2.1 k0, .object r.1)) (ht : w t = some (.inl (E.2.1 k0, n, .inr (.inr (.inr (.inr f)))))) (hv : w tv = some (.inr (ci, vs))) (hc : vwCl[ci]? = some r) {i : Int32} {j : Nat} (hi : i = nI j) (hj : j < n) (hn : n < 2 ^ 31) (hdg : decode cc pc = .ok (.aastore, 1))
    (kk : ∀ (H1 : Heap) (locs1 : List Loc), xH E base al (xu w t (.inl (E.2.1 k0, n, .inr (.inr (.inr (.inr (va_up f j (some (al tv))))))))) H1 → va_S (xA base) s.heap H1 locs1 → W p l e R s m args below meth c H1 locs1 cells slots Q (F0 m (pc + 1) ls rest)) : W p l e R s m args below meth c H locs cells slots Q (F0 m pc ls (.ref (al tv) :: .int i :: .ref (al t) :: rest)) := by
  subst hi
  have hin := vp_in_nI hj hn
  have h0 : ¬ nI j < 0 := fun q => hin (Or.inl q)
  obtain ⟨r', hr', cellV, g1, g2, g3, -⟩ := (hH.1 tv _ hv).2
  have hcls := (C.st.K.1 ci r hc).2
  obtain ⟨kA, comp, k1, k2, k3, -⟩ := (C.st.K.2 k0 _ hk).2
  have hcomp : comp = E.1.1 ci := Option.some.inj (k3.symm.trans hcls.1)
  subst hcomp
  obtain ⟨kC, hkC, -⟩ := hcls.2
  refine W.aast C.hx C.hb (hH.1 t _ ht).2 (fun q h => by cases h) (fun h => by cases h) k1 k2 rfl hkC ⟨h0, by show _ < (arrV _ _ _).slots.size; rw [arrV_size, nI_clamp (by omega)]; exact hj⟩ g1 (fun q h => by rw [g3] at h; cases h) (by rw [g2]; exact hkC) (by rw [g2]; exact va_assign hcls) rfl rfl hdg fun H1 e z oq => ?_
  refine kk H1 _ (hH.set ht ?_ oq) (hS.put z oq (hH.1 t _ ht).1)
  show H1[al t]? = some (vp_cell _ _)
  rw [e, nI_clamp (by omega)]
  rw [vp_cell_q, vp_cell_q, arrV_store]
  congr 2
  funext q
  by_cases hq : q = j
  · subst hq
    simp [updV, va_up, va_rf]
  · simp [updV, va_up, hq]
theorem x_astqN (C : XC p s m args meth c own cc nL ret E base) (hH : xH E base al w H) (hS : va_S (xA base) s.heap H locs) (k0 : Nat) {Cn : String} {t : Tg} {n : Nat} {f : Nat → Option Nat} (hk : (xtys E)[k0]? = some (E.2.1 k0, .object Cn)) (ht : w t = some (.inl (E.2.1 k0, n, .inr (.inr (.inr (.inr f)))))) {i : Int32} {j : Nat} (hi : i = nI j) (hj : j < n) (hn : n < 2 ^ 31) (hdg : decode cc pc = .ok (.aastore, 1))
    (kk : ∀ (H1 : Heap) (locs1 : List Loc), xH E base al (xu w t (.inl (E.2.1 k0, n, .inr (.inr (.inr (.inr (va_up f j none))))))) H1 → va_S (xA base) s.heap H1 locs1 → W p l e R s m args below meth c H1 locs1 cells slots Q (F0 m (pc + 1) ls rest)) : W p l e R s m args below meth c H locs cells slots Q (F0 m pc ls (.null :: .int i :: .ref (al t) :: rest)) := by
  subst hi
  have hin := vp_in_nI hj hn
  have hAr := (C.st.K.2 k0 _ hk).1
  refine va_WaastN (C := Cn) C.hx C.hb (hH.1 t _ ht).2 (hAr n (fun j => va_rf (f j))) (fun h => by cases h) (by show ¬ (nI j < 0 ∨ (arrV _ _ _).slots.size ≤ _); rw [arrV_size]; exact hin) rfl rfl hdg fun H1 e z oq => ?_
  refine kk H1 _ (hH.set ht ?_ oq) (hS.put z oq (hH.1 t _ ht).1)
  show H1[al t]? = some (vp_cell _ _)
  rw [e, nI_clamp (by omega)]
  rw [vp_cell_q, vp_cell_q, arrV_store]
  congr 2
  funext q
  by_cases hq : q = j
  · subst hq
    simp [updV, va_up, va_rf]
  · simp [updV, va_up, hq]
theorem x_alen (C : XC p s m args meth c own cc nL ret E base) (hH : xH E base al w H) (k0 : Nat) {ty : FieldType} (hk : (xtys E)[k0]? = some (E.2.1 k0, ty)) {t : Tg} {x : vp_A} (ht : w t = some (.inl (E.2.1 k0, x))) {v : Int32} (hv : nI x.1 = v) (hdg : decode cc pc = .ok (.arraylength, 1))
    (kk : W p l e R s m args below meth c H locs cells slots Q (F0 m (pc + 1) ls (.int v :: rest))) : W p l e R s m args below meth c H locs cells slots Q (F0 m pc ls (.ref (al t) :: rest)) :=
  va_alen C.hx C.hb C.st.K (hH.P ht) 0 k0 rfl hk hv hdg kk
end XR
