theorem q_sh : ∀ n, n ≤ 16 → (nI 1 <<< (nI n &&& 31)) = nI (2 ^ n) := by decide +kernel
theorem Qok_sml {nf : Nat} {x bit : Int32} (h : nf ≤ 16) (hq : Qok nf x bit) : sml nf x := by
  obtain ⟨⟨a, b⟩, -⟩ := hq
  rw [q_sh nf h] at b
  obtain ⟨k, hk⟩ : ∃ k, 2 ^ nf = k + 1 := ⟨2 ^ nf - 1, by have := Nat.two_pow_pos nf; omega⟩
  have h2 : 2 ^ nf ≤ 2 ^ 16 := Nat.pow_le_pow_right (by decide) h
  rw [hk, dI_sub, dI_s] at b
  rw [hk] at h2
  obtain ⟨j, hj, rfl⟩ := nI_of (x := x) (fun q => Int32.lt_irrefl (Int32.lt_of_lt_of_le q (Int32.le_trans (by decide : (0 : Int32) ≤ nI 1) a)))
  have b' := (nI_leI hj (by omega)).mp b
  exact sml_of (by omega)
def sg0 : Nat → Nat → Nat → Int32 := fun k _ _ => if k = 2 then -1 else 0
/-! the law's wrappers: each catches what its call throws -/
abbrev xMetH (l : Launch) (y : MethodName) (cc : ByteArray) (n : Nat) (ret : Option FieldType) (hh : List (Nat × Nat × Nat × Nat)) (rm : Room) (E : xE) (base : Nat) (As : List Value) (P : Heap → Prop) (post : Option Value → Heap → Prop) : Prop :=
  vx_Met l y (.codeWith y cc n ret hh :: WS) rm (xPc E base As P) (xQ base post) (xX base (fun _ _ => False)) rm.cells rm.slots (xA base)
theorem xMetH.of {l : Launch} {y : MethodName} {cc : ByteArray} {n : Nat} {ret : Option FieldType} {hh : List (Nat × Nat × Nat × Nat)} {rm : Room} {E : xE} {base : Nat} {As : List Value} {P : Heap → Prop} {post : Option Value → Heap → Prop} (hy : plainName y.cls = true) (own : String) (ho : y.cls = own) (hn : (lg_sl As).length ≤ n)
    (body : ∀ (p : Program) (e : Env) (s : State) (m : MethodId) (below : List Frame) (meth : Method) (c : Code) (ls : Array Slot), XC p s m As.toArray meth c own cc n ret E base → c.exceptionTable.toList = tableOf hh → P s.heap → va_S (xA base) s.heap s.heap [] → lv_has ls n (lv_args 0 As) →
      W p l e rm s m As.toArray below meth c s.heap [] 0 0 (vx_MQ below (xQ base post) (xX base (fun _ _ => False)) As.toArray s rm.cells rm.slots (xA base)) (F0 m 0 ls [])) : xMetH l y cc n ret hh rm E base As P post := by
  refine vx_ofWH (cc := cc) (maxL := n) (ret := ret) (hh := hh) hy rfl ?_
  intro p e s m args below meth c s₁ B hml hv
  obtain ⟨rfl, hst, hP⟩ := hv
  have hts := atoms_spec (ws := .codeWith y cc n ret hh :: WS) B.pre
  have hown : s.vm.findClass y.cls = some m.cls := findClass_of_methodNamed B.named
  rw [ho] at hown
  rw [lg_entry_eq]
  exact body p e s m below meth c _ ⟨B.exec, B.bytes, hml, hown, fun w hw => hts w (List.mem_cons_of_mem _ hw), B.notSynchronized, B.returns, hst⟩ (vx_table (x := y) B (hts _ List.mem_cons_self)) hP va_S.rf (lv_entry As (n := n) hn)
section LWB
variable {E : xE} {base : Nat} {al al' : Tg → Nat} {w w' : Tg → Option va_E} {nf np na nw : Nat} {sg : Nat → Nat → Nat → Int32} {rc r : Nat → Bool} {H : Heap}
theorem INV_0 : INV 0 0 0 0 sg0 (fun _ => false) :=
  ⟨by omega, by omega, by omega, by omega, fun a ha => absurd ha (Nat.not_lt_zero a), fun i _ => rfl, fun p _ => ⟨fun _ => rfl, fun _ => rfl⟩, fun p f => ⟨0, by omega, rfl⟩, fun _ _ => rfl⟩
theorem INV_file (hI : INV nf np na nw sg rc) {x : Int32} (h : nf < 16) : INV (nf + 1) np na nw (u3 sg 1 nf 0 x) rc := by
  obtain ⟨v16, v6, v150, vnow, vA, vS, vP, vK, vR⟩ := hI
  refine ⟨by omega, v6, v150, vnow, fun a ha => ?_, fun i hi => ?_, fun q hq => ⟨fun g => ?_, fun k => ?_⟩, fun q g => ?_, vR⟩
  · rw [u3_k (by decide), u3_k (by decide), u3_k (by decide)]
    obtain ⟨h1, h2, h3⟩ := vA a ha
    exact ⟨h1, fun j hj => h2 j (by omega), h3⟩
  · rw [u3_k (by decide)]; exact vS i (by omega)
  · rw [u3_k (by decide)]; exact (vP q hq).1 g
  · rw [u3_k (by decide)]; exact (vP q hq).2 k
  · rw [u3_k (by decide)]; exact vK q g
theorem INV_party (hI : INV nf np na nw sg rc) {x : Int32} (h : np < 6) : INV nf (np + 1) na nw (u3 sg 3 np 0 x) rc := by
  obtain ⟨v16, v6, v150, vnow, vA, vS, vP, vK, vR⟩ := hI
  refine ⟨v16, by omega, v150, vnow, fun a ha => ?_, fun i hi => ?_, fun q hq => ⟨fun g => ?_, fun k => ?_⟩, fun q g => ?_, vR⟩
  · rw [u3_k (by decide), u3_k (by decide), u3_k (by decide)]
    obtain ⟨⟨q, hq, e⟩, h2, h3⟩ := vA a ha
    exact ⟨⟨q, by omega, e⟩, h2, h3⟩
  · rw [u3_k (by decide)]; exact vS i hi
  · rw [u3_k (by decide)]; exact (vP q (by omega)).1 g
  · rw [u3_k (by decide)]; exact (vP q (by omega)).2 k
  · rw [u3_k (by decide)]; exact vK q g
theorem INV_bu (hI : INV nf np na nw sg rc) {p : Nat} {x : Int32} : INV nf np na nw (u3 sg 3 p 0 x) rc := by
  obtain ⟨v16, v6, v150, vnow, vA, vS, vP, vK, vR⟩ := hI
  refine ⟨v16, v6, v150, vnow, fun a ha => ?_, fun i hi => ?_, fun q hq => ⟨fun g => ?_, fun k => ?_⟩, fun q g => ?_, vR⟩
  · rw [u3_k (by decide), u3_k (by decide), u3_k (by decide)]; exact vA a ha
  · rw [u3_k (by decide)]; exact vS i hi
  · rw [u3_k (by decide)]; exact (vP q hq).1 g
  · rw [u3_k (by decide)]; exact (vP q hq).2 k
  · rw [u3_k (by decide)]; exact vK q g
theorem INV_seal (hI : INV nf np na nw sg rc) {f : Nat} {x : Int32} (hf : f < nf) : INV nf np na nw (u3 sg 2 f 0 x) rc := by
  obtain ⟨v16, v6, v150, vnow, vA, vS, vP, vK, vR⟩ := hI
  refine ⟨v16, v6, v150, vnow, fun a ha => ?_, fun i hi => ?_, fun q hq => ⟨fun g => ?_, fun k => ?_⟩, fun q g => ?_, vR⟩
  · rw [u3_k (by decide), u3_k (by decide), u3_k (by decide)]; exact vA a ha
  · rw [u3_i (by omega)]; exact vS i hi
  · rw [u3_k (by decide)]; exact (vP q hq).1 g
  · rw [u3_k (by decide)]; exact (vP q hq).2 k
  · rw [u3_k (by decide)]; exact vK q g
theorem INV_now (hI : INV nf np na nw sg rc) {k : Nat} (h : nw + k ≤ 5000) : INV nf np na (nw + k) sg rc := by
  obtain ⟨v16, v6, v150, vnow, vA, vS, vP, vK, vR⟩ := hI
  exact ⟨v16, v6, v150, h, vA, vS, vP, vK, vR⟩
theorem INV_56 (hI : INV nf np na nw sg rc) {z p f : Nat} {x : Int32} (hz : z = 5 ∨ z = 6) : INV nf np na nw (u3 sg z p f x) rc := by
  obtain ⟨v16, v6, v150, vnow, vA, vS, vP, vK, vR⟩ := hI
  refine ⟨v16, v6, v150, vnow, fun a ha => ?_, fun i hi => ?_, fun q hq => ⟨fun g => ?_, fun k => ?_⟩, fun q g => ?_, vR⟩
  · rw [u3_k (by omega), u3_k (by omega), u3_k (by omega)]; exact vA a ha
  · rw [u3_k (by omega)]; exact vS i hi
  · rw [u3_k (by omega)]; exact (vP q hq).1 g
  · rw [u3_k (by omega)]; exact (vP q hq).2 k
  · rw [u3_k (by omega)]; exact vK q g
theorem INV_right (hI : INV nf np na nw sg rc) {p f : Nat} {k a b : Int32} (hp : p < np) (hk : nI 1 ≤ k ∧ k ≤ nI 2) : INV nf np na nw (u3 (u3 (u3 sg 4 p f k) 5 p f a) 6 p f b) rc := by
  obtain ⟨j, hj, e⟩ := rg_of (z := k) (n := 2) (by omega) ⟨Int32.le_trans (by decide) hk.1, hk.2⟩
  exact INV_56 (INV_56 (INV_k4 hI hp ⟨j, hj, e⟩) (Or.inl rfl)) (Or.inr rfl)
theorem INV_told (hI : INV nf np na nw sg rc) {p : Nat} {z bit s : Int32} (hp : p < np) (hq : Qok nf z bit) (hn : na < 150) : INV nf np (na + 1) nw (ansg sg na p z bit s nw) rc := by
  have v16' := hI.1
  obtain ⟨v16, v6, v150, vnow, vA, vS, vP, vK, vR⟩ := hI
  refine ⟨v16, v6, by omega, vnow, fun a ha => ?_, fun i hi => ?_, fun q hq => ⟨fun g => ?_, fun k => ?_⟩, fun q g => ?_, fun a ha => vR a (by omega)⟩
  · by_cases e : a = na
    · subst e
      have u : ∀ k, 7 ≤ k → k ≤ 11 → ansg sg a p z bit s nw k a 0 = (if k = 7 then nI p else if k = 8 then z else if k = 9 then bit else if k = 10 then s else nI nw) := fun k h1 h2 => if_pos ⟨⟨h1, h2⟩, rfl, rfl⟩
      rw [u 7 (by decide) (by decide), u 8 (by decide) (by decide), u 9 (by decide) (by decide)]
      refine ⟨⟨p, hp, rfl⟩, Qok_sml v16' hq, ?_⟩
      show bit = -1 ∨ ∃ b, b < 8 ∧ bit = nI b
      obtain ⟨-, h1, h2⟩ := hq
      by_cases e : bit = -1
      · exact Or.inl e
      · right
        have h0 : ¬ bit < 0 := fun q => e (Int32.toInt_inj.mp (by
          have q1 := Int32.lt_iff_toInt_lt.mp q
          have q2 := Int32.le_iff_toInt_le.mp h1
          have q3 : (-1 : Int32).toInt = -1 := by decide
          have q4 : (0 : Int32).toInt = 0 := by decide
          omega))
        obtain ⟨j, hj, rfl⟩ := nI_of h0
        exact ⟨j, by have := (nI_leI hj (by omega)).mp h2; omega, rfl⟩
    · rw [ag_i e, ag_i e, ag_i e]; exact vA a (by omega)
  · rw [ag_k (by omega)]; exact vS i hi
  · rw [ag_k (by omega)]; exact (vP q hq).1 g
  · rw [ag_k (by omega)]; exact (vP q hq).2 k
  · rw [ag_k (by omega)]; exact vK q g
theorem rcI_out' (hI : INV nf np na nw sg rc) {p f : Nat} : ∀ a, na ≤ a → (if sg 4 p f = 0 then rc else rcI sg rc p f na) a = false := by
  intro a ha
  split
  · exact hI.2.2.2.2.2.2.2.2 a ha
  · exact rcI_out hI a ha
theorem rcA_out (hI : INV nf np na nw sg rc) {f : Nat} : ∀ a, na ≤ a → rcA sg rc na f a = false := by
  intro a ha
  unfold rcA
  rw [hI.2.2.2.2.2.2.2.2 a ha, decide_eq_false (by omega)]; rfl
end LWB
section XCH
variable {p : Program} {l : Launch} {e : Env} {R : Room} {s : State} {m : MethodId} {args : Array Value} {below : List Frame} {meth : Method} {c : Code} {H : Heap} {locs : List Loc} {cells slots : Nat} {Q : State → Prop}
variable {cc : ByteArray} {pc nL : Nat} {ls : Array Slot} {st0 : List Value} {own : String} {ret : Option FieldType} {E : xE} {base : Nat} {al : Tg → Nat} {w : Tg → Option va_E}
variable {y : MethodName} {b : ByteArray} {n k index : Nat} {ry : Option FieldType} {rm : Room} {As : List Value} {P : Heap → Prop} {post : Option Value → Heap → Prop} {hh : List (Nat × Nat × Nat × Nat)}
theorem x_callH (C : XC p s m args meth c own cc nL ret E base) (hS : va_S (xA base) s.heap H locs) (hM : xMetH l y b n ry hh rm E base As P post) (hP : P H)
    (hcw : Cond.codeWith y b n ry hh ∈ WS) (hini : Cond.initialized y.cls ∈ WS) (hd : y.cls ≠ "java/lang/invoke/MethodHandle" ∧ y.cls ≠ "java/lang/invoke/VarHandle" ∧ (parseMethodDescriptor y.desc).map (fun d => d.parameters.length) = some k) (hstt : Cond.static y ∈ WS) (hl : Cond.methodLink own index y ∈ WS) (hk : As.length = k) (rest : List Value) (hst : st0 = As.reverse ++ rest) (hsize : ls.size = nL) (h8 : (rest.map fun v => v.category).sum ≤ 8) (hR : rm.frames + 1 ≤ R.frames ∧ 8 + (n + 11) + rm.locals ≤ R.locals) (hdg : decode cc pc = .ok (.invokestatic index, 3)) (hf : cells + rm.cells ≤ R.cells ∧ slots + rm.slots ≤ R.slots)
    (kk : ∀ (r : Option Value) (H1 : Heap) (locs1 : List Loc), post r H1 → va_S (xA base) s.heap H1 locs1 → W p l e R s m args below meth c H1 locs1 (cells + rm.cells) (slots + rm.slots) Q (F0 m (pc + 3) ls (r.toList ++ rest))) : W p l e R s m args below meth c H locs cells slots Q (F0 m pc ls st0) := by
  have hG : GoodIn WS (.codeWith y b n ry hh :: WS) := by
    intro w hw
    have hm : w ∈ WS := by
      rcases List.mem_cons.mp hw with e | h
      · rw [e]; exact hcw
      · exact h
    exact ⟨hm, good_of_word (List.mem_filter.mp hm).2⟩
  refine x_contX (px := fun _ _ => False) (vx_runSX (As := As) (rest := rest) (n := k) (hh := hh) C.fix hM ⟨⟨rfl, rfl, hR.1, hR.2, pay_in C.ws hG, List.mem_cons_self⟩, C.ws _ hcw, C.ws _ hini, ⟨hd.1, hd.2.1⟩, fun sig h => ?_, C.ws _ hl, C.ws _ hstt⟩ ⟨xPc_blind E base _ P, fun U hU hW => ⟨rfl, C.at hS hU hW, by rw [hU]; exact hP⟩⟩ rfl hk hsize hst (lv_room h8) hdg hf) hS (fun _ _ _ _ _ h => h.elim) kk
  have h2 := hd.2.2
  rw [h] at h2
  exact (Option.some.inj h2).symm
end XCH
