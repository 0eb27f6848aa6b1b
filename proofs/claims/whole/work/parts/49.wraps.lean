/-! the law's wrappers: each catches what its call throws -/
abbrev xMetH (l : Launch) (y : MethodName) (cc : ByteArray) (n : Nat) (ret : Option FieldType) (hh : List (Nat × Nat × Nat × Nat)) (rm : Room) (E : xE) (base : Nat) (As : List Value) (P : Heap → Prop) (post : Option Value → Heap → Prop) : Prop :=
  vx_Met l y (.codeWith y cc n ret hh :: WS) rm (xPc E base As P) (xQ base post) (xX base (fun _ _ => False)) rm.cells rm.slots (xA base)
theorem xMetH.of {l : Launch} {y : MethodName} {cc : ByteArray} {n : Nat} {ret : Option FieldType} {hh : List (Nat × Nat × Nat × Nat)} {rm : Room} {E : xE} {base : Nat} {As : List Value} {P : Heap → Prop} {post : Option Value → Heap → Prop} (hy : plainName y.cls = true) (own : String) (ho : y.cls = own) (hn : (lg_sl As).length ≤ n)
    (body : ∀ (p : Program) (e : Env) (s : State) (m : MethodId) (below : List Frame) (meth : Method) (c : Code) (ls : Array Slot), XC p s m As.toArray meth c own cc n ret E base → c.exceptionTable.toList = tableOf hh → P s.heap → va_S (xA base) s.heap s.heap [] → lv_has ls n (lv_args 0 As) →
      W p l e rm s m As.toArray below meth c s.heap [] 0 0 (vx_MQ below (xQ base post) (xX base (fun _ _ => False)) As.toArray s rm.cells rm.slots (xA base)) (F0 m 0 ls [])) : xMetH l y cc n ret hh rm E base As P post := by
  refine vx_ofWH (cc := cc) (maxL := n) (ret := ret) (hh := hh) hy rfl ?_
  intro p e s m args below meth c s₁ B hml hv
  obtain ⟨rfl, hst, hP⟩ := hv
  have hts := atoms_spec (ws := .codeWith y cc n ret hh :: WS) B.pre
  have hown : s.vm.findClass y.cls = some m.cls := findClass_of_methodNamed B.named
  rw [ho] at hown
  rw [lg_entry_eq]
  exact body p e s m below meth c _ ⟨B.exec, B.bytes, hml, hown, fun w hw => hts w (List.mem_cons_of_mem _ hw), B.notSynchronized, B.returns, hst⟩ (vx_table (x := y) B (hts _ List.mem_cons_self)) hP va_S.rf (lv_entry As (n := n) hn)
/-- behind a wrapper: the room is so, out[0] is v; what else lies beside is as it was -/
def POW (E : xE) (base : Nat) (al : Tg → Nat) (w : Tg → Option va_E) (v : Int32) (nf np na nw : Nat) (sg : Nat → Nat → Nat → Int32) (rc : Nat → Bool) (H : Heap) : Prop :=
  ∃ (al' : Tg → Nat) (w' : Tg → Option va_E) (fo : Nat → Int64), xH E base al' w' H ∧ RM E al' w' nf np na nw sg rc ∧ w' (20, 0, 0) = some (.inl (E.2.1 1, 1, .inr (.inl fo))) ∧ fo 0 = v.toInt64 ∧ (∀ t : Tg, 10 ≤ t.1 → al' t = al t) ∧ (∀ t : Tg, 10 ≤ t.1 → t ≠ (20, 0, 0) → w' t = w t) ∧ al' (0, 0, 0) = al (0, 0, 0)
theorem pow_of {E : xE} {base : Nat} {al al9 : Tg → Nat} {w w9 : Tg → Option va_E} {v : Int32} {nf np na nw : Nat} {sg : Nat → Nat → Nat → Int32} {rc : Nat → Bool} {H : Heap} {fo : Nat → Int64} (hH : xH E base al9 (xu w9 (20, 0, 0) (.inl (E.2.1 1, 1, .inr (.inl (vp_updL fo 0 v.toInt64))))) H) (hR : RM E al9 w9 nf np na nw sg rc) (hf : ∀ t : Tg, 10 ≤ t.1 → w9 t = w t ∧ al9 t = al t) (h0 : al9 (0, 0, 0) = al (0, 0, 0)) : POW E base al w v nf np na nw sg rc H :=
  ⟨al9, _, _, hH, hR.of (fun t ht => xu_ne (fun e => by rw [e] at ht; revert ht; simp [dm])) (fun _ _ => rfl), xu_self _ _ _, if_pos rfl, fun t ht => (hf t ht).2, fun t ht hn => (xu_ne hn).trans (hf t ht).1, h0⟩
set_option maxHeartbeats 4000000 in
set_option maxRecDepth 100000 in
theorem l_seal (l : Launch) (hfl : l.stackTraces = false) {E : xE} {base : Nat} {al : Tg → Nat} {w : Tg → Option va_E} {nf np na nw : Nat} {sg : Nat → Nat → Nat → Int32} {rc : Nat → Bool} (hR : RM E al w nf np na nw sg rc) (hI : INV nf np na nw sg rc) {x y : Int32} : xMetH l yL_seal cL_seal 4 (some (.int)) [(0, 6, 9, 21), (0, 6, 12, 13)] ({ frames := 9, cells := 2, slots := 12, locals := 147 } : Room) E base [.ref (al (0, 0, 0)), .int x, .int y] (fun H => xH E base al w H) (fun r H => (r = some (.int (nI 1)) ∧ ¬ inR x nf ∧ xH E base al w H) ∨ (r = some (.int (nI 2)) ∧ inR x nf ∧ ¬ (nI 0 ≤ y ∧ y ≤ nI 5000) ∧ xH E base al w H) ∨ (r = some (.int (nI 0)) ∧ ∃ f, f < nf ∧ x = nI f ∧ (nI 0 ≤ y ∧ y ≤ nI 5000) ∧ PO E base al w nf np na nw (u3 sg 2 f 0 y) rc H)) := by
  refine xMetH.of (by decide +kernel) "DataroomLaw" rfl (Nat.le_of_ble_eq_true rfl) ?_
  intro p9 e9 s m9 below meth c9 ls C het hP hS hl
  have hx := C.hx
  have hb := C.hb
  have hH := hP
  have hX := hR.1
  have hl : lv_has ls 4 [(0, .ref (al (0, 0, 0))), (1, .int x), (2, .int y)] := hl
  obtain ⟨post, hpost⟩ : ∃ zz9 : Option Value → Heap → Prop, zz9 = (fun r H => (r = some (.int (nI 1)) ∧ ¬ inR x nf ∧ xH E base al w H) ∨ (r = some (.int (nI 2)) ∧ inR x nf ∧ ¬ (nI 0 ≤ y ∧ y ≤ nI 5000) ∧ xH E base al w H) ∨ (r = some (.int (nI 0)) ∧ ∃ f, f < nf ∧ x = nI f ∧ (nI 0 ≤ y ∧ y ≤ nI 5000) ∧ PO E base al w nf np na nw (u3 sg 2 f 0 y) rc H)) := ⟨_, rfl⟩
  obtain ⟨px, hpx⟩ : ∃ zz9 : String → Heap → Prop, zz9 = (fun _ _ => False) := ⟨_, rfl⟩
  rw [← hpost, ← hpx]
  generalize hQ : (vx_MQ below (xQ base post) (xX base px) ([.ref (al (0, 0, 0)), .int x, .int y] : List Value).toArray s 2 12 (xA base)) = Q
  refine lv_aload_n hx hb dL_seal_0 rfl (lv_at hl 0 rfl) ?_
  refine lv_iload_n hx hb dL_seal_1 rfl (lv_at hl 1 rfl) ?_
  refine lv_iload_n hx hb dL_seal_2 rfl (lv_at hl 2 rfl) ?_
  refine x_thrV C hH hS (ci := 7) (t := (0, 0, 0)) hX rfl rfl (c_seal l hfl (E := E) (base := base) hR hI (x := x) (y := y)) hH kX6_seal qw_456 qw_457 qw_455  rfl [] rfl hl.1 (Nat.le_of_ble_eq_true rfl) ⟨Nat.le_of_ble_eq_true rfl, Nat.le_of_ble_eq_true rfl⟩ dL_seal_3 ⟨Nat.le_of_ble_eq_true rfl, Nat.le_of_ble_eq_true rfl⟩ (fun X ce q9 H locs hp_1 hS hce hcv hcl => ?_) (fun r_2 H locs hp_1 hS => ?_)
  · skip
    obtain ⟨hcs, hH⟩ := hp_1
    rcases hcs with ⟨rfl, h1⟩ | ⟨rfl, h1, h2⟩
    · skip
      refine vx_catch C.hown [] ⟨0, 6, 9, 21⟩ [⟨0, 6, 12, 13⟩] (het.trans rfl) (fun z hz => by cases hz) (by decide) (by decide) (C.ws _ qw_284) ((C.st.nb nw_299).use rfl) hce hcv hcl ?_
      refine lv_astore_n (lv' := [(3, .ref q9), (0, .ref (al (0, 0, 0))), (1, .int x), (2, .int y)]) hx hb dL_seal_9 rfl hl (by decide) rfl (fun ls hl => ?_)
      refine lv_iconst (v := nI 1) hx hb dL_seal_10 (by decide +kernel) ?_
      rw [← hQ]
      refine vx_ret (x_reti C rfl hS (Nat.le_of_ble_eq_true rfl) (Nat.le_of_ble_eq_true rfl) dL_seal_11 ?_)
      rw [hpost]
      exact Or.inl ⟨rfl, h1, hH⟩
    · skip
      refine vx_catch C.hown [⟨0, 6, 9, 21⟩] ⟨0, 6, 12, 13⟩ [] (het.trans rfl) (List.forall_mem_cons.mpr ⟨Or.inr ⟨by decide, _, C.ws _ qw_284, C.st.2.2.2.1 _ (List.mem_of_getElem? (i := 0) rfl)⟩, fun _ h => by cases h⟩) (by decide) (by decide) (C.ws _ qw_110) ((C.st.nb nw_121).use rfl) hce hcv hcl ?_
      refine lv_astore_n (lv' := [(3, .ref q9), (0, .ref (al (0, 0, 0))), (1, .int x), (2, .int y)]) hx hb dL_seal_12 rfl hl (by decide) rfl (fun ls hl => ?_)
      refine lv_iconst (v := nI 2) hx hb dL_seal_13 (by decide +kernel) ?_
      rw [← hQ]
      refine vx_ret (x_reti C rfl hS (Nat.le_of_ble_eq_true rfl) (Nat.le_of_ble_eq_true rfl) dL_seal_14 ?_)
      rw [hpost]
      exact Or.inr (Or.inl ⟨rfl, h1, h2, hH⟩)
  · skip
    obtain ⟨f, hf, rfl, h1, rfl, hH⟩ := hp_1
    refine lv_goto (tgt := 15) hx hb dL_seal_6 (by decide) ?_
    refine lv_iconst (v := nI 0) hx hb dL_seal_15 (by decide +kernel) ?_
    rw [← hQ]
    refine vx_ret (x_reti C rfl hS (Nat.le_of_ble_eq_true rfl) (Nat.le_of_ble_eq_true rfl) dL_seal_16 ?_)
    rw [hpost]
    exact Or.inr (Or.inr ⟨rfl, f, hf, rfl, h1, hH⟩)

set_option maxHeartbeats 4000000 in
set_option maxRecDepth 100000 in
theorem l_right (l : Launch) (hfl : l.stackTraces = false) {E : xE} {base : Nat} {al : Tg → Nat} {w : Tg → Option va_E} {nf np na nw : Nat} {sg : Nat → Nat → Nat → Int32} {rc : Nat → Bool} (hR : RM E al w nf np na nw sg rc) (hI : INV nf np na nw sg rc) {x y k a b : Int32} : xMetH l yL_right cL_right 7 (some (.int)) [(0, 11, 14, 21), (0, 11, 18, 13)] ({ frames := 8, cells := 6, slots := 33, locals := 130 } : Room) E base [.ref (al (0, 0, 0)), .int x, .int y, .int k, .int a, .int b] (fun H => xH E base al w H) (fun r H => (r = some (.int (nI 1)) ∧ ¬ (inR x np ∧ inR y nf) ∧ xH E base al w H) ∨ (r = some (.int (nI 2)) ∧ (inR x np ∧ inR y nf) ∧ ¬ ((nI 1 ≤ k ∧ k ≤ nI 2) ∧ (nI 0 ≤ a ∧ a ≤ nI 5000) ∧ (a ≤ b ∧ b ≤ nI 5000)) ∧ xH E base al w H) ∨ (r = some (.int (nI 0)) ∧ ∃ p f, p < np ∧ f < nf ∧ x = nI p ∧ y = nI f ∧ ((nI 1 ≤ k ∧ k ≤ nI 2) ∧ (nI 0 ≤ a ∧ a ≤ nI 5000) ∧ (a ≤ b ∧ b ≤ nI 5000)) ∧ PO E base al w nf np na nw (u3 (u3 (u3 sg 4 p f k) 5 p f a) 6 p f b) rc H)) := by
  refine xMetH.of (by decide +kernel) "DataroomLaw" rfl (Nat.le_of_ble_eq_true rfl) ?_
  intro p9 e9 s m9 below meth c9 ls C het hP hS hl
  have hx := C.hx
  have hb := C.hb
  have hH := hP
  have hX := hR.1
  have hl : lv_has ls 7 [(0, .ref (al (0, 0, 0))), (1, .int x), (2, .int y), (3, .int k), (4, .int a), (5, .int b)] := hl
  obtain ⟨post, hpost⟩ : ∃ zz9 : Option Value → Heap → Prop, zz9 = (fun r H => (r = some (.int (nI 1)) ∧ ¬ (inR x np ∧ inR y nf) ∧ xH E base al w H) ∨ (r = some (.int (nI 2)) ∧ (inR x np ∧ inR y nf) ∧ ¬ ((nI 1 ≤ k ∧ k ≤ nI 2) ∧ (nI 0 ≤ a ∧ a ≤ nI 5000) ∧ (a ≤ b ∧ b ≤ nI 5000)) ∧ xH E base al w H) ∨ (r = some (.int (nI 0)) ∧ ∃ p f, p < np ∧ f < nf ∧ x = nI p ∧ y = nI f ∧ ((nI 1 ≤ k ∧ k ≤ nI 2) ∧ (nI 0 ≤ a ∧ a ≤ nI 5000) ∧ (a ≤ b ∧ b ≤ nI 5000)) ∧ PO E base al w nf np na nw (u3 (u3 (u3 sg 4 p f k) 5 p f a) 6 p f b) rc H)) := ⟨_, rfl⟩
  obtain ⟨px, hpx⟩ : ∃ zz9 : String → Heap → Prop, zz9 = (fun _ _ => False) := ⟨_, rfl⟩
  rw [← hpost, ← hpx]
  generalize hQ : (vx_MQ below (xQ base post) (xX base px) ([.ref (al (0, 0, 0)), .int x, .int y, .int k, .int a, .int b] : List Value).toArray s 6 33 (xA base)) = Q
  refine lv_aload_n hx hb dL_right_0 rfl (lv_at hl 0 rfl) ?_
  refine lv_iload_n hx hb dL_right_1 rfl (lv_at hl 1 rfl) ?_
  refine lv_iload_n hx hb dL_right_2 rfl (lv_at hl 2 rfl) ?_
  refine lv_iload_n hx hb dL_right_3 rfl (lv_at hl 3 rfl) ?_
  refine lv_iload hx hb dL_right_4 (lv_at hl 4 rfl) ?_
  refine lv_iload hx hb dL_right_6 (lv_at hl 5 rfl) ?_
  refine x_thrV C hH hS (ci := 7) (t := (0, 0, 0)) hX rfl rfl (c_right l hfl (E := E) (base := base) hR hI (x := x) (y := y) (k := k) (a := a) (b := b)) hH kX6_right qw_418 qw_419 qw_417  rfl [] rfl hl.1 (Nat.le_of_ble_eq_true rfl) ⟨Nat.le_of_ble_eq_true rfl, Nat.le_of_ble_eq_true rfl⟩ dL_right_8 ⟨Nat.le_of_ble_eq_true rfl, Nat.le_of_ble_eq_true rfl⟩ (fun X ce q9 H locs hp_1 hS hce hcv hcl => ?_) (fun r_2 H locs hp_1 hS => ?_)
  · skip
    obtain ⟨hcs, hH⟩ := hp_1
    rcases hcs with ⟨rfl, h1⟩ | ⟨rfl, h1, h2⟩
    · skip
      refine vx_catch C.hown [] ⟨0, 11, 14, 21⟩ [⟨0, 11, 18, 13⟩] (het.trans rfl) (fun z hz => by cases hz) (by decide) (by decide) (C.ws _ qw_284) ((C.st.nb nw_299).use rfl) hce hcv hcl ?_
      refine lv_astore (lv' := [(6, .ref q9), (0, .ref (al (0, 0, 0))), (1, .int x), (2, .int y), (3, .int k), (4, .int a), (5, .int b)]) hx hb dL_right_14 hl (by decide) rfl (fun ls hl => ?_)
      refine lv_iconst (v := nI 1) hx hb dL_right_16 (by decide +kernel) ?_
      rw [← hQ]
      refine vx_ret (x_reti C rfl hS (Nat.le_of_ble_eq_true rfl) (Nat.le_of_ble_eq_true rfl) dL_right_17 ?_)
      rw [hpost]
      exact Or.inl ⟨rfl, h1, hH⟩
    · skip
      refine vx_catch C.hown [⟨0, 11, 14, 21⟩] ⟨0, 11, 18, 13⟩ [] (het.trans rfl) (List.forall_mem_cons.mpr ⟨Or.inr ⟨by decide, _, C.ws _ qw_284, C.st.2.2.2.1 _ (List.mem_of_getElem? (i := 0) rfl)⟩, fun _ h => by cases h⟩) (by decide) (by decide) (C.ws _ qw_110) ((C.st.nb nw_121).use rfl) hce hcv hcl ?_
      refine lv_astore (lv' := [(6, .ref q9), (0, .ref (al (0, 0, 0))), (1, .int x), (2, .int y), (3, .int k), (4, .int a), (5, .int b)]) hx hb dL_right_18 hl (by decide) rfl (fun ls hl => ?_)
      refine lv_iconst (v := nI 2) hx hb dL_right_20 (by decide +kernel) ?_
      rw [← hQ]
      refine vx_ret (x_reti C rfl hS (Nat.le_of_ble_eq_true rfl) (Nat.le_of_ble_eq_true rfl) dL_right_21 ?_)
      rw [hpost]
      exact Or.inr (Or.inl ⟨rfl, h1, h2, hH⟩)
  · skip
    obtain ⟨p, f, hp, hf, rfl, rfl, h1, rfl, hH⟩ := hp_1
    refine lv_goto (tgt := 22) hx hb dL_right_11 (by decide) ?_
    refine lv_iconst (v := nI 0) hx hb dL_right_22 (by decide +kernel) ?_
    rw [← hQ]
    refine vx_ret (x_reti C rfl hS (Nat.le_of_ble_eq_true rfl) (Nat.le_of_ble_eq_true rfl) dL_right_23 ?_)
    rw [hpost]
    exact Or.inr (Or.inr ⟨rfl, p, f, hp, hf, rfl, rfl, h1, hH⟩)

set_option maxHeartbeats 4000000 in
set_option maxRecDepth 100000 in
theorem l_budget (l : Launch) (hfl : l.stackTraces = false) {E : xE} {base : Nat} {al : Tg → Nat} {w : Tg → Option va_E} {nf np na nw : Nat} {sg : Nat → Nat → Nat → Int32} {rc : Nat → Bool} (hR : RM E al w nf np na nw sg rc) (hI : INV nf np na nw sg rc) {fo : Nat → Int64} (hO : w (20, 0, 0) = some (.inl (E.2.1 1, 1, .inr (.inl fo)))) {x y : Int32} : xMetH l yL_budget cL_budget 5 (some (.int)) [(0, 10, 13, 21), (0, 10, 17, 13)] ({ frames := 8, cells := 2, slots := 12, locals := 128 } : Room) E base [.ref (al (0, 0, 0)), .int x, .int y, .ref (al (20, 0, 0))] (fun H => xH E base al w H) (fun r H => (r = some (.int (nI 1)) ∧ ¬ inR x np ∧ xH E base al w H) ∨ (r = some (.int (nI 2)) ∧ inR x np ∧ ¬ (nI 0 ≤ y ∧ y ≤ nI 128) ∧ xH E base al w H) ∨ (r = some (.int (nI 0)) ∧ ∃ p, p < np ∧ x = nI p ∧ (nI 0 ≤ y ∧ y ≤ nI 128) ∧ POW E base al w (sg 3 p 0) nf np na nw (u3 sg 3 p 0 y) rc H)) := by
  refine xMetH.of (by decide +kernel) "DataroomLaw" rfl (Nat.le_of_ble_eq_true rfl) ?_
  intro p9 e9 s m9 below meth c9 ls C het hP hS hl
  have hx := C.hx
  have hb := C.hb
  have hH := hP
  have hX := hR.1
  have hl : lv_has ls 5 [(0, .ref (al (0, 0, 0))), (1, .int x), (2, .int y), (3, .ref (al (20, 0, 0)))] := hl
  obtain ⟨post, hpost⟩ : ∃ zz9 : Option Value → Heap → Prop, zz9 = (fun r H => (r = some (.int (nI 1)) ∧ ¬ inR x np ∧ xH E base al w H) ∨ (r = some (.int (nI 2)) ∧ inR x np ∧ ¬ (nI 0 ≤ y ∧ y ≤ nI 128) ∧ xH E base al w H) ∨ (r = some (.int (nI 0)) ∧ ∃ p, p < np ∧ x = nI p ∧ (nI 0 ≤ y ∧ y ≤ nI 128) ∧ POW E base al w (sg 3 p 0) nf np na nw (u3 sg 3 p 0 y) rc H)) := ⟨_, rfl⟩
  obtain ⟨px, hpx⟩ : ∃ zz9 : String → Heap → Prop, zz9 = (fun _ _ => False) := ⟨_, rfl⟩
  rw [← hpost, ← hpx]
  generalize hQ : (vx_MQ below (xQ base post) (xX base px) ([.ref (al (0, 0, 0)), .int x, .int y, .ref (al (20, 0, 0))] : List Value).toArray s 2 12 (xA base)) = Q
  refine lv_aload_n hx hb dL_budget_0 rfl (lv_at hl 3 rfl) ?_
  refine lv_iconst (v := nI 0) hx hb dL_budget_1 (by decide +kernel) ?_
  refine lv_aload_n hx hb dL_budget_2 rfl (lv_at hl 0 rfl) ?_
  refine lv_iload_n hx hb dL_budget_3 rfl (lv_at hl 1 rfl) ?_
  refine lv_iload_n hx hb dL_budget_4 rfl (lv_at hl 2 rfl) ?_
  refine x_thrV C hH hS (ci := 7) (t := (0, 0, 0)) hX rfl rfl (c_budget l hfl (E := E) (base := base) hR hI (x := x) (y := y)) hH kX6_budget qw_406 qw_407 qw_405  rfl [.int (nI 0), .ref (al (20, 0, 0))] rfl hl.1 (Nat.le_of_ble_eq_true rfl) ⟨Nat.le_of_ble_eq_true rfl, Nat.le_of_ble_eq_true rfl⟩ dL_budget_5 ⟨Nat.le_of_ble_eq_true rfl, Nat.le_of_ble_eq_true rfl⟩ (fun X ce q9 H locs hp_1 hS hce hcv hcl => ?_) (fun r_2 H locs hp_1 hS => ?_)
  · skip
    obtain ⟨hcs, hH⟩ := hp_1
    rcases hcs with ⟨rfl, h1⟩ | ⟨rfl, h1, h2⟩
    · skip
      refine vx_catch C.hown [] ⟨0, 10, 13, 21⟩ [⟨0, 10, 17, 13⟩] (het.trans rfl) (fun z hz => by cases hz) (by decide) (by decide) (C.ws _ qw_284) ((C.st.nb nw_299).use rfl) hce hcv hcl ?_
      refine lv_astore (lv' := [(4, .ref q9), (0, .ref (al (0, 0, 0))), (1, .int x), (2, .int y), (3, .ref (al (20, 0, 0)))]) hx hb dL_budget_13 hl (by decide) rfl (fun ls hl => ?_)
      refine lv_iconst (v := nI 1) hx hb dL_budget_15 (by decide +kernel) ?_
      rw [← hQ]
      refine vx_ret (x_reti C rfl hS (Nat.le_of_ble_eq_true rfl) (Nat.le_of_ble_eq_true rfl) dL_budget_16 ?_)
      rw [hpost]
      exact Or.inl ⟨rfl, h1, hH⟩
    · skip
      refine vx_catch C.hown [⟨0, 10, 13, 21⟩] ⟨0, 10, 17, 13⟩ [] (het.trans rfl) (List.forall_mem_cons.mpr ⟨Or.inr ⟨by decide, _, C.ws _ qw_284, C.st.2.2.2.1 _ (List.mem_of_getElem? (i := 0) rfl)⟩, fun _ h => by cases h⟩) (by decide) (by decide) (C.ws _ qw_110) ((C.st.nb nw_121).use rfl) hce hcv hcl ?_
      refine lv_astore (lv' := [(4, .ref q9), (0, .ref (al (0, 0, 0))), (1, .int x), (2, .int y), (3, .ref (al (20, 0, 0)))]) hx hb dL_budget_17 hl (by decide) rfl (fun ls hl => ?_)
      refine lv_iconst (v := nI 2) hx hb dL_budget_19 (by decide +kernel) ?_
      rw [← hQ]
      refine vx_ret (x_reti C rfl hS (Nat.le_of_ble_eq_true rfl) (Nat.le_of_ble_eq_true rfl) dL_budget_20 ?_)
      rw [hpost]
      exact Or.inr (Or.inl ⟨rfl, h1, h2, hH⟩)
  · skip
    obtain ⟨p, hp, rfl, h1, rfl, hH⟩ := hp_1
    have hP9 := hH
    obtain ⟨al9, w9, hH, hR9, hf9, h09⟩ := hP9
    have ho9 := (hf9 (20, 0, 0) (by decide)).2
    have hO9 : w9 (20, 0, 0) = _ := (hf9 (20, 0, 0) (by decide)).1.trans hO
    refine lv_i2l hx hb dL_budget_8 rfl ?_
    refine lv_adr3 ho9.symm ?_
    refine x_last C hH hS hO9 (j := 0) rfl (by omega) (by omega) dL_budget_9 (fun H locs hH hS => ?_)
    have hO9 : (xu w9 (20, 0, 0) (.inl (E.2.1 1, 1, .inr (.inl (vp_updL fo 0 ((sg 3 p 0).toInt64)))))) (20, 0, 0) = some (.inl (E.2.1 1, 1, .inr (.inl (vp_updL fo 0 ((sg 3 p 0).toInt64))))) := xu_self _ _ _
    refine lv_goto (tgt := 21) hx hb dL_budget_10 (by decide) ?_
    refine lv_iconst (v := nI 0) hx hb dL_budget_21 (by decide +kernel) ?_
    rw [← hQ]
    refine vx_ret (x_reti C rfl hS (Nat.le_of_ble_eq_true rfl) (Nat.le_of_ble_eq_true rfl) dL_budget_22 ?_)
    rw [hpost]
    exact Or.inr (Or.inr ⟨rfl, p, hp, rfl, h1, pow_of hH hR9 hf9 h09⟩)

set_option maxHeartbeats 4000000 in
set_option maxRecDepth 100000 in
theorem l_file (l : Launch) (hfl : l.stackTraces = false) {E : xE} {base : Nat} {al : Tg → Nat} {w : Tg → Option va_E} {nf np na nw : Nat} {sg : Nat → Nat → Nat → Int32} {rc : Nat → Bool} (hR : RM E al w nf np na nw sg rc) (hI : INV nf np na nw sg rc) {fo : Nat → Int64} (hO : w (20, 0, 0) = some (.inl (E.2.1 1, 1, .inr (.inl fo)))) {x : Int32} : xMetH l yL_file cL_file 4 (some (.int)) [(0, 9, 12, 13), (0, 9, 15, 15)] ({ frames := 8, cells := 3, slots := 368, locals := 212 } : Room) E base [.ref (al (0, 0, 0)), .int x, .ref (al (20, 0, 0))] (fun H => xH E base al w H) (fun r H => (r = some (.int (nI 1)) ∧ ¬ (nI 0 ≤ x ∧ x ≤ nI 255) ∧ xH E base al w H) ∨ (r = some (.int (nI 2)) ∧ (nI 0 ≤ x ∧ x ≤ nI 255) ∧ ¬ nf < 16 ∧ xH E base al w H) ∨ (r = some (.int (nI 0)) ∧ (nI 0 ≤ x ∧ x ≤ nI 255) ∧ nf < 16 ∧ POW E base al w (nI nf) (nf + 1) np na nw (u3 sg 1 nf 0 x) rc H)) := by
  refine xMetH.of (by decide +kernel) "DataroomLaw" rfl (Nat.le_of_ble_eq_true rfl) ?_
  intro p9 e9 s m9 below meth c9 ls C het hP hS hl
  have hx := C.hx
  have hb := C.hb
  have hH := hP
  have hX := hR.1
  have hl : lv_has ls 4 [(0, .ref (al (0, 0, 0))), (1, .int x), (2, .ref (al (20, 0, 0)))] := hl
  obtain ⟨post, hpost⟩ : ∃ zz9 : Option Value → Heap → Prop, zz9 = (fun r H => (r = some (.int (nI 1)) ∧ ¬ (nI 0 ≤ x ∧ x ≤ nI 255) ∧ xH E base al w H) ∨ (r = some (.int (nI 2)) ∧ (nI 0 ≤ x ∧ x ≤ nI 255) ∧ ¬ nf < 16 ∧ xH E base al w H) ∨ (r = some (.int (nI 0)) ∧ (nI 0 ≤ x ∧ x ≤ nI 255) ∧ nf < 16 ∧ POW E base al w (nI nf) (nf + 1) np na nw (u3 sg 1 nf 0 x) rc H)) := ⟨_, rfl⟩
  obtain ⟨px, hpx⟩ : ∃ zz9 : String → Heap → Prop, zz9 = (fun _ _ => False) := ⟨_, rfl⟩
  rw [← hpost, ← hpx]
  generalize hQ : (vx_MQ below (xQ base post) (xX base px) ([.ref (al (0, 0, 0)), .int x, .ref (al (20, 0, 0))] : List Value).toArray s 3 368 (xA base)) = Q
  refine lv_aload_n hx hb dL_file_0 rfl (lv_at hl 2 rfl) ?_
  refine lv_iconst (v := nI 0) hx hb dL_file_1 (by decide +kernel) ?_
  refine lv_aload_n hx hb dL_file_2 rfl (lv_at hl 0 rfl) ?_
  refine lv_iload_n hx hb dL_file_3 rfl (lv_at hl 1 rfl) ?_
  refine x_thrV C hH hS (ci := 7) (t := (0, 0, 0)) hX rfl rfl (c_file l hfl (E := E) (base := base) hR hI (x := x)) hH kX6_file qw_113 qw_114 qw_112  rfl [.int (nI 0), .ref (al (20, 0, 0))] rfl hl.1 (Nat.le_of_ble_eq_true rfl) ⟨Nat.le_of_ble_eq_true rfl, Nat.le_of_ble_eq_true rfl⟩ dL_file_4 ⟨Nat.le_of_ble_eq_true rfl, Nat.le_of_ble_eq_true rfl⟩ (fun X ce q9 H locs hp_1 hS hce hcv hcl => ?_) (fun r_2 H locs hp_1 hS => ?_)
  · skip
    obtain ⟨hcs, hH⟩ := hp_1
    rcases hcs with ⟨rfl, h1⟩ | ⟨rfl, h1, h2⟩
    · skip
      refine vx_catch C.hown [] ⟨0, 9, 12, 13⟩ [⟨0, 9, 15, 15⟩] (het.trans rfl) (fun z hz => by cases hz) (by decide) (by decide) (C.ws _ qw_110) ((C.st.nb nw_121).use rfl) hce hcv hcl ?_
      refine lv_astore_n (lv' := [(3, .ref q9), (0, .ref (al (0, 0, 0))), (1, .int x), (2, .ref (al (20, 0, 0)))]) hx hb dL_file_12 rfl hl (by decide) rfl (fun ls hl => ?_)
      refine lv_iconst (v := nI 1) hx hb dL_file_13 (by decide +kernel) ?_
      rw [← hQ]
      refine vx_ret (x_reti C rfl hS (Nat.le_of_ble_eq_true rfl) (Nat.le_of_ble_eq_true rfl) dL_file_14 ?_)
      rw [hpost]
      exact Or.inl ⟨rfl, h1, hH⟩
    · skip
      refine vx_catch C.hown [⟨0, 9, 12, 13⟩] ⟨0, 9, 15, 15⟩ [] (het.trans rfl) (List.forall_mem_cons.mpr ⟨Or.inr ⟨by decide, _, C.ws _ qw_110, C.st.2.2.2.1 _ (List.mem_of_getElem? (i := 2) rfl)⟩, fun _ h => by cases h⟩) (by decide) (by decide) (C.ws _ qw_111) ((C.st.nb nw_193).use rfl) hce hcv hcl ?_
      refine lv_astore_n (lv' := [(3, .ref q9), (0, .ref (al (0, 0, 0))), (1, .int x), (2, .ref (al (20, 0, 0)))]) hx hb dL_file_15 rfl hl (by decide) rfl (fun ls hl => ?_)
      refine lv_iconst (v := nI 2) hx hb dL_file_16 (by decide +kernel) ?_
      rw [← hQ]
      refine vx_ret (x_reti C rfl hS (Nat.le_of_ble_eq_true rfl) (Nat.le_of_ble_eq_true rfl) dL_file_17 ?_)
      rw [hpost]
      exact Or.inr (Or.inl ⟨rfl, h1, h2, hH⟩)
  · skip
    obtain ⟨h1, h2, rfl, hH⟩ := hp_1
    have hP9 := hH
    obtain ⟨al9, w9, hH, hR9, hf9, h09⟩ := hP9
    have ho9 := (hf9 (20, 0, 0) (by decide)).2
    have hO9 : w9 (20, 0, 0) = _ := (hf9 (20, 0, 0) (by decide)).1.trans hO
    refine lv_i2l hx hb dL_file_7 rfl ?_
    refine lv_adr3 ho9.symm ?_
    refine x_last C hH hS hO9 (j := 0) rfl (by omega) (by omega) dL_file_8 (fun H locs hH hS => ?_)
    have hO9 : (xu w9 (20, 0, 0) (.inl (E.2.1 1, 1, .inr (.inl (vp_updL fo 0 ((nI nf).toInt64)))))) (20, 0, 0) = some (.inl (E.2.1 1, 1, .inr (.inl (vp_updL fo 0 ((nI nf).toInt64))))) := xu_self _ _ _
    refine lv_goto (tgt := 18) hx hb dL_file_9 (by decide) ?_
    refine lv_iconst (v := nI 0) hx hb dL_file_18 (by decide +kernel) ?_
    rw [← hQ]
    refine vx_ret (x_reti C rfl hS (Nat.le_of_ble_eq_true rfl) (Nat.le_of_ble_eq_true rfl) dL_file_19 ?_)
    rw [hpost]
    exact Or.inr (Or.inr ⟨rfl, h1, h2, pow_of hH hR9 hf9 h09⟩)

set_option maxHeartbeats 4000000 in
set_option maxRecDepth 100000 in
theorem l_party (l : Launch) (hfl : l.stackTraces = false) {E : xE} {base : Nat} {al : Tg → Nat} {w : Tg → Option va_E} {nf np na nw : Nat} {sg : Nat → Nat → Nat → Int32} {rc : Nat → Bool} (hR : RM E al w nf np na nw sg rc) (hI : INV nf np na nw sg rc) {fo : Nat → Int64} (hO : w (20, 0, 0) = some (.inl (E.2.1 1, 1, .inr (.inl fo)))) {x : Int32} : xMetH l yL_party cL_party 4 (some (.int)) [(0, 9, 12, 13), (0, 9, 15, 15)] ({ frames := 8, cells := 22, slots := 544, locals := 213 } : Room) E base [.ref (al (0, 0, 0)), .int x, .ref (al (20, 0, 0))] (fun H => xH E base al w H) (fun r H => (r = some (.int (nI 1)) ∧ ¬ (nI 0 ≤ x ∧ x ≤ nI 128) ∧ xH E base al w H) ∨ (r = some (.int (nI 2)) ∧ (nI 0 ≤ x ∧ x ≤ nI 128) ∧ ¬ np < 6 ∧ xH E base al w H) ∨ (r = some (.int (nI 0)) ∧ (nI 0 ≤ x ∧ x ≤ nI 128) ∧ np < 6 ∧ POW E base al w (nI np) nf (np + 1) na nw (u3 sg 3 np 0 x) rc H)) := by
  refine xMetH.of (by decide +kernel) "DataroomLaw" rfl (Nat.le_of_ble_eq_true rfl) ?_
  intro p9 e9 s m9 below meth c9 ls C het hP hS hl
  have hx := C.hx
  have hb := C.hb
  have hH := hP
  have hX := hR.1
  have hl : lv_has ls 4 [(0, .ref (al (0, 0, 0))), (1, .int x), (2, .ref (al (20, 0, 0)))] := hl
  obtain ⟨post, hpost⟩ : ∃ zz9 : Option Value → Heap → Prop, zz9 = (fun r H => (r = some (.int (nI 1)) ∧ ¬ (nI 0 ≤ x ∧ x ≤ nI 128) ∧ xH E base al w H) ∨ (r = some (.int (nI 2)) ∧ (nI 0 ≤ x ∧ x ≤ nI 128) ∧ ¬ np < 6 ∧ xH E base al w H) ∨ (r = some (.int (nI 0)) ∧ (nI 0 ≤ x ∧ x ≤ nI 128) ∧ np < 6 ∧ POW E base al w (nI np) nf (np + 1) na nw (u3 sg 3 np 0 x) rc H)) := ⟨_, rfl⟩
  obtain ⟨px, hpx⟩ : ∃ zz9 : String → Heap → Prop, zz9 = (fun _ _ => False) := ⟨_, rfl⟩
  rw [← hpost, ← hpx]
  generalize hQ : (vx_MQ below (xQ base post) (xX base px) ([.ref (al (0, 0, 0)), .int x, .ref (al (20, 0, 0))] : List Value).toArray s 22 544 (xA base)) = Q
  refine lv_aload_n hx hb dL_party_0 rfl (lv_at hl 2 rfl) ?_
  refine lv_iconst (v := nI 0) hx hb dL_party_1 (by decide +kernel) ?_
  refine lv_aload_n hx hb dL_party_2 rfl (lv_at hl 0 rfl) ?_
  refine lv_iload_n hx hb dL_party_3 rfl (lv_at hl 1 rfl) ?_
  refine x_thrV C hH hS (ci := 7) (t := (0, 0, 0)) hX rfl rfl (c_party l hfl (E := E) (base := base) hR hI (x := x)) hH kX6_party qw_368 qw_369 qw_367  rfl [.int (nI 0), .ref (al (20, 0, 0))] rfl hl.1 (Nat.le_of_ble_eq_true rfl) ⟨Nat.le_of_ble_eq_true rfl, Nat.le_of_ble_eq_true rfl⟩ dL_party_4 ⟨Nat.le_of_ble_eq_true rfl, Nat.le_of_ble_eq_true rfl⟩ (fun X ce q9 H locs hp_1 hS hce hcv hcl => ?_) (fun r_2 H locs hp_1 hS => ?_)
  · skip
    obtain ⟨hcs, hH⟩ := hp_1
    rcases hcs with ⟨rfl, h1⟩ | ⟨rfl, h1, h2⟩
    · skip
      refine vx_catch C.hown [] ⟨0, 9, 12, 13⟩ [⟨0, 9, 15, 15⟩] (het.trans rfl) (fun z hz => by cases hz) (by decide) (by decide) (C.ws _ qw_110) ((C.st.nb nw_121).use rfl) hce hcv hcl ?_
      refine lv_astore_n (lv' := [(3, .ref q9), (0, .ref (al (0, 0, 0))), (1, .int x), (2, .ref (al (20, 0, 0)))]) hx hb dL_party_12 rfl hl (by decide) rfl (fun ls hl => ?_)
      refine lv_iconst (v := nI 1) hx hb dL_party_13 (by decide +kernel) ?_
      rw [← hQ]
      refine vx_ret (x_reti C rfl hS (Nat.le_of_ble_eq_true rfl) (Nat.le_of_ble_eq_true rfl) dL_party_14 ?_)
      rw [hpost]
      exact Or.inl ⟨rfl, h1, hH⟩
    · skip
      refine vx_catch C.hown [⟨0, 9, 12, 13⟩] ⟨0, 9, 15, 15⟩ [] (het.trans rfl) (List.forall_mem_cons.mpr ⟨Or.inr ⟨by decide, _, C.ws _ qw_110, C.st.2.2.2.1 _ (List.mem_of_getElem? (i := 2) rfl)⟩, fun _ h => by cases h⟩) (by decide) (by decide) (C.ws _ qw_111) ((C.st.nb nw_193).use rfl) hce hcv hcl ?_
      refine lv_astore_n (lv' := [(3, .ref q9), (0, .ref (al (0, 0, 0))), (1, .int x), (2, .ref (al (20, 0, 0)))]) hx hb dL_party_15 rfl hl (by decide) rfl (fun ls hl => ?_)
      refine lv_iconst (v := nI 2) hx hb dL_party_16 (by decide +kernel) ?_
      rw [← hQ]
      refine vx_ret (x_reti C rfl hS (Nat.le_of_ble_eq_true rfl) (Nat.le_of_ble_eq_true rfl) dL_party_17 ?_)
      rw [hpost]
      exact Or.inr (Or.inl ⟨rfl, h1, h2, hH⟩)
  · skip
    obtain ⟨h1, h2, rfl, hH⟩ := hp_1
    have hP9 := hH
    obtain ⟨al9, w9, hH, hR9, hf9, h09⟩ := hP9
    have ho9 := (hf9 (20, 0, 0) (by decide)).2
    have hO9 : w9 (20, 0, 0) = _ := (hf9 (20, 0, 0) (by decide)).1.trans hO
    refine lv_i2l hx hb dL_party_7 rfl ?_
    refine lv_adr3 ho9.symm ?_
    refine x_last C hH hS hO9 (j := 0) rfl (by omega) (by omega) dL_party_8 (fun H locs hH hS => ?_)
    have hO9 : (xu w9 (20, 0, 0) (.inl (E.2.1 1, 1, .inr (.inl (vp_updL fo 0 ((nI np).toInt64)))))) (20, 0, 0) = some (.inl (E.2.1 1, 1, .inr (.inl (vp_updL fo 0 ((nI np).toInt64))))) := xu_self _ _ _
    refine lv_goto (tgt := 18) hx hb dL_party_9 (by decide) ?_
    refine lv_iconst (v := nI 0) hx hb dL_party_18 (by decide +kernel) ?_
    rw [← hQ]
    refine vx_ret (x_reti C rfl hS (Nat.le_of_ble_eq_true rfl) (Nat.le_of_ble_eq_true rfl) dL_party_19 ?_)
    rw [hpost]
    exact Or.inr (Or.inr ⟨rfl, h1, h2, pow_of hH hR9 hf9 h09⟩)

set_option maxHeartbeats 4000000 in
set_option maxRecDepth 100000 in
theorem l_pass (l : Launch) (hfl : l.stackTraces = false) {E : xE} {base : Nat} {al : Tg → Nat} {w : Tg → Option va_E} {nf np na nw : Nat} {sg : Nat → Nat → Nat → Int32} {rc : Nat → Bool} (hR : RM E al w nf np na nw sg rc) (hI : INV nf np na nw sg rc) {fo : Nat → Int64} (hO : w (20, 0, 0) = some (.inl (E.2.1 1, 1, .inr (.inl fo)))) {x : Int32} : xMetH l yL_pass cL_pass 4 (some (.int)) [(0, 9, 12, 13), (0, 9, 15, 15)] ({ frames := 8, cells := 2, slots := 12, locals := 125 } : Room) E base [.ref (al (0, 0, 0)), .int x, .ref (al (20, 0, 0))] (fun H => xH E base al w H) (fun r H => (r = some (.int (nI 1)) ∧ ¬ (nI 1 ≤ x ∧ x ≤ nI 500) ∧ xH E base al w H) ∨ (r = some (.int (nI 2)) ∧ (nI 1 ≤ x ∧ x ≤ nI 500) ∧ ¬ nI nw + x ≤ nI 5000 ∧ xH E base al w H) ∨ (r = some (.int (nI 0)) ∧ ∃ k, x = nI k ∧ (nI 1 ≤ x ∧ x ≤ nI 500) ∧ nw + k ≤ 5000 ∧ POW E base al w (nI (nw + k)) nf np na (nw + k) sg rc H)) := by
  refine xMetH.of (by decide +kernel) "DataroomLaw" rfl (Nat.le_of_ble_eq_true rfl) ?_
  intro p9 e9 s m9 below meth c9 ls C het hP hS hl
  have hx := C.hx
  have hb := C.hb
  have hH := hP
  have hX := hR.1
  have hl : lv_has ls 4 [(0, .ref (al (0, 0, 0))), (1, .int x), (2, .ref (al (20, 0, 0)))] := hl
  obtain ⟨post, hpost⟩ : ∃ zz9 : Option Value → Heap → Prop, zz9 = (fun r H => (r = some (.int (nI 1)) ∧ ¬ (nI 1 ≤ x ∧ x ≤ nI 500) ∧ xH E base al w H) ∨ (r = some (.int (nI 2)) ∧ (nI 1 ≤ x ∧ x ≤ nI 500) ∧ ¬ nI nw + x ≤ nI 5000 ∧ xH E base al w H) ∨ (r = some (.int (nI 0)) ∧ ∃ k, x = nI k ∧ (nI 1 ≤ x ∧ x ≤ nI 500) ∧ nw + k ≤ 5000 ∧ POW E base al w (nI (nw + k)) nf np na (nw + k) sg rc H)) := ⟨_, rfl⟩
  obtain ⟨px, hpx⟩ : ∃ zz9 : String → Heap → Prop, zz9 = (fun _ _ => False) := ⟨_, rfl⟩
  rw [← hpost, ← hpx]
  generalize hQ : (vx_MQ below (xQ base post) (xX base px) ([.ref (al (0, 0, 0)), .int x, .ref (al (20, 0, 0))] : List Value).toArray s 2 12 (xA base)) = Q
  refine lv_aload_n hx hb dL_pass_0 rfl (lv_at hl 2 rfl) ?_
  refine lv_iconst (v := nI 0) hx hb dL_pass_1 (by decide +kernel) ?_
  refine lv_aload_n hx hb dL_pass_2 rfl (lv_at hl 0 rfl) ?_
  refine lv_iload_n hx hb dL_pass_3 rfl (lv_at hl 1 rfl) ?_
  refine x_thrV C hH hS (ci := 7) (t := (0, 0, 0)) hX rfl rfl (c_pass l hfl (E := E) (base := base) hR hI (x := x)) hH kX6_pass qw_463 qw_464 qw_462  rfl [.int (nI 0), .ref (al (20, 0, 0))] rfl hl.1 (Nat.le_of_ble_eq_true rfl) ⟨Nat.le_of_ble_eq_true rfl, Nat.le_of_ble_eq_true rfl⟩ dL_pass_4 ⟨Nat.le_of_ble_eq_true rfl, Nat.le_of_ble_eq_true rfl⟩ (fun X ce q9 H locs hp_1 hS hce hcv hcl => ?_) (fun r_2 H locs hp_1 hS => ?_)
  · skip
    obtain ⟨hcs, hH⟩ := hp_1
    rcases hcs with ⟨rfl, h1⟩ | ⟨rfl, h1, h2⟩
    · skip
      refine vx_catch C.hown [] ⟨0, 9, 12, 13⟩ [⟨0, 9, 15, 15⟩] (het.trans rfl) (fun z hz => by cases hz) (by decide) (by decide) (C.ws _ qw_110) ((C.st.nb nw_121).use rfl) hce hcv hcl ?_
      refine lv_astore_n (lv' := [(3, .ref q9), (0, .ref (al (0, 0, 0))), (1, .int x), (2, .ref (al (20, 0, 0)))]) hx hb dL_pass_12 rfl hl (by decide) rfl (fun ls hl => ?_)
      refine lv_iconst (v := nI 1) hx hb dL_pass_13 (by decide +kernel) ?_
      rw [← hQ]
      refine vx_ret (x_reti C rfl hS (Nat.le_of_ble_eq_true rfl) (Nat.le_of_ble_eq_true rfl) dL_pass_14 ?_)
      rw [hpost]
      exact Or.inl ⟨rfl, h1, hH⟩
    · skip
      refine vx_catch C.hown [⟨0, 9, 12, 13⟩] ⟨0, 9, 15, 15⟩ [] (het.trans rfl) (List.forall_mem_cons.mpr ⟨Or.inr ⟨by decide, _, C.ws _ qw_110, C.st.2.2.2.1 _ (List.mem_of_getElem? (i := 2) rfl)⟩, fun _ h => by cases h⟩) (by decide) (by decide) (C.ws _ qw_111) ((C.st.nb nw_193).use rfl) hce hcv hcl ?_
      refine lv_astore_n (lv' := [(3, .ref q9), (0, .ref (al (0, 0, 0))), (1, .int x), (2, .ref (al (20, 0, 0)))]) hx hb dL_pass_15 rfl hl (by decide) rfl (fun ls hl => ?_)
      refine lv_iconst (v := nI 2) hx hb dL_pass_16 (by decide +kernel) ?_
      rw [← hQ]
      refine vx_ret (x_reti C rfl hS (Nat.le_of_ble_eq_true rfl) (Nat.le_of_ble_eq_true rfl) dL_pass_17 ?_)
      rw [hpost]
      exact Or.inr (Or.inl ⟨rfl, h1, h2, hH⟩)
  · skip
    obtain ⟨k, rfl, h1, h2, rfl, hH⟩ := hp_1
    have hP9 := hH
    obtain ⟨al9, w9, hH, hR9, hf9, h09⟩ := hP9
    have ho9 := (hf9 (20, 0, 0) (by decide)).2
    have hO9 : w9 (20, 0, 0) = _ := (hf9 (20, 0, 0) (by decide)).1.trans hO
    refine lv_i2l hx hb dL_pass_7 rfl ?_
    refine lv_adr3 ho9.symm ?_
    refine x_last C hH hS hO9 (j := 0) rfl (by omega) (by omega) dL_pass_8 (fun H locs hH hS => ?_)
    have hO9 : (xu w9 (20, 0, 0) (.inl (E.2.1 1, 1, .inr (.inl (vp_updL fo 0 ((nI (nw + k)).toInt64)))))) (20, 0, 0) = some (.inl (E.2.1 1, 1, .inr (.inl (vp_updL fo 0 ((nI (nw + k)).toInt64))))) := xu_self _ _ _
    refine lv_goto (tgt := 18) hx hb dL_pass_9 (by decide) ?_
    refine lv_iconst (v := nI 0) hx hb dL_pass_18 (by decide +kernel) ?_
    rw [← hQ]
    refine vx_ret (x_reti C rfl hS (Nat.le_of_ble_eq_true rfl) (Nat.le_of_ble_eq_true rfl) dL_pass_19 ?_)
    rw [hpost]
    exact Or.inr (Or.inr ⟨rfl, k, rfl, h1, h2, pow_of hH hR9 hf9 h09⟩)

set_option maxHeartbeats 4000000 in
set_option maxRecDepth 100000 in
theorem l_change (l : Launch) (hfl : l.stackTraces = false) {E : xE} {base : Nat} {al : Tg → Nat} {w : Tg → Option va_E} {nf np na nw : Nat} {sg : Nat → Nat → Nat → Int32} {rc : Nat → Bool} (hR : RM E al w nf np na nw sg rc) (hI : INV nf np na nw sg rc) {fo : Nat → Int64} (hO : w (20, 0, 0) = some (.inl (E.2.1 1, 1, .inr (.inl fo)))) {x y : Int32} : xMetH l yL_change cL_change 5 (some (.int)) [(0, 10, 13, 21), (0, 10, 17, 13)] ({ frames := 9, cells := 2, slots := 12, locals := 149 } : Room) E base [.ref (al (0, 0, 0)), .int x, .int y, .ref (al (20, 0, 0))] (fun H => xH E base al w H) (fun r H => (r = some (.int (nI 1)) ∧ ¬ inR x nf ∧ xH E base al w H) ∨ (r = some (.int (nI 2)) ∧ inR x nf ∧ ¬ (nI 0 ≤ y ∧ y ≤ nI 255) ∧ xH E base al w H) ∨ (r = some (.int (nI 0)) ∧ ∃ f, f < nf ∧ x = nI f ∧ (nI 0 ≤ y ∧ y ≤ nI 255) ∧ POW E base al w (nI (bsum (fun a => !rc a && bt (sg 8 a 0) f) na)) nf np na nw (u3 sg 1 f 0 y) (rcA sg rc na f) H)) := by
  refine xMetH.of (by decide +kernel) "DataroomLaw" rfl (Nat.le_of_ble_eq_true rfl) ?_
  intro p9 e9 s m9 below meth c9 ls C het hP hS hl
  have hx := C.hx
  have hb := C.hb
  have hH := hP
  have hX := hR.1
  have hl : lv_has ls 5 [(0, .ref (al (0, 0, 0))), (1, .int x), (2, .int y), (3, .ref (al (20, 0, 0)))] := hl
  obtain ⟨post, hpost⟩ : ∃ zz9 : Option Value → Heap → Prop, zz9 = (fun r H => (r = some (.int (nI 1)) ∧ ¬ inR x nf ∧ xH E base al w H) ∨ (r = some (.int (nI 2)) ∧ inR x nf ∧ ¬ (nI 0 ≤ y ∧ y ≤ nI 255) ∧ xH E base al w H) ∨ (r = some (.int (nI 0)) ∧ ∃ f, f < nf ∧ x = nI f ∧ (nI 0 ≤ y ∧ y ≤ nI 255) ∧ POW E base al w (nI (bsum (fun a => !rc a && bt (sg 8 a 0) f) na)) nf np na nw (u3 sg 1 f 0 y) (rcA sg rc na f) H)) := ⟨_, rfl⟩
  obtain ⟨px, hpx⟩ : ∃ zz9 : String → Heap → Prop, zz9 = (fun _ _ => False) := ⟨_, rfl⟩
  rw [← hpost, ← hpx]
  generalize hQ : (vx_MQ below (xQ base post) (xX base px) ([.ref (al (0, 0, 0)), .int x, .int y, .ref (al (20, 0, 0))] : List Value).toArray s 2 12 (xA base)) = Q
  refine lv_aload_n hx hb dL_change_0 rfl (lv_at hl 3 rfl) ?_
  refine lv_iconst (v := nI 0) hx hb dL_change_1 (by decide +kernel) ?_
  refine lv_aload_n hx hb dL_change_2 rfl (lv_at hl 0 rfl) ?_
  refine lv_iload_n hx hb dL_change_3 rfl (lv_at hl 1 rfl) ?_
  refine lv_iload_n hx hb dL_change_4 rfl (lv_at hl 2 rfl) ?_
  refine x_thrV C hH hS (ci := 7) (t := (0, 0, 0)) hX rfl rfl (c_change l hfl (E := E) (base := base) hR hI (x := x) (y := y)) hH kX6_change qw_286 qw_287 qw_285  rfl [.int (nI 0), .ref (al (20, 0, 0))] rfl hl.1 (Nat.le_of_ble_eq_true rfl) ⟨Nat.le_of_ble_eq_true rfl, Nat.le_of_ble_eq_true rfl⟩ dL_change_5 ⟨Nat.le_of_ble_eq_true rfl, Nat.le_of_ble_eq_true rfl⟩ (fun X ce q9 H locs hp_1 hS hce hcv hcl => ?_) (fun r_2 H locs hp_1 hS => ?_)
  · skip
    obtain ⟨hcs, hH⟩ := hp_1
    rcases hcs with ⟨rfl, h1⟩ | ⟨rfl, h1, h2⟩
    · skip
      refine vx_catch C.hown [] ⟨0, 10, 13, 21⟩ [⟨0, 10, 17, 13⟩] (het.trans rfl) (fun z hz => by cases hz) (by decide) (by decide) (C.ws _ qw_284) ((C.st.nb nw_299).use rfl) hce hcv hcl ?_
      refine lv_astore (lv' := [(4, .ref q9), (0, .ref (al (0, 0, 0))), (1, .int x), (2, .int y), (3, .ref (al (20, 0, 0)))]) hx hb dL_change_13 hl (by decide) rfl (fun ls hl => ?_)
      refine lv_iconst (v := nI 1) hx hb dL_change_15 (by decide +kernel) ?_
      rw [← hQ]
      refine vx_ret (x_reti C rfl hS (Nat.le_of_ble_eq_true rfl) (Nat.le_of_ble_eq_true rfl) dL_change_16 ?_)
      rw [hpost]
      exact Or.inl ⟨rfl, h1, hH⟩
    · skip
      refine vx_catch C.hown [⟨0, 10, 13, 21⟩] ⟨0, 10, 17, 13⟩ [] (het.trans rfl) (List.forall_mem_cons.mpr ⟨Or.inr ⟨by decide, _, C.ws _ qw_284, C.st.2.2.2.1 _ (List.mem_of_getElem? (i := 0) rfl)⟩, fun _ h => by cases h⟩) (by decide) (by decide) (C.ws _ qw_110) ((C.st.nb nw_121).use rfl) hce hcv hcl ?_
      refine lv_astore (lv' := [(4, .ref q9), (0, .ref (al (0, 0, 0))), (1, .int x), (2, .int y), (3, .ref (al (20, 0, 0)))]) hx hb dL_change_17 hl (by decide) rfl (fun ls hl => ?_)
      refine lv_iconst (v := nI 2) hx hb dL_change_19 (by decide +kernel) ?_
      rw [← hQ]
      refine vx_ret (x_reti C rfl hS (Nat.le_of_ble_eq_true rfl) (Nat.le_of_ble_eq_true rfl) dL_change_20 ?_)
      rw [hpost]
      exact Or.inr (Or.inl ⟨rfl, h1, h2, hH⟩)
  · skip
    obtain ⟨f, hf, rfl, h1, rfl, hH⟩ := hp_1
    have hP9 := hH
    obtain ⟨al9, w9, hH, hR9, hf9, h09⟩ := hP9
    have ho9 := (hf9 (20, 0, 0) (by decide)).2
    have hO9 : w9 (20, 0, 0) = _ := (hf9 (20, 0, 0) (by decide)).1.trans hO
    refine lv_i2l hx hb dL_change_8 rfl ?_
    refine lv_adr3 ho9.symm ?_
    refine x_last C hH hS hO9 (j := 0) rfl (by omega) (by omega) dL_change_9 (fun H locs hH hS => ?_)
    have hO9 : (xu w9 (20, 0, 0) (.inl (E.2.1 1, 1, .inr (.inl (vp_updL fo 0 ((nI (bsum (fun a => !rc a && bt (sg 8 a 0) f) na)).toInt64)))))) (20, 0, 0) = some (.inl (E.2.1 1, 1, .inr (.inl (vp_updL fo 0 ((nI (bsum (fun a => !rc a && bt (sg 8 a 0) f) na)).toInt64))))) := xu_self _ _ _
    refine lv_goto (tgt := 21) hx hb dL_change_10 (by decide) ?_
    refine lv_iconst (v := nI 0) hx hb dL_change_21 (by decide +kernel) ?_
    rw [← hQ]
    refine vx_ret (x_reti C rfl hS (Nat.le_of_ble_eq_true rfl) (Nat.le_of_ble_eq_true rfl) dL_change_22 ?_)
    rw [hpost]
    exact Or.inr (Or.inr ⟨rfl, f, hf, rfl, h1, pow_of hH hR9 hf9 h09⟩)

set_option maxHeartbeats 4000000 in
set_option maxRecDepth 100000 in
theorem l_takeBack (l : Launch) (hfl : l.stackTraces = false) {E : xE} {base : Nat} {al : Tg → Nat} {w : Tg → Option va_E} {nf np na nw : Nat} {sg : Nat → Nat → Nat → Int32} {rc : Nat → Bool} (hR : RM E al w nf np na nw sg rc) (hI : INV nf np na nw sg rc) {fo : Nat → Int64} (hO : w (20, 0, 0) = some (.inl (E.2.1 1, 1, .inr (.inl fo)))) {x z : Int32} : xMetH l yL_takeBack cL_takeBack 5 (some (.int)) [(0, 10, 13, 21)] ({ frames := 8, cells := 2, slots := 12, locals := 138 } : Room) E base [.ref (al (0, 0, 0)), .int x, .int z, .ref (al (20, 0, 0))] (fun H => xH E base al w H) (fun r H => (r = some (.int (nI 1)) ∧ ¬ (inR x np ∧ inR z nf) ∧ xH E base al w H) ∨ (r = some (.int (nI 0)) ∧ ∃ p f, p < np ∧ f < nf ∧ x = nI p ∧ z = nI f ∧ POW E base al w (if sg 4 p f = 0 then nI 0 else nI (bsum (prc sg rc p f) na)) nf np na nw (u3 sg 4 p f 0) (if sg 4 p f = 0 then rc else rcI sg rc p f na) H)) := by
  refine xMetH.of (by decide +kernel) "DataroomLaw" rfl (Nat.le_of_ble_eq_true rfl) ?_
  intro p9 e9 s m9 below meth c9 ls C het hP hS hl
  have hx := C.hx
  have hb := C.hb
  have hH := hP
  have hX := hR.1
  have hl : lv_has ls 5 [(0, .ref (al (0, 0, 0))), (1, .int x), (2, .int z), (3, .ref (al (20, 0, 0)))] := hl
  obtain ⟨post, hpost⟩ : ∃ zz9 : Option Value → Heap → Prop, zz9 = (fun r H => (r = some (.int (nI 1)) ∧ ¬ (inR x np ∧ inR z nf) ∧ xH E base al w H) ∨ (r = some (.int (nI 0)) ∧ ∃ p f, p < np ∧ f < nf ∧ x = nI p ∧ z = nI f ∧ POW E base al w (if sg 4 p f = 0 then nI 0 else nI (bsum (prc sg rc p f) na)) nf np na nw (u3 sg 4 p f 0) (if sg 4 p f = 0 then rc else rcI sg rc p f na) H)) := ⟨_, rfl⟩
  obtain ⟨px, hpx⟩ : ∃ zz9 : String → Heap → Prop, zz9 = (fun _ _ => False) := ⟨_, rfl⟩
  rw [← hpost, ← hpx]
  generalize hQ : (vx_MQ below (xQ base post) (xX base px) ([.ref (al (0, 0, 0)), .int x, .int z, .ref (al (20, 0, 0))] : List Value).toArray s 2 12 (xA base)) = Q
  refine lv_aload_n hx hb dL_takeBack_0 rfl (lv_at hl 3 rfl) ?_
  refine lv_iconst (v := nI 0) hx hb dL_takeBack_1 (by decide +kernel) ?_
  refine lv_aload_n hx hb dL_takeBack_2 rfl (lv_at hl 0 rfl) ?_
  refine lv_iload_n hx hb dL_takeBack_3 rfl (lv_at hl 1 rfl) ?_
  refine lv_iload_n hx hb dL_takeBack_4 rfl (lv_at hl 2 rfl) ?_
  refine x_thrV C hH hS (ci := 7) (t := (0, 0, 0)) hX rfl rfl (c_takeBack l hfl (E := E) (base := base) hR hI (x := x) (z := z)) hH kX6_takeBack qw_445 qw_446 qw_444  rfl [.int (nI 0), .ref (al (20, 0, 0))] rfl hl.1 (Nat.le_of_ble_eq_true rfl) ⟨Nat.le_of_ble_eq_true rfl, Nat.le_of_ble_eq_true rfl⟩ dL_takeBack_5 ⟨Nat.le_of_ble_eq_true rfl, Nat.le_of_ble_eq_true rfl⟩ (fun X ce q9 H locs hp_1 hS hce hcv hcl => ?_) (fun r_2 H locs hp_1 hS => ?_)
  · skip
    obtain ⟨rfl, h1, hH⟩ := hp_1
    · skip
      refine vx_catch C.hown [] ⟨0, 10, 13, 21⟩ [] (het.trans rfl) (fun z hz => by cases hz) (by decide) (by decide) (C.ws _ qw_284) ((C.st.nb nw_299).use rfl) hce hcv hcl ?_
      refine lv_astore (lv' := [(4, .ref q9), (0, .ref (al (0, 0, 0))), (1, .int x), (2, .int z), (3, .ref (al (20, 0, 0)))]) hx hb dL_takeBack_13 hl (by decide) rfl (fun ls hl => ?_)
      refine lv_iconst (v := nI 1) hx hb dL_takeBack_15 (by decide +kernel) ?_
      rw [← hQ]
      refine vx_ret (x_reti C rfl hS (Nat.le_of_ble_eq_true rfl) (Nat.le_of_ble_eq_true rfl) dL_takeBack_16 ?_)
      rw [hpost]
      exact Or.inl ⟨rfl, h1, hH⟩
  · skip
    obtain ⟨p, f, hp, hf, rfl, rfl, rfl, hH⟩ := hp_1
    have hP9 := hH
    obtain ⟨al9, w9, hH, hR9, hf9, h09⟩ := hP9
    have ho9 := (hf9 (20, 0, 0) (by decide)).2
    have hO9 : w9 (20, 0, 0) = _ := (hf9 (20, 0, 0) (by decide)).1.trans hO
    refine lv_i2l hx hb dL_takeBack_8 rfl ?_
    refine lv_adr3 ho9.symm ?_
    refine x_last C hH hS hO9 (j := 0) rfl (by omega) (by omega) dL_takeBack_9 (fun H locs hH hS => ?_)
    have hO9 : (xu w9 (20, 0, 0) (.inl (E.2.1 1, 1, .inr (.inl (vp_updL fo 0 ((if sg 4 p f = 0 then nI 0 else nI (bsum (prc sg rc p f) na)).toInt64)))))) (20, 0, 0) = some (.inl (E.2.1 1, 1, .inr (.inl (vp_updL fo 0 ((if sg 4 p f = 0 then nI 0 else nI (bsum (prc sg rc p f) na)).toInt64))))) := xu_self _ _ _
    refine lv_goto (tgt := 17) hx hb dL_takeBack_10 (by decide) ?_
    refine lv_iconst (v := nI 0) hx hb dL_takeBack_17 (by decide +kernel) ?_
    rw [← hQ]
    refine vx_ret (x_reti C rfl hS (Nat.le_of_ble_eq_true rfl) (Nat.le_of_ble_eq_true rfl) dL_takeBack_18 ?_)
    rw [hpost]
    exact Or.inr ⟨rfl, p, f, hp, hf, rfl, rfl, pow_of hH hR9 hf9 h09⟩

set_option maxHeartbeats 4000000 in
set_option maxRecDepth 100000 in
theorem l_rightTo (l : Launch) (hfl : l.stackTraces = false) {E : xE} {base : Nat} {al : Tg → Nat} {w : Tg → Option va_E} {nf np na nw : Nat} {sg : Nat → Nat → Nat → Int32} {rc : Nat → Bool} (hR : RM E al w nf np na nw sg rc) (hI : INV nf np na nw sg rc) {fo : Nat → Int64} (hO : w (20, 0, 0) = some (.inl (E.2.1 1, 1, .inr (.inl fo)))) {x z : Int32} : xMetH l yL_rightTo cL_rightTo 5 (some (.int)) [(0, 10, 13, 21)] ({ frames := 8, cells := 2, slots := 12, locals := 126 } : Room) E base [.ref (al (0, 0, 0)), .int x, .int z, .ref (al (20, 0, 0))] (fun H => xH E base al w H) (fun r H => (r = some (.int (nI 1)) ∧ ¬ (inR x np ∧ inR z nf) ∧ xH E base al w H) ∨ (r = some (.int (nI 0)) ∧ ∃ p f, p < np ∧ f < nf ∧ x = nI p ∧ z = nI f ∧ POW E base al w (rIn (sg 4 p f) (sg 5 p f) (sg 6 p f) (nI nw)) nf np na nw sg rc H)) := by
  refine xMetH.of (by decide +kernel) "DataroomLaw" rfl (Nat.le_of_ble_eq_true rfl) ?_
  intro p9 e9 s m9 below meth c9 ls C het hP hS hl
  have hx := C.hx
  have hb := C.hb
  have hH := hP
  have hX := hR.1
  have hl : lv_has ls 5 [(0, .ref (al (0, 0, 0))), (1, .int x), (2, .int z), (3, .ref (al (20, 0, 0)))] := hl
  obtain ⟨post, hpost⟩ : ∃ zz9 : Option Value → Heap → Prop, zz9 = (fun r H => (r = some (.int (nI 1)) ∧ ¬ (inR x np ∧ inR z nf) ∧ xH E base al w H) ∨ (r = some (.int (nI 0)) ∧ ∃ p f, p < np ∧ f < nf ∧ x = nI p ∧ z = nI f ∧ POW E base al w (rIn (sg 4 p f) (sg 5 p f) (sg 6 p f) (nI nw)) nf np na nw sg rc H)) := ⟨_, rfl⟩
  obtain ⟨px, hpx⟩ : ∃ zz9 : String → Heap → Prop, zz9 = (fun _ _ => False) := ⟨_, rfl⟩
  rw [← hpost, ← hpx]
  generalize hQ : (vx_MQ below (xQ base post) (xX base px) ([.ref (al (0, 0, 0)), .int x, .int z, .ref (al (20, 0, 0))] : List Value).toArray s 2 12 (xA base)) = Q
  refine lv_aload_n hx hb dL_rightTo_0 rfl (lv_at hl 3 rfl) ?_
  refine lv_iconst (v := nI 0) hx hb dL_rightTo_1 (by decide +kernel) ?_
  refine lv_aload_n hx hb dL_rightTo_2 rfl (lv_at hl 0 rfl) ?_
  refine lv_iload_n hx hb dL_rightTo_3 rfl (lv_at hl 1 rfl) ?_
  refine lv_iload_n hx hb dL_rightTo_4 rfl (lv_at hl 2 rfl) ?_
  refine x_thrV C hH hS (ci := 7) (t := (0, 0, 0)) hX rfl rfl (c_rightTo l hfl (E := E) (base := base) hR hI (x := x) (z := z)) hH kX6_rightTo qw_665 qw_666 qw_664  rfl [.int (nI 0), .ref (al (20, 0, 0))] rfl hl.1 (Nat.le_of_ble_eq_true rfl) ⟨Nat.le_of_ble_eq_true rfl, Nat.le_of_ble_eq_true rfl⟩ dL_rightTo_5 ⟨Nat.le_of_ble_eq_true rfl, Nat.le_of_ble_eq_true rfl⟩ (fun X ce q9 H locs hp_1 hS hce hcv hcl => ?_) (fun r_2 H locs hp_1 hS => ?_)
  · skip
    obtain ⟨rfl, h1, hH⟩ := hp_1
    · skip
      refine vx_catch C.hown [] ⟨0, 10, 13, 21⟩ [] (het.trans rfl) (fun z hz => by cases hz) (by decide) (by decide) (C.ws _ qw_284) ((C.st.nb nw_299).use rfl) hce hcv hcl ?_
      refine lv_astore (lv' := [(4, .ref q9), (0, .ref (al (0, 0, 0))), (1, .int x), (2, .int z), (3, .ref (al (20, 0, 0)))]) hx hb dL_rightTo_13 hl (by decide) rfl (fun ls hl => ?_)
      refine lv_iconst (v := nI 1) hx hb dL_rightTo_15 (by decide +kernel) ?_
      rw [← hQ]
      refine vx_ret (x_reti C rfl hS (Nat.le_of_ble_eq_true rfl) (Nat.le_of_ble_eq_true rfl) dL_rightTo_16 ?_)
      rw [hpost]
      exact Or.inl ⟨rfl, h1, hH⟩
  · skip
    obtain ⟨p, f, hp, hf, rfl, rfl, rfl, hH⟩ := hp_1
    have hP9 := PO_of hH hR (fun _ _ => rfl)
    obtain ⟨al9, w9, hH, hR9, hf9, h09⟩ := hP9
    have ho9 := (hf9 (20, 0, 0) (by decide)).2
    have hO9 : w9 (20, 0, 0) = _ := (hf9 (20, 0, 0) (by decide)).1.trans hO
    refine lv_i2l hx hb dL_rightTo_8 rfl ?_
    refine lv_adr3 ho9.symm ?_
    refine x_last C hH hS hO9 (j := 0) rfl (by omega) (by omega) dL_rightTo_9 (fun H locs hH hS => ?_)
    have hO9 : (xu w9 (20, 0, 0) (.inl (E.2.1 1, 1, .inr (.inl (vp_updL fo 0 ((rIn (sg 4 p f) (sg 5 p f) (sg 6 p f) (nI nw)).toInt64)))))) (20, 0, 0) = some (.inl (E.2.1 1, 1, .inr (.inl (vp_updL fo 0 ((rIn (sg 4 p f) (sg 5 p f) (sg 6 p f) (nI nw)).toInt64))))) := xu_self _ _ _
    refine lv_goto (tgt := 17) hx hb dL_rightTo_10 (by decide) ?_
    refine lv_iconst (v := nI 0) hx hb dL_rightTo_17 (by decide +kernel) ?_
    rw [← hQ]
    refine vx_ret (x_reti C rfl hS (Nat.le_of_ble_eq_true rfl) (Nat.le_of_ble_eq_true rfl) dL_rightTo_18 ?_)
    rw [hpost]
    exact Or.inr ⟨rfl, p, f, hp, hf, rfl, rfl, pow_of hH hR9 hf9 h09⟩

set_option maxHeartbeats 4000000 in
set_option maxRecDepth 100000 in
theorem l_finds (l : Launch) (hfl : l.stackTraces = false) {E : xE} {base : Nat} {al : Tg → Nat} {w : Tg → Option va_E} {nf np na nw : Nat} {sg : Nat → Nat → Nat → Int32} {rc : Nat → Bool} (hR : RM E al w nf np na nw sg rc) (hI : INV nf np na nw sg rc) {fo : Nat → Int64} (hO : w (20, 0, 0) = some (.inl (E.2.1 1, 1, .inr (.inl fo)))) {x z : Int32} : xMetH l yL_finds cL_finds 5 (some (.int)) [(0, 10, 13, 21)] ({ frames := 8, cells := 2, slots := 12, locals := 128 } : Room) E base [.ref (al (0, 0, 0)), .int x, .int z, .ref (al (20, 0, 0))] (fun H => xH E base al w H) (fun r H => (r = some (.int (nI 1)) ∧ ¬ (inR x np ∧ inR z nf) ∧ xH E base al w H) ∨ (r = some (.int (nI 0)) ∧ ∃ p f, p < np ∧ f < nf ∧ x = nI p ∧ z = nI f ∧ POW E base al w (fBs (fun b => decide (red (KFs sg rc na p b) 16 (nI 1 <<< (nI f &&& 31)) = 0)) 8) nf np na nw sg rc H)) := by
  refine xMetH.of (by decide +kernel) "DataroomLaw" rfl (Nat.le_of_ble_eq_true rfl) ?_
  intro p9 e9 s m9 below meth c9 ls C het hP hS hl
  have hx := C.hx
  have hb := C.hb
  have hH := hP
  have hX := hR.1
  have hl : lv_has ls 5 [(0, .ref (al (0, 0, 0))), (1, .int x), (2, .int z), (3, .ref (al (20, 0, 0)))] := hl
  obtain ⟨post, hpost⟩ : ∃ zz9 : Option Value → Heap → Prop, zz9 = (fun r H => (r = some (.int (nI 1)) ∧ ¬ (inR x np ∧ inR z nf) ∧ xH E base al w H) ∨ (r = some (.int (nI 0)) ∧ ∃ p f, p < np ∧ f < nf ∧ x = nI p ∧ z = nI f ∧ POW E base al w (fBs (fun b => decide (red (KFs sg rc na p b) 16 (nI 1 <<< (nI f &&& 31)) = 0)) 8) nf np na nw sg rc H)) := ⟨_, rfl⟩
  obtain ⟨px, hpx⟩ : ∃ zz9 : String → Heap → Prop, zz9 = (fun _ _ => False) := ⟨_, rfl⟩
  rw [← hpost, ← hpx]
  generalize hQ : (vx_MQ below (xQ base post) (xX base px) ([.ref (al (0, 0, 0)), .int x, .int z, .ref (al (20, 0, 0))] : List Value).toArray s 2 12 (xA base)) = Q
  refine lv_aload_n hx hb dL_finds_0 rfl (lv_at hl 3 rfl) ?_
  refine lv_iconst (v := nI 0) hx hb dL_finds_1 (by decide +kernel) ?_
  refine lv_aload_n hx hb dL_finds_2 rfl (lv_at hl 0 rfl) ?_
  refine lv_iload_n hx hb dL_finds_3 rfl (lv_at hl 1 rfl) ?_
  refine lv_iload_n hx hb dL_finds_4 rfl (lv_at hl 2 rfl) ?_
  refine x_thrV C hH hS (ci := 7) (t := (0, 0, 0)) hX rfl rfl (c_finds l hfl (E := E) (base := base) hR hI (x := x) (z := z)) hH kX6_finds qw_640 qw_641 qw_639  rfl [.int (nI 0), .ref (al (20, 0, 0))] rfl hl.1 (Nat.le_of_ble_eq_true rfl) ⟨Nat.le_of_ble_eq_true rfl, Nat.le_of_ble_eq_true rfl⟩ dL_finds_5 ⟨Nat.le_of_ble_eq_true rfl, Nat.le_of_ble_eq_true rfl⟩ (fun X ce q9 H locs hp_1 hS hce hcv hcl => ?_) (fun r_2 H locs hp_1 hS => ?_)
  · skip
    obtain ⟨rfl, h1, hH⟩ := hp_1
    · skip
      refine vx_catch C.hown [] ⟨0, 10, 13, 21⟩ [] (het.trans rfl) (fun z hz => by cases hz) (by decide) (by decide) (C.ws _ qw_284) ((C.st.nb nw_299).use rfl) hce hcv hcl ?_
      refine lv_astore (lv' := [(4, .ref q9), (0, .ref (al (0, 0, 0))), (1, .int x), (2, .int z), (3, .ref (al (20, 0, 0)))]) hx hb dL_finds_13 hl (by decide) rfl (fun ls hl => ?_)
      refine lv_iconst (v := nI 1) hx hb dL_finds_15 (by decide +kernel) ?_
      rw [← hQ]
      refine vx_ret (x_reti C rfl hS (Nat.le_of_ble_eq_true rfl) (Nat.le_of_ble_eq_true rfl) dL_finds_16 ?_)
      rw [hpost]
      exact Or.inl ⟨rfl, h1, hH⟩
  · skip
    obtain ⟨p, f, hp, hf, rfl, rfl, rfl, hH⟩ := hp_1
    have hP9 := PO_of hH hR (fun _ _ => rfl)
    obtain ⟨al9, w9, hH, hR9, hf9, h09⟩ := hP9
    have ho9 := (hf9 (20, 0, 0) (by decide)).2
    have hO9 : w9 (20, 0, 0) = _ := (hf9 (20, 0, 0) (by decide)).1.trans hO
    refine lv_i2l hx hb dL_finds_8 rfl ?_
    refine lv_adr3 ho9.symm ?_
    refine x_last C hH hS hO9 (j := 0) rfl (by omega) (by omega) dL_finds_9 (fun H locs hH hS => ?_)
    have hO9 : (xu w9 (20, 0, 0) (.inl (E.2.1 1, 1, .inr (.inl (vp_updL fo 0 ((fBs (fun b => decide (red (KFs sg rc na p b) 16 (nI 1 <<< (nI f &&& 31)) = 0)) 8).toInt64)))))) (20, 0, 0) = some (.inl (E.2.1 1, 1, .inr (.inl (vp_updL fo 0 ((fBs (fun b => decide (red (KFs sg rc na p b) 16 (nI 1 <<< (nI f &&& 31)) = 0)) 8).toInt64))))) := xu_self _ _ _
    refine lv_goto (tgt := 17) hx hb dL_finds_10 (by decide) ?_
    refine lv_iconst (v := nI 0) hx hb dL_finds_17 (by decide +kernel) ?_
    rw [← hQ]
    refine vx_ret (x_reti C rfl hS (Nat.le_of_ble_eq_true rfl) (Nat.le_of_ble_eq_true rfl) dL_finds_18 ?_)
    rw [hpost]
    exact Or.inr ⟨rfl, p, f, hp, hf, rfl, rfl, pow_of hH hR9 hf9 h09⟩

set_option maxHeartbeats 4000000 in
set_option maxRecDepth 100000 in
theorem l_spent (l : Launch) (hfl : l.stackTraces = false) {E : xE} {base : Nat} {al : Tg → Nat} {w : Tg → Option va_E} {nf np na nw : Nat} {sg : Nat → Nat → Nat → Int32} {rc : Nat → Bool} (hR : RM E al w nf np na nw sg rc) (hI : INV nf np na nw sg rc) {fo : Nat → Int64} (hO : w (20, 0, 0) = some (.inl (E.2.1 1, 1, .inr (.inl fo)))) {x : Int32} : xMetH l yL_spent cL_spent 4 (some (.int)) [(0, 9, 12, 21)] ({ frames := 8, cells := 1, slots := 6, locals := 124 } : Room) E base [.ref (al (0, 0, 0)), .int x, .ref (al (20, 0, 0))] (fun H => xH E base al w H) (fun r H => (r = some (.int (nI 1)) ∧ ¬ inR x np ∧ xH E base al w H) ∨ (r = some (.int (nI 0)) ∧ ∃ p, p < np ∧ x = nI p ∧ POW E base al w (nI (sC (KCs sg rc na p) 8)) nf np na nw sg rc H)) := by
  refine xMetH.of (by decide +kernel) "DataroomLaw" rfl (Nat.le_of_ble_eq_true rfl) ?_
  intro p9 e9 s m9 below meth c9 ls C het hP hS hl
  have hx := C.hx
  have hb := C.hb
  have hH := hP
  have hX := hR.1
  have hl : lv_has ls 4 [(0, .ref (al (0, 0, 0))), (1, .int x), (2, .ref (al (20, 0, 0)))] := hl
  obtain ⟨post, hpost⟩ : ∃ zz9 : Option Value → Heap → Prop, zz9 = (fun r H => (r = some (.int (nI 1)) ∧ ¬ inR x np ∧ xH E base al w H) ∨ (r = some (.int (nI 0)) ∧ ∃ p, p < np ∧ x = nI p ∧ POW E base al w (nI (sC (KCs sg rc na p) 8)) nf np na nw sg rc H)) := ⟨_, rfl⟩
  obtain ⟨px, hpx⟩ : ∃ zz9 : String → Heap → Prop, zz9 = (fun _ _ => False) := ⟨_, rfl⟩
  rw [← hpost, ← hpx]
  generalize hQ : (vx_MQ below (xQ base post) (xX base px) ([.ref (al (0, 0, 0)), .int x, .ref (al (20, 0, 0))] : List Value).toArray s 1 6 (xA base)) = Q
  refine lv_aload_n hx hb dL_spent_0 rfl (lv_at hl 2 rfl) ?_
  refine lv_iconst (v := nI 0) hx hb dL_spent_1 (by decide +kernel) ?_
  refine lv_aload_n hx hb dL_spent_2 rfl (lv_at hl 0 rfl) ?_
  refine lv_iload_n hx hb dL_spent_3 rfl (lv_at hl 1 rfl) ?_
  refine x_thrV C hH hS (ci := 7) (t := (0, 0, 0)) hX rfl rfl (c_spent l hfl (E := E) (base := base) hR hI (x := x)) hH kX6_spent qw_588 qw_589 qw_587  rfl [.int (nI 0), .ref (al (20, 0, 0))] rfl hl.1 (Nat.le_of_ble_eq_true rfl) ⟨Nat.le_of_ble_eq_true rfl, Nat.le_of_ble_eq_true rfl⟩ dL_spent_4 ⟨Nat.le_of_ble_eq_true rfl, Nat.le_of_ble_eq_true rfl⟩ (fun X ce q9 H locs hp_1 hS hce hcv hcl => ?_) (fun r_2 H locs hp_1 hS => ?_)
  · skip
    obtain ⟨rfl, h1, hH⟩ := hp_1
    · skip
      refine vx_catch C.hown [] ⟨0, 9, 12, 21⟩ [] (het.trans rfl) (fun z hz => by cases hz) (by decide) (by decide) (C.ws _ qw_284) ((C.st.nb nw_299).use rfl) hce hcv hcl ?_
      refine lv_astore_n (lv' := [(3, .ref q9), (0, .ref (al (0, 0, 0))), (1, .int x), (2, .ref (al (20, 0, 0)))]) hx hb dL_spent_12 rfl hl (by decide) rfl (fun ls hl => ?_)
      refine lv_iconst (v := nI 1) hx hb dL_spent_13 (by decide +kernel) ?_
      rw [← hQ]
      refine vx_ret (x_reti C rfl hS (Nat.le_of_ble_eq_true rfl) (Nat.le_of_ble_eq_true rfl) dL_spent_14 ?_)
      rw [hpost]
      exact Or.inl ⟨rfl, h1, hH⟩
  · skip
    obtain ⟨p, hp, rfl, rfl, hH⟩ := hp_1
    have hP9 := PO_of hH hR (fun _ _ => rfl)
    obtain ⟨al9, w9, hH, hR9, hf9, h09⟩ := hP9
    have ho9 := (hf9 (20, 0, 0) (by decide)).2
    have hO9 : w9 (20, 0, 0) = _ := (hf9 (20, 0, 0) (by decide)).1.trans hO
    refine lv_i2l hx hb dL_spent_7 rfl ?_
    refine lv_adr3 ho9.symm ?_
    refine x_last C hH hS hO9 (j := 0) rfl (by omega) (by omega) dL_spent_8 (fun H locs hH hS => ?_)
    have hO9 : (xu w9 (20, 0, 0) (.inl (E.2.1 1, 1, .inr (.inl (vp_updL fo 0 ((nI (sC (KCs sg rc na p) 8)).toInt64)))))) (20, 0, 0) = some (.inl (E.2.1 1, 1, .inr (.inl (vp_updL fo 0 ((nI (sC (KCs sg rc na p) 8)).toInt64))))) := xu_self _ _ _
    refine lv_goto (tgt := 15) hx hb dL_spent_9 (by decide) ?_
    refine lv_iconst (v := nI 0) hx hb dL_spent_15 (by decide +kernel) ?_
    rw [← hQ]
    refine vx_ret (x_reti C rfl hS (Nat.le_of_ble_eq_true rfl) (Nat.le_of_ble_eq_true rfl) dL_spent_16 ?_)
    rw [hpost]
    exact Or.inr ⟨rfl, p, hp, rfl, pow_of hH hR9 hf9 h09⟩

set_option maxHeartbeats 4000000 in
set_option maxRecDepth 100000 in
theorem l_spentAnew (l : Launch) (hfl : l.stackTraces = false) {E : xE} {base : Nat} {al : Tg → Nat} {w : Tg → Option va_E} {nf np na nw : Nat} {sg : Nat → Nat → Nat → Int32} {rc : Nat → Bool} (hR : RM E al w nf np na nw sg rc) (hI : INV nf np na nw sg rc) {fo : Nat → Int64} (hO : w (20, 0, 0) = some (.inl (E.2.1 1, 1, .inr (.inl fo)))) {x : Int32} : xMetH l yL_spentAnew cL_spentAnew 4 (some (.int)) [(0, 9, 12, 21)] ({ frames := 8, cells := 1, slots := 6, locals := 127 } : Room) E base [.ref (al (0, 0, 0)), .int x, .ref (al (20, 0, 0))] (fun H => xH E base al w H) (fun r H => (r = some (.int (nI 1)) ∧ ¬ inR x np ∧ xH E base al w H) ∨ (r = some (.int (nI 0)) ∧ ∃ p, p < np ∧ x = nI p ∧ POW E base al w (nI (sC (KCs sg rc na p) 8)) nf np na nw sg rc H)) := by
  refine xMetH.of (by decide +kernel) "DataroomLaw" rfl (Nat.le_of_ble_eq_true rfl) ?_
  intro p9 e9 s m9 below meth c9 ls C het hP hS hl
  have hx := C.hx
  have hb := C.hb
  have hH := hP
  have hX := hR.1
  have hl : lv_has ls 4 [(0, .ref (al (0, 0, 0))), (1, .int x), (2, .ref (al (20, 0, 0)))] := hl
  obtain ⟨post, hpost⟩ : ∃ zz9 : Option Value → Heap → Prop, zz9 = (fun r H => (r = some (.int (nI 1)) ∧ ¬ inR x np ∧ xH E base al w H) ∨ (r = some (.int (nI 0)) ∧ ∃ p, p < np ∧ x = nI p ∧ POW E base al w (nI (sC (KCs sg rc na p) 8)) nf np na nw sg rc H)) := ⟨_, rfl⟩
  obtain ⟨px, hpx⟩ : ∃ zz9 : String → Heap → Prop, zz9 = (fun _ _ => False) := ⟨_, rfl⟩
  rw [← hpost, ← hpx]
  generalize hQ : (vx_MQ below (xQ base post) (xX base px) ([.ref (al (0, 0, 0)), .int x, .ref (al (20, 0, 0))] : List Value).toArray s 1 6 (xA base)) = Q
  refine lv_aload_n hx hb dL_spentAnew_0 rfl (lv_at hl 2 rfl) ?_
  refine lv_iconst (v := nI 0) hx hb dL_spentAnew_1 (by decide +kernel) ?_
  refine lv_aload_n hx hb dL_spentAnew_2 rfl (lv_at hl 0 rfl) ?_
  refine lv_iload_n hx hb dL_spentAnew_3 rfl (lv_at hl 1 rfl) ?_
  refine x_thrV C hH hS (ci := 7) (t := (0, 0, 0)) hX rfl rfl (c_spentAnew l hfl (E := E) (base := base) hR hI (x := x)) hH kX6_spentAnew qw_595 qw_596 qw_594  rfl [.int (nI 0), .ref (al (20, 0, 0))] rfl hl.1 (Nat.le_of_ble_eq_true rfl) ⟨Nat.le_of_ble_eq_true rfl, Nat.le_of_ble_eq_true rfl⟩ dL_spentAnew_4 ⟨Nat.le_of_ble_eq_true rfl, Nat.le_of_ble_eq_true rfl⟩ (fun X ce q9 H locs hp_1 hS hce hcv hcl => ?_) (fun r_2 H locs hp_1 hS => ?_)
  · skip
    obtain ⟨rfl, h1, hH⟩ := hp_1
    · skip
      refine vx_catch C.hown [] ⟨0, 9, 12, 21⟩ [] (het.trans rfl) (fun z hz => by cases hz) (by decide) (by decide) (C.ws _ qw_284) ((C.st.nb nw_299).use rfl) hce hcv hcl ?_
      refine lv_astore_n (lv' := [(3, .ref q9), (0, .ref (al (0, 0, 0))), (1, .int x), (2, .ref (al (20, 0, 0)))]) hx hb dL_spentAnew_12 rfl hl (by decide) rfl (fun ls hl => ?_)
      refine lv_iconst (v := nI 1) hx hb dL_spentAnew_13 (by decide +kernel) ?_
      rw [← hQ]
      refine vx_ret (x_reti C rfl hS (Nat.le_of_ble_eq_true rfl) (Nat.le_of_ble_eq_true rfl) dL_spentAnew_14 ?_)
      rw [hpost]
      exact Or.inl ⟨rfl, h1, hH⟩
  · skip
    obtain ⟨p, hp, rfl, rfl, f8, m8, hH⟩ := hp_1
    have hP9 := PO_of hH (RM_mk hR f8 m8) (fun t ht => mkw_o (fun e => by rw [e] at ht; revert ht; simp) (fun e => by rw [e] at ht; revert ht; simp))
    obtain ⟨al9, w9, hH, hR9, hf9, h09⟩ := hP9
    have ho9 := (hf9 (20, 0, 0) (by decide)).2
    have hO9 : w9 (20, 0, 0) = _ := (hf9 (20, 0, 0) (by decide)).1.trans hO
    refine lv_i2l hx hb dL_spentAnew_7 rfl ?_
    refine lv_adr3 ho9.symm ?_
    refine x_last C hH hS hO9 (j := 0) rfl (by omega) (by omega) dL_spentAnew_8 (fun H locs hH hS => ?_)
    have hO9 : (xu w9 (20, 0, 0) (.inl (E.2.1 1, 1, .inr (.inl (vp_updL fo 0 ((nI (sC (KCs sg rc na p) 8)).toInt64)))))) (20, 0, 0) = some (.inl (E.2.1 1, 1, .inr (.inl (vp_updL fo 0 ((nI (sC (KCs sg rc na p) 8)).toInt64))))) := xu_self _ _ _
    refine lv_goto (tgt := 15) hx hb dL_spentAnew_9 (by decide) ?_
    refine lv_iconst (v := nI 0) hx hb dL_spentAnew_15 (by decide +kernel) ?_
    rw [← hQ]
    refine vx_ret (x_reti C rfl hS (Nat.le_of_ble_eq_true rfl) (Nat.le_of_ble_eq_true rfl) dL_spentAnew_16 ?_)
    rw [hpost]
    exact Or.inr ⟨rfl, p, hp, rfl, pow_of hH hR9 hf9 h09⟩

set_option maxHeartbeats 4000000 in
set_option maxRecDepth 100000 in
theorem l_cost (l : Launch) (hfl : l.stackTraces = false) {E : xE} {base : Nat} {al : Tg → Nat} {w : Tg → Option va_E} {nf np na nw : Nat} {sg : Nat → Nat → Nat → Int32} {rc : Nat → Bool} (hR : RM E al w nf np na nw sg rc) (hI : INV nf np na nw sg rc) {fo : Nat → Int64} (hO : w (20, 0, 0) = some (.inl (E.2.1 1, 1, .inr (.inl fo)))) {x z bit : Int32} : xMetH l yL_cost cL_cost 6 (some (.int)) [(0, 12, 15, 21), (0, 12, 19, 13)] ({ frames := 9, cells := 3, slots := 18, locals := 150 } : Room) E base [.ref (al (0, 0, 0)), .int x, .int z, .int bit, .ref (al (20, 0, 0))] (fun H => xH E base al w H) (fun r H => (r = some (.int (nI 1)) ∧ ¬ inR x np ∧ xH E base al w H) ∨ (r = some (.int (nI 2)) ∧ inR x np ∧ ¬ Qok nf z bit ∧ xH E base al w H) ∨ (r = some (.int (nI 0)) ∧ ∃ p, p < np ∧ x = nI p ∧ Qok nf z bit ∧ POW E base al w (nI (cC (KFs sg rc na p) bit z 8)) nf np na nw sg rc H)) := by
  refine xMetH.of (by decide +kernel) "DataroomLaw" rfl (Nat.le_of_ble_eq_true rfl) ?_
  intro p9 e9 s m9 below meth c9 ls C het hP hS hl
  have hx := C.hx
  have hb := C.hb
  have hH := hP
  have hX := hR.1
  have hl : lv_has ls 6 [(0, .ref (al (0, 0, 0))), (1, .int x), (2, .int z), (3, .int bit), (4, .ref (al (20, 0, 0)))] := hl
  obtain ⟨post, hpost⟩ : ∃ zz9 : Option Value → Heap → Prop, zz9 = (fun r H => (r = some (.int (nI 1)) ∧ ¬ inR x np ∧ xH E base al w H) ∨ (r = some (.int (nI 2)) ∧ inR x np ∧ ¬ Qok nf z bit ∧ xH E base al w H) ∨ (r = some (.int (nI 0)) ∧ ∃ p, p < np ∧ x = nI p ∧ Qok nf z bit ∧ POW E base al w (nI (cC (KFs sg rc na p) bit z 8)) nf np na nw sg rc H)) := ⟨_, rfl⟩
  obtain ⟨px, hpx⟩ : ∃ zz9 : String → Heap → Prop, zz9 = (fun _ _ => False) := ⟨_, rfl⟩
  rw [← hpost, ← hpx]
  generalize hQ : (vx_MQ below (xQ base post) (xX base px) ([.ref (al (0, 0, 0)), .int x, .int z, .int bit, .ref (al (20, 0, 0))] : List Value).toArray s 3 18 (xA base)) = Q
  refine lv_aload hx hb dL_cost_0 (lv_at hl 4 rfl) ?_
  refine lv_iconst (v := nI 0) hx hb dL_cost_2 (by decide +kernel) ?_
  refine lv_aload_n hx hb dL_cost_3 rfl (lv_at hl 0 rfl) ?_
  refine lv_iload_n hx hb dL_cost_4 rfl (lv_at hl 1 rfl) ?_
  refine lv_iload_n hx hb dL_cost_5 rfl (lv_at hl 2 rfl) ?_
  refine lv_iload_n hx hb dL_cost_6 rfl (lv_at hl 3 rfl) ?_
  refine x_thrV C hH hS (ci := 7) (t := (0, 0, 0)) hX rfl rfl (c_cost l hfl (E := E) (base := base) hR hI (x := x) (z := z) (bit := bit)) hH kX6_cost qw_569 qw_570 qw_568  rfl [.int (nI 0), .ref (al (20, 0, 0))] rfl hl.1 (Nat.le_of_ble_eq_true rfl) ⟨Nat.le_of_ble_eq_true rfl, Nat.le_of_ble_eq_true rfl⟩ dL_cost_7 ⟨Nat.le_of_ble_eq_true rfl, Nat.le_of_ble_eq_true rfl⟩ (fun X ce q9 H locs hp_1 hS hce hcv hcl => ?_) (fun r_2 H locs hp_1 hS => ?_)
  · skip
    obtain ⟨hcs, hH⟩ := hp_1
    rcases hcs with ⟨rfl, h1⟩ | ⟨rfl, h1, h2⟩
    · skip
      refine vx_catch C.hown [] ⟨0, 12, 15, 21⟩ [⟨0, 12, 19, 13⟩] (het.trans rfl) (fun z hz => by cases hz) (by decide) (by decide) (C.ws _ qw_284) ((C.st.nb nw_299).use rfl) hce hcv hcl ?_
      refine lv_astore (lv' := [(5, .ref q9), (0, .ref (al (0, 0, 0))), (1, .int x), (2, .int z), (3, .int bit), (4, .ref (al (20, 0, 0)))]) hx hb dL_cost_15 hl (by decide) rfl (fun ls hl => ?_)
      refine lv_iconst (v := nI 1) hx hb dL_cost_17 (by decide +kernel) ?_
      rw [← hQ]
      refine vx_ret (x_reti C rfl hS (Nat.le_of_ble_eq_true rfl) (Nat.le_of_ble_eq_true rfl) dL_cost_18 ?_)
      rw [hpost]
      exact Or.inl ⟨rfl, h1, hH⟩
    · skip
      refine vx_catch C.hown [⟨0, 12, 15, 21⟩] ⟨0, 12, 19, 13⟩ [] (het.trans rfl) (List.forall_mem_cons.mpr ⟨Or.inr ⟨by decide, _, C.ws _ qw_284, C.st.2.2.2.1 _ (List.mem_of_getElem? (i := 0) rfl)⟩, fun _ h => by cases h⟩) (by decide) (by decide) (C.ws _ qw_110) ((C.st.nb nw_121).use rfl) hce hcv hcl ?_
      refine lv_astore (lv' := [(5, .ref q9), (0, .ref (al (0, 0, 0))), (1, .int x), (2, .int z), (3, .int bit), (4, .ref (al (20, 0, 0)))]) hx hb dL_cost_19 hl (by decide) rfl (fun ls hl => ?_)
      refine lv_iconst (v := nI 2) hx hb dL_cost_21 (by decide +kernel) ?_
      rw [← hQ]
      refine vx_ret (x_reti C rfl hS (Nat.le_of_ble_eq_true rfl) (Nat.le_of_ble_eq_true rfl) dL_cost_22 ?_)
      rw [hpost]
      exact Or.inr (Or.inl ⟨rfl, h1, h2, hH⟩)
  · skip
    obtain ⟨p, hp, rfl, h1, rfl, hH⟩ := hp_1
    have hP9 := PO_of hH hR (fun _ _ => rfl)
    obtain ⟨al9, w9, hH, hR9, hf9, h09⟩ := hP9
    have ho9 := (hf9 (20, 0, 0) (by decide)).2
    have hO9 : w9 (20, 0, 0) = _ := (hf9 (20, 0, 0) (by decide)).1.trans hO
    refine lv_i2l hx hb dL_cost_10 rfl ?_
    refine lv_adr3 ho9.symm ?_
    refine x_last C hH hS hO9 (j := 0) rfl (by omega) (by omega) dL_cost_11 (fun H locs hH hS => ?_)
    have hO9 : (xu w9 (20, 0, 0) (.inl (E.2.1 1, 1, .inr (.inl (vp_updL fo 0 ((nI (cC (KFs sg rc na p) bit z 8)).toInt64)))))) (20, 0, 0) = some (.inl (E.2.1 1, 1, .inr (.inl (vp_updL fo 0 ((nI (cC (KFs sg rc na p) bit z 8)).toInt64))))) := xu_self _ _ _
    refine lv_goto (tgt := 23) hx hb dL_cost_12 (by decide) ?_
    refine lv_iconst (v := nI 0) hx hb dL_cost_23 (by decide +kernel) ?_
    rw [← hQ]
    refine vx_ret (x_reti C rfl hS (Nat.le_of_ble_eq_true rfl) (Nat.le_of_ble_eq_true rfl) dL_cost_24 ?_)
    rw [hpost]
    exact Or.inr (Or.inr ⟨rfl, p, hp, rfl, h1, pow_of hH hR9 hf9 h09⟩)

set_option maxHeartbeats 4000000 in
set_option maxRecDepth 100000 in
theorem l_answer (l : Launch) (hfl : l.stackTraces = false) {E : xE} {base : Nat} {al : Tg → Nat} {w : Tg → Option va_E} {nf np na nw : Nat} {sg : Nat → Nat → Nat → Int32} {rc : Nat → Bool} (hR : RM E al w nf np na nw sg rc) (hI : INV nf np na nw sg rc) {fo : Nat → Int64} (hO : w (20, 0, 0) = some (.inl (E.2.1 1, 1, .inr (.inl fo)))) {x z : Int32} : xMetH l yL_answer cL_answer 5 (some (.int)) [(0, 10, 13, 21), (0, 10, 17, 13)] ({ frames := 8, cells := 1, slots := 6, locals := 126 } : Room) E base [.ref (al (0, 0, 0)), .int x, .int z, .ref (al (20, 0, 0))] (fun H => xH E base al w H) (fun r H => (r = some (.int (nI 1)) ∧ ¬ inR x na ∧ xH E base al w H) ∨ (r = some (.int (nI 2)) ∧ inR x na ∧ ¬ (nI 0 ≤ z ∧ z ≤ nI 5) ∧ xH E base al w H) ∨ (r = some (.int (nI 0)) ∧ ∃ a k, a < na ∧ k ≤ 5 ∧ x = nI a ∧ z = nI k ∧ POW E base al w (tlv (sg 7 a 0) (sg 8 a 0) (sg 9 a 0) (sg 10 a 0) (sg 11 a 0) (ob (rc a)) k) nf np na nw sg rc H)) := by
  refine xMetH.of (by decide +kernel) "DataroomLaw" rfl (Nat.le_of_ble_eq_true rfl) ?_
  intro p9 e9 s m9 below meth c9 ls C het hP hS hl
  have hx := C.hx
  have hb := C.hb
  have hH := hP
  have hX := hR.1
  have hl : lv_has ls 5 [(0, .ref (al (0, 0, 0))), (1, .int x), (2, .int z), (3, .ref (al (20, 0, 0)))] := hl
  obtain ⟨post, hpost⟩ : ∃ zz9 : Option Value → Heap → Prop, zz9 = (fun r H => (r = some (.int (nI 1)) ∧ ¬ inR x na ∧ xH E base al w H) ∨ (r = some (.int (nI 2)) ∧ inR x na ∧ ¬ (nI 0 ≤ z ∧ z ≤ nI 5) ∧ xH E base al w H) ∨ (r = some (.int (nI 0)) ∧ ∃ a k, a < na ∧ k ≤ 5 ∧ x = nI a ∧ z = nI k ∧ POW E base al w (tlv (sg 7 a 0) (sg 8 a 0) (sg 9 a 0) (sg 10 a 0) (sg 11 a 0) (ob (rc a)) k) nf np na nw sg rc H)) := ⟨_, rfl⟩
  obtain ⟨px, hpx⟩ : ∃ zz9 : String → Heap → Prop, zz9 = (fun _ _ => False) := ⟨_, rfl⟩
  rw [← hpost, ← hpx]
  generalize hQ : (vx_MQ below (xQ base post) (xX base px) ([.ref (al (0, 0, 0)), .int x, .int z, .ref (al (20, 0, 0))] : List Value).toArray s 1 6 (xA base)) = Q
  refine lv_aload_n hx hb dL_answer_0 rfl (lv_at hl 3 rfl) ?_
  refine lv_iconst (v := nI 0) hx hb dL_answer_1 (by decide +kernel) ?_
  refine lv_aload_n hx hb dL_answer_2 rfl (lv_at hl 0 rfl) ?_
  refine lv_iload_n hx hb dL_answer_3 rfl (lv_at hl 1 rfl) ?_
  refine lv_iload_n hx hb dL_answer_4 rfl (lv_at hl 2 rfl) ?_
  refine x_thrV C hH hS (ci := 7) (t := (0, 0, 0)) hX rfl rfl (c_answer l hfl (E := E) (base := base) hR hI (x := x) (z := z)) hH kX6_answer qw_576 qw_577 qw_575  rfl [.int (nI 0), .ref (al (20, 0, 0))] rfl hl.1 (Nat.le_of_ble_eq_true rfl) ⟨Nat.le_of_ble_eq_true rfl, Nat.le_of_ble_eq_true rfl⟩ dL_answer_5 ⟨Nat.le_of_ble_eq_true rfl, Nat.le_of_ble_eq_true rfl⟩ (fun X ce q9 H locs hp_1 hS hce hcv hcl => ?_) (fun r_2 H locs hp_1 hS => ?_)
  · skip
    obtain ⟨hcs, hH⟩ := hp_1
    rcases hcs with ⟨rfl, h1⟩ | ⟨rfl, h1, h2⟩
    · skip
      refine vx_catch C.hown [] ⟨0, 10, 13, 21⟩ [⟨0, 10, 17, 13⟩] (het.trans rfl) (fun z hz => by cases hz) (by decide) (by decide) (C.ws _ qw_284) ((C.st.nb nw_299).use rfl) hce hcv hcl ?_
      refine lv_astore (lv' := [(4, .ref q9), (0, .ref (al (0, 0, 0))), (1, .int x), (2, .int z), (3, .ref (al (20, 0, 0)))]) hx hb dL_answer_13 hl (by decide) rfl (fun ls hl => ?_)
      refine lv_iconst (v := nI 1) hx hb dL_answer_15 (by decide +kernel) ?_
      rw [← hQ]
      refine vx_ret (x_reti C rfl hS (Nat.le_of_ble_eq_true rfl) (Nat.le_of_ble_eq_true rfl) dL_answer_16 ?_)
      rw [hpost]
      exact Or.inl ⟨rfl, h1, hH⟩
    · skip
      refine vx_catch C.hown [⟨0, 10, 13, 21⟩] ⟨0, 10, 17, 13⟩ [] (het.trans rfl) (List.forall_mem_cons.mpr ⟨Or.inr ⟨by decide, _, C.ws _ qw_284, C.st.2.2.2.1 _ (List.mem_of_getElem? (i := 0) rfl)⟩, fun _ h => by cases h⟩) (by decide) (by decide) (C.ws _ qw_110) ((C.st.nb nw_121).use rfl) hce hcv hcl ?_
      refine lv_astore (lv' := [(4, .ref q9), (0, .ref (al (0, 0, 0))), (1, .int x), (2, .int z), (3, .ref (al (20, 0, 0)))]) hx hb dL_answer_17 hl (by decide) rfl (fun ls hl => ?_)
      refine lv_iconst (v := nI 2) hx hb dL_answer_19 (by decide +kernel) ?_
      rw [← hQ]
      refine vx_ret (x_reti C rfl hS (Nat.le_of_ble_eq_true rfl) (Nat.le_of_ble_eq_true rfl) dL_answer_20 ?_)
      rw [hpost]
      exact Or.inr (Or.inl ⟨rfl, h1, h2, hH⟩)
  · skip
    obtain ⟨a, k, ha, hk, rfl, rfl, rfl, hH⟩ := hp_1
    have hP9 := PO_of hH hR (fun _ _ => rfl)
    obtain ⟨al9, w9, hH, hR9, hf9, h09⟩ := hP9
    have ho9 := (hf9 (20, 0, 0) (by decide)).2
    have hO9 : w9 (20, 0, 0) = _ := (hf9 (20, 0, 0) (by decide)).1.trans hO
    refine lv_i2l hx hb dL_answer_8 rfl ?_
    refine lv_adr3 ho9.symm ?_
    refine x_last C hH hS hO9 (j := 0) rfl (by omega) (by omega) dL_answer_9 (fun H locs hH hS => ?_)
    have hO9 : (xu w9 (20, 0, 0) (.inl (E.2.1 1, 1, .inr (.inl (vp_updL fo 0 ((tlv (sg 7 a 0) (sg 8 a 0) (sg 9 a 0) (sg 10 a 0) (sg 11 a 0) (ob (rc a)) k).toInt64)))))) (20, 0, 0) = some (.inl (E.2.1 1, 1, .inr (.inl (vp_updL fo 0 ((tlv (sg 7 a 0) (sg 8 a 0) (sg 9 a 0) (sg 10 a 0) (sg 11 a 0) (ob (rc a)) k).toInt64))))) := xu_self _ _ _
    refine lv_goto (tgt := 21) hx hb dL_answer_10 (by decide) ?_
    refine lv_iconst (v := nI 0) hx hb dL_answer_21 (by decide +kernel) ?_
    rw [← hQ]
    refine vx_ret (x_reti C rfl hS (Nat.le_of_ble_eq_true rfl) (Nat.le_of_ble_eq_true rfl) dL_answer_22 ?_)
    rw [hpost]
    exact Or.inr (Or.inr ⟨rfl, a, k, ha, hk, rfl, rfl, pow_of hH hR9 hf9 h09⟩)

set_option maxHeartbeats 4000000 in
set_option maxRecDepth 100000 in
theorem l_count (l : Launch) (hfl : l.stackTraces = false) {E : xE} {base : Nat} {al : Tg → Nat} {w : Tg → Option va_E} {nf np na nw : Nat} {sg : Nat → Nat → Nat → Int32} {rc : Nat → Bool} (hR : RM E al w nf np na nw sg rc) (hI : INV nf np na nw sg rc) {fo : Nat → Int64} (hO : w (20, 0, 0) = some (.inl (E.2.1 1, 1, .inr (.inl fo)))) {x z : Int32} : xMetH l yL_count cL_count 5 (some (.int)) [(0, 10, 13, 21), (0, 10, 17, 13)] ({ frames := 8, cells := 2, slots := 12, locals := 127 } : Room) E base [.ref (al (0, 0, 0)), .int x, .int z, .ref (al (20, 0, 0))] (fun H => xH E base al w H) (fun r H => (r = some (.int (nI 1)) ∧ ¬ inR x np ∧ xH E base al w H) ∨ (r = some (.int (nI 2)) ∧ inR x np ∧ ¬ (nI 0 ≤ z ∧ z ≤ nI 5) ∧ xH E base al w H) ∨ (r = some (.int (nI 0)) ∧ ∃ p k, p < np ∧ k ≤ 5 ∧ x = nI p ∧ z = nI k ∧ POW E base al w (if k = 5 then nI (cSt sg rc p na) else sg 13 p k) nf np na nw sg rc H)) := by
  refine xMetH.of (by decide +kernel) "DataroomLaw" rfl (Nat.le_of_ble_eq_true rfl) ?_
  intro p9 e9 s m9 below meth c9 ls C het hP hS hl
  have hx := C.hx
  have hb := C.hb
  have hH := hP
  have hX := hR.1
  have hl : lv_has ls 5 [(0, .ref (al (0, 0, 0))), (1, .int x), (2, .int z), (3, .ref (al (20, 0, 0)))] := hl
  obtain ⟨post, hpost⟩ : ∃ zz9 : Option Value → Heap → Prop, zz9 = (fun r H => (r = some (.int (nI 1)) ∧ ¬ inR x np ∧ xH E base al w H) ∨ (r = some (.int (nI 2)) ∧ inR x np ∧ ¬ (nI 0 ≤ z ∧ z ≤ nI 5) ∧ xH E base al w H) ∨ (r = some (.int (nI 0)) ∧ ∃ p k, p < np ∧ k ≤ 5 ∧ x = nI p ∧ z = nI k ∧ POW E base al w (if k = 5 then nI (cSt sg rc p na) else sg 13 p k) nf np na nw sg rc H)) := ⟨_, rfl⟩
  obtain ⟨px, hpx⟩ : ∃ zz9 : String → Heap → Prop, zz9 = (fun _ _ => False) := ⟨_, rfl⟩
  rw [← hpost, ← hpx]
  generalize hQ : (vx_MQ below (xQ base post) (xX base px) ([.ref (al (0, 0, 0)), .int x, .int z, .ref (al (20, 0, 0))] : List Value).toArray s 2 12 (xA base)) = Q
  refine lv_aload_n hx hb dL_count_0 rfl (lv_at hl 3 rfl) ?_
  refine lv_iconst (v := nI 0) hx hb dL_count_1 (by decide +kernel) ?_
  refine lv_aload_n hx hb dL_count_2 rfl (lv_at hl 0 rfl) ?_
  refine lv_iload_n hx hb dL_count_3 rfl (lv_at hl 1 rfl) ?_
  refine lv_iload_n hx hb dL_count_4 rfl (lv_at hl 2 rfl) ?_
  refine x_thrV C hH hS (ci := 7) (t := (0, 0, 0)) hX rfl rfl (c_count l hfl (E := E) (base := base) hR hI (x := x) (z := z)) hH kX6_count qw_679 qw_680 qw_678  rfl [.int (nI 0), .ref (al (20, 0, 0))] rfl hl.1 (Nat.le_of_ble_eq_true rfl) ⟨Nat.le_of_ble_eq_true rfl, Nat.le_of_ble_eq_true rfl⟩ dL_count_5 ⟨Nat.le_of_ble_eq_true rfl, Nat.le_of_ble_eq_true rfl⟩ (fun X ce q9 H locs hp_1 hS hce hcv hcl => ?_) (fun r_2 H locs hp_1 hS => ?_)
  · skip
    obtain ⟨hcs, hH⟩ := hp_1
    rcases hcs with ⟨rfl, h1⟩ | ⟨rfl, h1, h2⟩
    · skip
      refine vx_catch C.hown [] ⟨0, 10, 13, 21⟩ [⟨0, 10, 17, 13⟩] (het.trans rfl) (fun z hz => by cases hz) (by decide) (by decide) (C.ws _ qw_284) ((C.st.nb nw_299).use rfl) hce hcv hcl ?_
      refine lv_astore (lv' := [(4, .ref q9), (0, .ref (al (0, 0, 0))), (1, .int x), (2, .int z), (3, .ref (al (20, 0, 0)))]) hx hb dL_count_13 hl (by decide) rfl (fun ls hl => ?_)
      refine lv_iconst (v := nI 1) hx hb dL_count_15 (by decide +kernel) ?_
      rw [← hQ]
      refine vx_ret (x_reti C rfl hS (Nat.le_of_ble_eq_true rfl) (Nat.le_of_ble_eq_true rfl) dL_count_16 ?_)
      rw [hpost]
      exact Or.inl ⟨rfl, h1, hH⟩
    · skip
      refine vx_catch C.hown [⟨0, 10, 13, 21⟩] ⟨0, 10, 17, 13⟩ [] (het.trans rfl) (List.forall_mem_cons.mpr ⟨Or.inr ⟨by decide, _, C.ws _ qw_284, C.st.2.2.2.1 _ (List.mem_of_getElem? (i := 0) rfl)⟩, fun _ h => by cases h⟩) (by decide) (by decide) (C.ws _ qw_110) ((C.st.nb nw_121).use rfl) hce hcv hcl ?_
      refine lv_astore (lv' := [(4, .ref q9), (0, .ref (al (0, 0, 0))), (1, .int x), (2, .int z), (3, .ref (al (20, 0, 0)))]) hx hb dL_count_17 hl (by decide) rfl (fun ls hl => ?_)
      refine lv_iconst (v := nI 2) hx hb dL_count_19 (by decide +kernel) ?_
      rw [← hQ]
      refine vx_ret (x_reti C rfl hS (Nat.le_of_ble_eq_true rfl) (Nat.le_of_ble_eq_true rfl) dL_count_20 ?_)
      rw [hpost]
      exact Or.inr (Or.inl ⟨rfl, h1, h2, hH⟩)
  · skip
    obtain ⟨p, k, hp, hk, rfl, rfl, rfl, hH⟩ := hp_1
    have hP9 := PO_of hH hR (fun _ _ => rfl)
    obtain ⟨al9, w9, hH, hR9, hf9, h09⟩ := hP9
    have ho9 := (hf9 (20, 0, 0) (by decide)).2
    have hO9 : w9 (20, 0, 0) = _ := (hf9 (20, 0, 0) (by decide)).1.trans hO
    refine lv_i2l hx hb dL_count_8 rfl ?_
    refine lv_adr3 ho9.symm ?_
    refine x_last C hH hS hO9 (j := 0) rfl (by omega) (by omega) dL_count_9 (fun H locs hH hS => ?_)
    have hO9 : (xu w9 (20, 0, 0) (.inl (E.2.1 1, 1, .inr (.inl (vp_updL fo 0 ((if k = 5 then nI (cSt sg rc p na) else sg 13 p k).toInt64)))))) (20, 0, 0) = some (.inl (E.2.1 1, 1, .inr (.inl (vp_updL fo 0 ((if k = 5 then nI (cSt sg rc p na) else sg 13 p k).toInt64))))) := xu_self _ _ _
    refine lv_goto (tgt := 21) hx hb dL_count_10 (by decide) ?_
    refine lv_iconst (v := nI 0) hx hb dL_count_21 (by decide +kernel) ?_
    rw [← hQ]
    refine vx_ret (x_reti C rfl hS (Nat.le_of_ble_eq_true rfl) (Nat.le_of_ble_eq_true rfl) dL_count_22 ?_)
    rw [hpost]
    exact Or.inr (Or.inr ⟨rfl, p, k, hp, hk, rfl, rfl, pow_of hH hR9 hf9 h09⟩)

set_option maxHeartbeats 4000000 in
set_option maxRecDepth 100000 in
theorem l_together (l : Launch) (hfl : l.stackTraces = false) {E : xE} {base : Nat} {al : Tg → Nat} {w : Tg → Option va_E} {nf np na nw : Nat} {sg : Nat → Nat → Nat → Int32} {rc : Nat → Bool} (hR : RM E al w nf np na nw sg rc) (hI : INV nf np na nw sg rc) {fo : Nat → Int64} (hO : w (20, 0, 0) = some (.inl (E.2.1 1, 1, .inr (.inl fo)))) {xs z : Int32} : xMetH l yL_together cL_together 5 (some (.int)) [(0, 10, 13, 21), (0, 10, 17, 13)] ({ frames := 8, cells := 2, slots := 12, locals := 128 } : Room) E base [.ref (al (0, 0, 0)), .int xs, .int z, .ref (al (20, 0, 0))] (fun H => xH E base al w H) (fun r H => (r = some (.int (nI 1)) ∧ ¬ inR z nf ∧ xH E base al w H) ∨ (r = some (.int (nI 2)) ∧ inR z nf ∧ ¬ (nI 0 ≤ xs ∧ xs ≤ (nI 1 <<< (nI np &&& 31)) - nI 1) ∧ xH E base al w H) ∨ (r = some (.int (nI 0)) ∧ ∃ f, f < nf ∧ z = nI f ∧ (nI 0 ≤ xs ∧ xs ≤ (nI 1 <<< (nI np &&& 31)) - nI 1) ∧ POW E base al w (fBs (fun b => decide (red (shF xs (fun p => KFs sg rc na p b) np) 16 (nI 1 <<< (nI f &&& 31)) = 0)) 8) nf np na nw sg rc H)) := by
  refine xMetH.of (by decide +kernel) "DataroomLaw" rfl (Nat.le_of_ble_eq_true rfl) ?_
  intro p9 e9 s m9 below meth c9 ls C het hP hS hl
  have hx := C.hx
  have hb := C.hb
  have hH := hP
  have hX := hR.1
  have hl : lv_has ls 5 [(0, .ref (al (0, 0, 0))), (1, .int xs), (2, .int z), (3, .ref (al (20, 0, 0)))] := hl
  obtain ⟨post, hpost⟩ : ∃ zz9 : Option Value → Heap → Prop, zz9 = (fun r H => (r = some (.int (nI 1)) ∧ ¬ inR z nf ∧ xH E base al w H) ∨ (r = some (.int (nI 2)) ∧ inR z nf ∧ ¬ (nI 0 ≤ xs ∧ xs ≤ (nI 1 <<< (nI np &&& 31)) - nI 1) ∧ xH E base al w H) ∨ (r = some (.int (nI 0)) ∧ ∃ f, f < nf ∧ z = nI f ∧ (nI 0 ≤ xs ∧ xs ≤ (nI 1 <<< (nI np &&& 31)) - nI 1) ∧ POW E base al w (fBs (fun b => decide (red (shF xs (fun p => KFs sg rc na p b) np) 16 (nI 1 <<< (nI f &&& 31)) = 0)) 8) nf np na nw sg rc H)) := ⟨_, rfl⟩
  obtain ⟨px, hpx⟩ : ∃ zz9 : String → Heap → Prop, zz9 = (fun _ _ => False) := ⟨_, rfl⟩
  rw [← hpost, ← hpx]
  generalize hQ : (vx_MQ below (xQ base post) (xX base px) ([.ref (al (0, 0, 0)), .int xs, .int z, .ref (al (20, 0, 0))] : List Value).toArray s 2 12 (xA base)) = Q
  refine lv_aload_n hx hb dL_together_0 rfl (lv_at hl 3 rfl) ?_
  refine lv_iconst (v := nI 0) hx hb dL_together_1 (by decide +kernel) ?_
  refine lv_aload_n hx hb dL_together_2 rfl (lv_at hl 0 rfl) ?_
  refine lv_iload_n hx hb dL_together_3 rfl (lv_at hl 1 rfl) ?_
  refine lv_iload_n hx hb dL_together_4 rfl (lv_at hl 2 rfl) ?_
  refine x_thrV C hH hS (ci := 7) (t := (0, 0, 0)) hX rfl rfl (c_together l hfl (E := E) (base := base) hR hI (xs := xs) (z := z)) hH kX6_together qw_648 qw_649 qw_647  rfl [.int (nI 0), .ref (al (20, 0, 0))] rfl hl.1 (Nat.le_of_ble_eq_true rfl) ⟨Nat.le_of_ble_eq_true rfl, Nat.le_of_ble_eq_true rfl⟩ dL_together_5 ⟨Nat.le_of_ble_eq_true rfl, Nat.le_of_ble_eq_true rfl⟩ (fun X ce q9 H locs hp_1 hS hce hcv hcl => ?_) (fun r_2 H locs hp_1 hS => ?_)
  · skip
    obtain ⟨hcs, hH⟩ := hp_1
    rcases hcs with ⟨rfl, h1⟩ | ⟨rfl, h1, h2⟩
    · skip
      refine vx_catch C.hown [] ⟨0, 10, 13, 21⟩ [⟨0, 10, 17, 13⟩] (het.trans rfl) (fun z hz => by cases hz) (by decide) (by decide) (C.ws _ qw_284) ((C.st.nb nw_299).use rfl) hce hcv hcl ?_
      refine lv_astore (lv' := [(4, .ref q9), (0, .ref (al (0, 0, 0))), (1, .int xs), (2, .int z), (3, .ref (al (20, 0, 0)))]) hx hb dL_together_13 hl (by decide) rfl (fun ls hl => ?_)
      refine lv_iconst (v := nI 1) hx hb dL_together_15 (by decide +kernel) ?_
      rw [← hQ]
      refine vx_ret (x_reti C rfl hS (Nat.le_of_ble_eq_true rfl) (Nat.le_of_ble_eq_true rfl) dL_together_16 ?_)
      rw [hpost]
      exact Or.inl ⟨rfl, h1, hH⟩
    · skip
      refine vx_catch C.hown [⟨0, 10, 13, 21⟩] ⟨0, 10, 17, 13⟩ [] (het.trans rfl) (List.forall_mem_cons.mpr ⟨Or.inr ⟨by decide, _, C.ws _ qw_284, C.st.2.2.2.1 _ (List.mem_of_getElem? (i := 0) rfl)⟩, fun _ h => by cases h⟩) (by decide) (by decide) (C.ws _ qw_110) ((C.st.nb nw_121).use rfl) hce hcv hcl ?_
      refine lv_astore (lv' := [(4, .ref q9), (0, .ref (al (0, 0, 0))), (1, .int xs), (2, .int z), (3, .ref (al (20, 0, 0)))]) hx hb dL_together_17 hl (by decide) rfl (fun ls hl => ?_)
      refine lv_iconst (v := nI 2) hx hb dL_together_19 (by decide +kernel) ?_
      rw [← hQ]
      refine vx_ret (x_reti C rfl hS (Nat.le_of_ble_eq_true rfl) (Nat.le_of_ble_eq_true rfl) dL_together_20 ?_)
      rw [hpost]
      exact Or.inr (Or.inl ⟨rfl, h1, h2, hH⟩)
  · skip
    obtain ⟨f, hf, rfl, h1, rfl, F8, m8, hH⟩ := hp_1
    have hP9 := PO_of hH (RM_sh hR F8 m8) (fun t ht => shw_o (fun e => by rw [e] at ht; revert ht; simp) (fun e => by rw [e] at ht; revert ht; simp))
    obtain ⟨al9, w9, hH, hR9, hf9, h09⟩ := hP9
    have ho9 := (hf9 (20, 0, 0) (by decide)).2
    have hO9 : w9 (20, 0, 0) = _ := (hf9 (20, 0, 0) (by decide)).1.trans hO
    refine lv_i2l hx hb dL_together_8 rfl ?_
    refine lv_adr3 ho9.symm ?_
    refine x_last C hH hS hO9 (j := 0) rfl (by omega) (by omega) dL_together_9 (fun H locs hH hS => ?_)
    have hO9 : (xu w9 (20, 0, 0) (.inl (E.2.1 1, 1, .inr (.inl (vp_updL fo 0 ((fBs (fun b => decide (red (shF xs (fun p => KFs sg rc na p b) np) 16 (nI 1 <<< (nI f &&& 31)) = 0)) 8).toInt64)))))) (20, 0, 0) = some (.inl (E.2.1 1, 1, .inr (.inl (vp_updL fo 0 ((fBs (fun b => decide (red (shF xs (fun p => KFs sg rc na p b) np) 16 (nI 1 <<< (nI f &&& 31)) = 0)) 8).toInt64))))) := xu_self _ _ _
    refine lv_goto (tgt := 21) hx hb dL_together_10 (by decide) ?_
    refine lv_iconst (v := nI 0) hx hb dL_together_21 (by decide +kernel) ?_
    rw [← hQ]
    refine vx_ret (x_reti C rfl hS (Nat.le_of_ble_eq_true rfl) (Nat.le_of_ble_eq_true rfl) dL_together_22 ?_)
    rw [hpost]
    exact Or.inr (Or.inr ⟨rfl, f, hf, rfl, h1, pow_of hH hR9 hf9 h09⟩)

set_option maxHeartbeats 4000000 in
set_option maxRecDepth 100000 in
theorem l_ask (l : Launch) (hfl : l.stackTraces = false) {E : xE} {base : Nat} {al : Tg → Nat} {w : Tg → Option va_E} {nf np na nw : Nat} {sg : Nat → Nat → Nat → Int32} {rc : Nat → Bool} (hR : RM E al w nf np na nw sg rc) (hI : INV nf np na nw sg rc) {fo : Nat → Int64} (hO : w (20, 0, 0) = some (.inl (E.2.1 1, 1, .inr (.inl fo)))) {x z bit : Int32} : xMetH l yL_ask cL_ask 6 (some (.int)) [(0, 12, 15, 21), (0, 12, 19, 13), (0, 12, 23, 15)] ({ frames := 9, cells := 5, slots := 384, locals := 217 } : Room) E base [.ref (al (0, 0, 0)), .int x, .int z, .int bit, .ref (al (20, 0, 0))] (fun H => xH E base al w H) (fun r H => (r = some (.int (nI 1)) ∧ ¬ inR x np ∧ xH E base al w H) ∨ (r = some (.int (nI 2)) ∧ inR x np ∧ ¬ Qok nf z bit ∧ xH E base al w H) ∨ (r = some (.int (nI 3)) ∧ inR x np ∧ Qok nf z bit ∧ ¬ na < 150 ∧ xH E base al w H) ∨ (r = some (.int (nI 0)) ∧ ∃ p, p < np ∧ x = nI p ∧ Qok nf z bit ∧ na < 150 ∧ (((fate nf na nw sg rc p z bit) ≠ 0 ∧ POW E base al w (-nI (fate nf na nw sg rc p z bit)) nf np na nw (u3 sg 13 p (fate nf na nw sg rc p z bit) (sg 13 p (fate nf na nw sg rc p z bit) + nI 1)) rc H) ∨ ((fate nf na nw sg rc p z bit) = 0 ∧ POW E base al w (tel bit (xoR z (fun f => sg 1 f 0) nf)) nf np (na + 1) nw (ansg (u3 sg 13 p 0 (sg 13 p 0 + nI 1)) na p z bit (tel bit (xoR z (fun f => sg 1 f 0) nf)) nw) rc H)))) := by
  refine xMetH.of (by decide +kernel) "DataroomLaw" rfl (Nat.le_of_ble_eq_true rfl) ?_
  intro p9 e9 s m9 below meth c9 ls C het hP hS hl
  have hx := C.hx
  have hb := C.hb
  have hH := hP
  have hX := hR.1
  have hl : lv_has ls 6 [(0, .ref (al (0, 0, 0))), (1, .int x), (2, .int z), (3, .int bit), (4, .ref (al (20, 0, 0)))] := hl
  obtain ⟨post, hpost⟩ : ∃ zz9 : Option Value → Heap → Prop, zz9 = (fun r H => (r = some (.int (nI 1)) ∧ ¬ inR x np ∧ xH E base al w H) ∨ (r = some (.int (nI 2)) ∧ inR x np ∧ ¬ Qok nf z bit ∧ xH E base al w H) ∨ (r = some (.int (nI 3)) ∧ inR x np ∧ Qok nf z bit ∧ ¬ na < 150 ∧ xH E base al w H) ∨ (r = some (.int (nI 0)) ∧ ∃ p, p < np ∧ x = nI p ∧ Qok nf z bit ∧ na < 150 ∧ (((fate nf na nw sg rc p z bit) ≠ 0 ∧ POW E base al w (-nI (fate nf na nw sg rc p z bit)) nf np na nw (u3 sg 13 p (fate nf na nw sg rc p z bit) (sg 13 p (fate nf na nw sg rc p z bit) + nI 1)) rc H) ∨ ((fate nf na nw sg rc p z bit) = 0 ∧ POW E base al w (tel bit (xoR z (fun f => sg 1 f 0) nf)) nf np (na + 1) nw (ansg (u3 sg 13 p 0 (sg 13 p 0 + nI 1)) na p z bit (tel bit (xoR z (fun f => sg 1 f 0) nf)) nw) rc H)))) := ⟨_, rfl⟩
  obtain ⟨px, hpx⟩ : ∃ zz9 : String → Heap → Prop, zz9 = (fun _ _ => False) := ⟨_, rfl⟩
  rw [← hpost, ← hpx]
  generalize hQ : (vx_MQ below (xQ base post) (xX base px) ([.ref (al (0, 0, 0)), .int x, .int z, .int bit, .ref (al (20, 0, 0))] : List Value).toArray s 5 384 (xA base)) = Q
  refine lv_aload hx hb dL_ask_0 (lv_at hl 4 rfl) ?_
  refine lv_iconst (v := nI 0) hx hb dL_ask_2 (by decide +kernel) ?_
  refine lv_aload_n hx hb dL_ask_3 rfl (lv_at hl 0 rfl) ?_
  refine lv_iload_n hx hb dL_ask_4 rfl (lv_at hl 1 rfl) ?_
  refine lv_iload_n hx hb dL_ask_5 rfl (lv_at hl 2 rfl) ?_
  refine lv_iload_n hx hb dL_ask_6 rfl (lv_at hl 3 rfl) ?_
  refine x_thrV C hH hS (ci := 7) (t := (0, 0, 0)) hX rfl rfl (c_ask l hfl (E := E) (base := base) hR hI (x := x) (z := z) (bit := bit)) hH kX6_ask qw_471 qw_472 qw_470  rfl [.int (nI 0), .ref (al (20, 0, 0))] rfl hl.1 (Nat.le_of_ble_eq_true rfl) ⟨Nat.le_of_ble_eq_true rfl, Nat.le_of_ble_eq_true rfl⟩ dL_ask_7 ⟨Nat.le_of_ble_eq_true rfl, Nat.le_of_ble_eq_true rfl⟩ (fun X ce q9 H locs hp_1 hS hce hcv hcl => ?_) (fun r_2 H locs hp_1 hS => ?_)
  · skip
    obtain ⟨hcs, hH⟩ := hp_1
    rcases hcs with ⟨rfl, h1⟩ | ⟨rfl, h1, h2⟩ | ⟨rfl, h1, h2, h3⟩
    · skip
      refine vx_catch C.hown [] ⟨0, 12, 15, 21⟩ [⟨0, 12, 19, 13⟩, ⟨0, 12, 23, 15⟩] (het.trans rfl) (fun z hz => by cases hz) (by decide) (by decide) (C.ws _ qw_284) ((C.st.nb nw_299).use rfl) hce hcv hcl ?_
      refine lv_astore (lv' := [(5, .ref q9), (0, .ref (al (0, 0, 0))), (1, .int x), (2, .int z), (3, .int bit), (4, .ref (al (20, 0, 0)))]) hx hb dL_ask_15 hl (by decide) rfl (fun ls hl => ?_)
      refine lv_iconst (v := nI 1) hx hb dL_ask_17 (by decide +kernel) ?_
      rw [← hQ]
      refine vx_ret (x_reti C rfl hS (Nat.le_of_ble_eq_true rfl) (Nat.le_of_ble_eq_true rfl) dL_ask_18 ?_)
      rw [hpost]
      exact Or.inl ⟨rfl, h1, hH⟩
    · skip
      refine vx_catch C.hown [⟨0, 12, 15, 21⟩] ⟨0, 12, 19, 13⟩ [⟨0, 12, 23, 15⟩] (het.trans rfl) (List.forall_mem_cons.mpr ⟨Or.inr ⟨by decide, _, C.ws _ qw_284, C.st.2.2.2.1 _ (List.mem_of_getElem? (i := 0) rfl)⟩, fun _ h => by cases h⟩) (by decide) (by decide) (C.ws _ qw_110) ((C.st.nb nw_121).use rfl) hce hcv hcl ?_
      refine lv_astore (lv' := [(5, .ref q9), (0, .ref (al (0, 0, 0))), (1, .int x), (2, .int z), (3, .int bit), (4, .ref (al (20, 0, 0)))]) hx hb dL_ask_19 hl (by decide) rfl (fun ls hl => ?_)
      refine lv_iconst (v := nI 2) hx hb dL_ask_21 (by decide +kernel) ?_
      rw [← hQ]
      refine vx_ret (x_reti C rfl hS (Nat.le_of_ble_eq_true rfl) (Nat.le_of_ble_eq_true rfl) dL_ask_22 ?_)
      rw [hpost]
      exact Or.inr (Or.inl ⟨rfl, h1, h2, hH⟩)
    · skip
      refine vx_catch C.hown [⟨0, 12, 15, 21⟩, ⟨0, 12, 19, 13⟩] ⟨0, 12, 23, 15⟩ [] (het.trans rfl) (List.forall_mem_cons.mpr ⟨Or.inr ⟨by decide, _, C.ws _ qw_284, C.st.2.2.2.1 _ (List.mem_of_getElem? (i := 1) rfl)⟩, List.forall_mem_cons.mpr ⟨Or.inr ⟨by decide, _, C.ws _ qw_110, C.st.2.2.2.1 _ (List.mem_of_getElem? (i := 2) rfl)⟩, fun _ h => by cases h⟩⟩) (by decide) (by decide) (C.ws _ qw_111) ((C.st.nb nw_193).use rfl) hce hcv hcl ?_
      refine lv_astore (lv' := [(5, .ref q9), (0, .ref (al (0, 0, 0))), (1, .int x), (2, .int z), (3, .int bit), (4, .ref (al (20, 0, 0)))]) hx hb dL_ask_23 hl (by decide) rfl (fun ls hl => ?_)
      refine lv_iconst (v := nI 3) hx hb dL_ask_25 (by decide +kernel) ?_
      rw [← hQ]
      refine vx_ret (x_reti C rfl hS (Nat.le_of_ble_eq_true rfl) (Nat.le_of_ble_eq_true rfl) dL_ask_26 ?_)
      rw [hpost]
      exact Or.inr (Or.inr (Or.inl ⟨rfl, h1, h2, h3, hH⟩))
  · skip
    obtain ⟨p, hp, rfl, h1, h2, hE⟩ := hp_1
    obtain ⟨v8, sg8, n8, rfl, hP9, hE8⟩ : ∃ (v8 : Int32) (sg8 : Nat → Nat → Nat → Int32) (n8 : Nat), r_2 = some (.int v8) ∧ PO E base al w nf np n8 nw sg8 rc H ∧ ∀ H1, POW E base al w v8 nf np n8 nw sg8 rc H1 → (((fate nf na nw sg rc p z bit) ≠ 0 ∧ POW E base al w (-nI (fate nf na nw sg rc p z bit)) nf np na nw (u3 sg 13 p (fate nf na nw sg rc p z bit) (sg 13 p (fate nf na nw sg rc p z bit) + nI 1)) rc H1) ∨ ((fate nf na nw sg rc p z bit) = 0 ∧ POW E base al w (tel bit (xoR z (fun f => sg 1 f 0) nf)) nf np (na + 1) nw (ansg (u3 sg 13 p 0 (sg 13 p 0 + nI 1)) na p z bit (tel bit (xoR z (fun f => sg 1 f 0) nf)) nw) rc H1)) := by
      rcases hE with ⟨a, b, c⟩ | ⟨a, b, c⟩
      · exact ⟨_, _, _, b, c, fun _ h => Or.inl ⟨a, h⟩⟩
      · exact ⟨_, _, _, b, c, fun _ h => Or.inr ⟨a, h⟩⟩
    obtain ⟨al9, w9, hH, hR9, hf9, h09⟩ := hP9
    have ho9 := (hf9 (20, 0, 0) (by decide)).2
    have hO9 : w9 (20, 0, 0) = _ := (hf9 (20, 0, 0) (by decide)).1.trans hO
    refine lv_i2l hx hb dL_ask_10 rfl ?_
    refine lv_adr3 ho9.symm ?_
    refine x_last C hH hS hO9 (j := 0) rfl (by omega) (by omega) dL_ask_11 (fun H locs hH hS => ?_)
    have hO9 : (xu w9 (20, 0, 0) (.inl (E.2.1 1, 1, .inr (.inl (vp_updL fo 0 v8.toInt64))))) (20, 0, 0) = some (.inl (E.2.1 1, 1, .inr (.inl (vp_updL fo 0 v8.toInt64)))) := xu_self _ _ _
    refine lv_goto (tgt := 27) hx hb dL_ask_12 (by decide) ?_
    refine lv_iconst (v := nI 0) hx hb dL_ask_27 (by decide +kernel) ?_
    rw [← hQ]
    refine vx_ret (x_reti C rfl hS (Nat.le_of_ble_eq_true rfl) (Nat.le_of_ble_eq_true rfl) dL_ask_28 ?_)
    rw [hpost]
    exact Or.inr (Or.inr (Or.inr ⟨rfl, p, hp, rfl, h1, h2, hE8 _ (pow_of hH hR9 hf9 h09)⟩))

set_option maxHeartbeats 4000000 in
set_option maxRecDepth 100000 in
theorem l_isSealed (l : Launch) (hfl : l.stackTraces = false) {E : xE} {base : Nat} {al : Tg → Nat} {w : Tg → Option va_E} {nf np na nw : Nat} {sg : Nat → Nat → Nat → Int32} {rc : Nat → Bool} (hR : RM E al w nf np na nw sg rc) (hI : INV nf np na nw sg rc) {fo : Nat → Int64} (hO : w (20, 0, 0) = some (.inl (E.2.1 1, 1, .inr (.inl fo)))) {x : Int32} : xMetH l yL_isSealed cL_isSealed 4 (some (.int)) [(0, 16, 19, 21)] ({ frames := 9, cells := 1, slots := 6, locals := 145 } : Room) E base [.ref (al (0, 0, 0)), .int x, .ref (al (20, 0, 0))] (fun H => xH E base al w H) (fun r H => (r = some (.int (nI 1)) ∧ ¬ inR x nf ∧ xH E base al w H) ∨ (r = some (.int (nI 0)) ∧ ∃ f, f < nf ∧ x = nI f ∧ POW E base al w (ob (decide (nI nw ≤ sg 2 f 0))) nf np na nw sg rc H)) := by
  refine xMetH.of (by decide +kernel) "DataroomLaw" rfl (Nat.le_of_ble_eq_true rfl) ?_
  intro p9 e9 s m9 below meth c9 ls C het hP hS hl
  have hx := C.hx
  have hb := C.hb
  have hH := hP
  have hX := hR.1
  have hl : lv_has ls 4 [(0, .ref (al (0, 0, 0))), (1, .int x), (2, .ref (al (20, 0, 0)))] := hl
  obtain ⟨post, hpost⟩ : ∃ zz9 : Option Value → Heap → Prop, zz9 = (fun r H => (r = some (.int (nI 1)) ∧ ¬ inR x nf ∧ xH E base al w H) ∨ (r = some (.int (nI 0)) ∧ ∃ f, f < nf ∧ x = nI f ∧ POW E base al w (ob (decide (nI nw ≤ sg 2 f 0))) nf np na nw sg rc H)) := ⟨_, rfl⟩
  obtain ⟨px, hpx⟩ : ∃ zz9 : String → Heap → Prop, zz9 = (fun _ _ => False) := ⟨_, rfl⟩
  rw [← hpost, ← hpx]
  generalize hQ : (vx_MQ below (xQ base post) (xX base px) ([.ref (al (0, 0, 0)), .int x, .ref (al (20, 0, 0))] : List Value).toArray s 1 6 (xA base)) = Q
  refine lv_aload_n hx hb dL_isSealed_0 rfl (lv_at hl 2 rfl) ?_
  refine lv_iconst (v := nI 0) hx hb dL_isSealed_1 (by decide +kernel) ?_
  refine lv_aload_n hx hb dL_isSealed_2 rfl (lv_at hl 0 rfl) ?_
  refine lv_iload_n hx hb dL_isSealed_3 rfl (lv_at hl 1 rfl) ?_
  refine x_thrV C hH hS (ci := 7) (t := (0, 0, 0)) hX rfl rfl (c_isSealed l hfl (E := E) (base := base) hR hI (x := x)) hH kX6_isSealed qw_672 qw_673 qw_671  rfl [.int (nI 0), .ref (al (20, 0, 0))] rfl hl.1 (Nat.le_of_ble_eq_true rfl) ⟨Nat.le_of_ble_eq_true rfl, Nat.le_of_ble_eq_true rfl⟩ dL_isSealed_4 ⟨Nat.le_of_ble_eq_true rfl, Nat.le_of_ble_eq_true rfl⟩ (fun X ce q9 H locs hp_1 hS hce hcv hcl => ?_) (fun r_2 H locs hp_1 hS => ?_)
  · skip
    obtain ⟨rfl, h1, hH⟩ := hp_1
    · skip
      refine vx_catch C.hown [] ⟨0, 16, 19, 21⟩ [] (het.trans rfl) (fun z hz => by cases hz) (by decide) (by decide) (C.ws _ qw_284) ((C.st.nb nw_299).use rfl) hce hcv hcl ?_
      refine lv_astore_n (lv' := [(3, .ref q9), (0, .ref (al (0, 0, 0))), (1, .int x), (2, .ref (al (20, 0, 0)))]) hx hb dL_isSealed_19 rfl hl (by decide) rfl (fun ls hl => ?_)
      refine lv_iconst (v := nI 1) hx hb dL_isSealed_20 (by decide +kernel) ?_
      rw [← hQ]
      refine vx_ret (x_reti C rfl hS (Nat.le_of_ble_eq_true rfl) (Nat.le_of_ble_eq_true rfl) dL_isSealed_21 ?_)
      rw [hpost]
      exact Or.inl ⟨rfl, h1, hH⟩
  · skip
    obtain ⟨f, hf, rfl, rfl, hH⟩ := hp_1
    have hP9 := PO_of hH hR (fun _ _ => rfl)
    obtain ⟨al9, w9, hH, hR9, hf9, h09⟩ := hP9
    have ho9 := (hf9 (20, 0, 0) (by decide)).2
    have hO9 : w9 (20, 0, 0) = _ := (hf9 (20, 0, 0) (by decide)).1.trans hO
    refine lv_if_eq (tgt := 14) hx hb dL_isSealed_7 (by decide) (fun c_3 => ?_) (fun c_3 => ?_)
    · skip
      replace c_3 := ob_0.mp c_3
      refine lv_lconst (v := 0) hx hb dL_isSealed_14 (by decide +kernel) ?_
      refine lv_rel (y := (ob (decide (nI nw ≤ sg 2 f 0))).toInt64) (by rw [c_3]; decide) ?_
      refine lv_adr3 ho9.symm ?_
      refine x_last C hH hS hO9 (j := 0) rfl (by omega) (by omega) dL_isSealed_15 (fun H locs hH hS => ?_)
      have hO9 : (xu w9 (20, 0, 0) (.inl (E.2.1 1, 1, .inr (.inl (vp_updL fo 0 ((ob (decide (nI nw ≤ sg 2 f 0))).toInt64)))))) (20, 0, 0) = some (.inl (E.2.1 1, 1, .inr (.inl (vp_updL fo 0 ((ob (decide (nI nw ≤ sg 2 f 0))).toInt64))))) := xu_self _ _ _
      refine lv_goto (tgt := 22) hx hb dL_isSealed_16 (by decide) ?_
      refine lv_iconst (v := nI 0) hx hb dL_isSealed_22 (by decide +kernel) ?_
      rw [← hQ]
      refine vx_ret (x_reti C rfl hS (Nat.le_of_ble_eq_true rfl) (Nat.le_of_ble_eq_true rfl) dL_isSealed_23 ?_)
      rw [hpost]
      exact Or.inr ⟨rfl, f, hf, rfl, pow_of hH hR9 hf9 h09⟩
    · skip
      replace c_3 := ob_n.mp c_3
      refine lv_lconst (v := 1) hx hb dL_isSealed_10 (by decide +kernel) ?_
      refine lv_goto (tgt := 15) hx hb dL_isSealed_11 (by decide) ?_
      refine lv_rel (y := (ob (decide (nI nw ≤ sg 2 f 0))).toInt64) (by rw [c_3]; decide) ?_
      refine lv_adr3 ho9.symm ?_
      refine x_last C hH hS hO9 (j := 0) rfl (by omega) (by omega) dL_isSealed_15 (fun H locs hH hS => ?_)
      have hO9 : (xu w9 (20, 0, 0) (.inl (E.2.1 1, 1, .inr (.inl (vp_updL fo 0 ((ob (decide (nI nw ≤ sg 2 f 0))).toInt64)))))) (20, 0, 0) = some (.inl (E.2.1 1, 1, .inr (.inl (vp_updL fo 0 ((ob (decide (nI nw ≤ sg 2 f 0))).toInt64))))) := xu_self _ _ _
      refine lv_goto (tgt := 22) hx hb dL_isSealed_16 (by decide) ?_
      refine lv_iconst (v := nI 0) hx hb dL_isSealed_22 (by decide +kernel) ?_
      rw [← hQ]
      refine vx_ret (x_reti C rfl hS (Nat.le_of_ble_eq_true rfl) (Nat.le_of_ble_eq_true rfl) dL_isSealed_23 ?_)
      rw [hpost]
      exact Or.inr ⟨rfl, f, hf, rfl, pow_of hH hR9 hf9 h09⟩
