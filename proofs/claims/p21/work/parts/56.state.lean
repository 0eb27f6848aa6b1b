theorem lt1 {w : Cond} {i : Nat} (h : tables_1_1[i]? = some w) : w ∈ lw_tbl := List.mem_append_right _ (List.mem_append_left _ (List.mem_of_getElem? h))
theorem lt2 {w : Cond} {i : Nat} (h : tables_1_2[i]? = some w) : w ∈ lw_tbl := List.mem_append_right _ (List.mem_append_right _ (List.mem_append_left _ (List.mem_of_getElem? h)))
theorem lt3 {w : Cond} {i : Nat} (h : tables_1_3[i]? = some w) : w ∈ lw_tbl := List.mem_append_right _ (List.mem_append_right _ (List.mem_append_right _ (List.mem_append_left _ (List.mem_of_getElem? h))))
theorem lt4 {w : Cond} {i : Nat} (h : tables_1_4[i]? = some w) : w ∈ lw_tbl := List.mem_append_right _ (List.mem_append_right _ (List.mem_append_right _ (List.mem_append_right _ (List.mem_of_getElem? h))))
theorem st2 {w : Cond} {i : Nat} (h : tables_1_2[i]? = some w) : w ∈ tables_1 := List.mem_append_right _ (List.mem_append_left _ (List.mem_of_getElem? h))
theorem xs_prim {args : Array Value} {s : State} {ty : FieldType} (h : (Cond.arrayClass ty).before args s = true) : ∃ cA : ClassId, ArrOfT s cA ty ∧ s.vm.findClass ("[" ++ ty.toString) = some cA := by
  obtain ⟨c, k, comp, h1, h2, h3⟩ := Cond.arrayClass_spec h
  exact ⟨c, fun n z => ⟨fun k h => (by cases h), k, h2, comp, h3⟩, h1⟩
theorem xs_ref {args : Array Value} {s : State} {C : String} (h : (Cond.arrayOver (.object C)).before args s = true) : ∃ cA : ClassId, ArrOfT s cA (.object C) ∧ va_RA s cA (.object C) := by
  obtain ⟨comp, c, k, h1, -, h3, h4, h5⟩ := Cond.arrayOver_spec h
  exact ⟨c, fun n z => ⟨fun k h => (by cases h), k, h3, comp, h4⟩, k, comp, h3, h4, h1, h5⟩
theorem xs_cls {args : Array Value} {s : State} (hts : ∀ w ∈ lw_tbl, w.before args s = true) : ∃ D : va_G, ∀ (k : Nat) (q : vw_C), vwCl[k]? = some q → u_Kn s q.1 q.2.1 q.2.2 (D.1 k) (D.2 k) := by
  have hws : ∀ w ∈ WS, w.before args s = true := fun w hw => hts w (List.mem_filter.mp hw).1
  obtain ⟨c0, i0, k0⟩ := u_known hws iWJx4a65c (n := 3) (hts _ (lt1 (i := 33) rfl))
  obtain ⟨c1, i1, k1⟩ := u_known hws iWX0 (n := 6) (hts _ (lt3 (i := 67) rfl))
  obtain ⟨c2, i2, k2⟩ := u_known hws iWX1 (n := 2) (hts _ (lt1 (i := 217) rfl))
  obtain ⟨c3, i3, k3⟩ := u_known hws iWX2 (n := 2) (hts _ (lt1 (i := 59) rfl))
  obtain ⟨c4, i4, k4⟩ := u_known hws iWX3 (n := 2) (hts _ (lt1 (i := 74) rfl))
  obtain ⟨c5, i5, k5⟩ := u_known hws iWX4 (n := 5) (hts _ (lt2 (i := 141) rfl))
  obtain ⟨c6, i6, k6⟩ := u_known hws iWX5 (n := 3) (hts _ (lt2 (i := 191) rfl))
  obtain ⟨c7, i7, k7⟩ := u_known hws iWX6 (n := 6) (hts _ (lt1 (i := 25) rfl))
  refine ⟨(fun k => match k with | 0 => c0 | 1 => c1 | 2 => c2 | 3 => c3 | 4 => c4 | 5 => c5 | 6 => c6 | _ => c7, fun k => match k with | 0 => i0 | 1 => i1 | 2 => i2 | 3 => i3 | 4 => i4 | 5 => i5 | 6 => i6 | _ => i7), ?_⟩
  intro k q hq
  match k, hq with
  | 0, hq => cases hq; exact k0
  | 1, hq => cases hq; exact k1
  | 2, hq => cases hq; exact k2
  | 3, hq => cases hq; exact k3
  | 4, hq => cases hq; exact k4
  | 5, hq => cases hq; exact k5
  | 6, hq => cases hq; exact k6
  | 7, hq => cases hq; exact k7
  | k + 8, hq => exact absurd (List.getElem?_eq_some_iff.mp hq).1 (by show ¬ k + 8 < 8; omega)
theorem xs_str {args : Array Value} {s : State} {k : Nat} (h : (Cond.exactly (.string "Dataroom" k) "java/lang/String").before args s = true) : ∃ a : Nat, (Term.string "Dataroom" k).eval args s none [] s = some (.ref a) := by
  obtain ⟨b, -, -, -, hb, -⟩ := Cond.exactly_spec h
  exact ⟨b, hb⟩
def xs_ad (aL aE mi a1 a2 a3 a4 a5 a6 a7 a8 : Nat) : Nat → Nat := fun k => if k = 0 then aL else if k = 1 then aE else if k = 2 then mi else if k = 191 then a1 else if k = 46 then a2 else if k = 187 then a3 else if k = 78 then a4 else if k = 185 then a5 else if k = 111 then a6 else if k = 116 then a7 else a8
theorem xs_lack {args : Array Value} {s : State} (hF : ∀ c ∈ flatC (Jvm.Cond.and given_1 narrow_1), c.before args s = true) : ∃ t : Nat, (Term.static "Dataroom$Marks" "LACKING" "[J").eval args s none [] s = some (.ref t) ∧ va_T .long t 6 (fun j => .long (lkf j)) (fun q => s.heap.size ≤ q) s s.heap := by
  refine va_Tof (by decide) (hF _ (List.mem_of_getElem? (i := 11) (by decide +kernel))) (va_eqt (z := 6) (hF _ (List.mem_of_getElem? (i := 12) (by decide +kernel)))) (fun j hj => ?_) (fun a h => Nat.not_le.mpr h)
  rcases (show j = 0 ∨ j = 1 ∨ j = 2 ∨ j = 3 ∨ j = 4 ∨ j = 5 by omega) with rfl | rfl | rfl | rfl | rfl | rfl
  · exact va_eqtl (hF _ (List.mem_of_getElem? (i := 13) (by decide +kernel)))
  · exact va_eqtl (hF _ (List.mem_of_getElem? (i := 14) (by decide +kernel)))
  · exact va_eqtl (hF _ (List.mem_of_getElem? (i := 15) (by decide +kernel)))
  · exact va_eqtl (hF _ (List.mem_of_getElem? (i := 16) (by decide +kernel)))
  · exact va_eqtl (hF _ (List.mem_of_getElem? (i := 17) (by decide +kernel)))
  · exact va_eqtl (hF _ (List.mem_of_getElem? (i := 18) (by decide +kernel)))
theorem xs_empty {args : Array Value} {s : State} (hF : ∀ c ∈ flatC (Jvm.Cond.and given_1 narrow_1), c.before args s = true) : ∃ t : Nat, (Term.static "java/util/ArrayList" "DEFAULTCAPACITY_EMPTY_ELEMENTDATA" "[Ljava/lang/Object;").eval args s none [] s = some (.ref t) ∧ va_T (.object "java/lang/Object") t 0 (fun _ => .null) (fun q => s.heap.size ≤ q) s s.heap :=
  va_Tof (by decide) (hF _ (List.mem_of_getElem? (i := 5) (by decide +kernel))) (va_eqt (z := 0) (hF _ (List.mem_of_getElem? (i := 7) (by decide +kernel)))) (fun j hj => absurd hj (Nat.not_lt_zero j)) (fun a h => Nat.not_le.mpr h)
theorem va_T.size {ty : FieldType} {t N : Nat} {f : Nat → Value} {A : Nat → Prop} {U : State} {H : Heap} (h : va_T ty t N f A U H) : t < H.size := by
  obtain ⟨cell, h1, -⟩ := h
  exact (Array.getElem?_eq_some_iff.mp h1).1
theorem xs_st {args : Array Value} {s : State} (hts : ∀ w ∈ lw_tbl, w.before args s = true) (hg : (Jvm.Cond.and given_1 narrow_1).before args s = true) : ∃ E : xE, xSt E s.heap.size s := by
  have hF := flat_of_before _ hg
  have hA : ∀ a : Nat, a < s.heap.size → ¬ s.heap.size ≤ a := fun a h => Nat.not_le.mpr h
  obtain ⟨D, hD⟩ := xs_cls hts
  obtain ⟨ci, pi1, pi2⟩ := xs_prim (hts _ (lt1 (w := Cond.arrayClass .int) (i := 72) rfl))
  obtain ⟨cl, pl1, pl2⟩ := xs_prim (hts _ (lt1 (w := Cond.arrayClass .long) (i := 86) rfl))
  obtain ⟨cb, pb1, pb2⟩ := xs_prim (hts _ (lt1 (w := Cond.arrayClass .byte) (i := 195) rfl))
  obtain ⟨ck, pk1, pk2⟩ := xs_ref (hts _ (lt2 (w := Cond.arrayOver (.object "Dataroom$Knowledge")) (i := 149) rfl))
  obtain ⟨cr, pr1, pr2⟩ := xs_ref (hts _ (lt2 (w := Cond.arrayOver (.object "Dataroom$Right")) (i := 147) rfl))
  obtain ⟨co, po1, po2⟩ := xs_ref (hts _ (lt2 (w := Cond.arrayOver (.object "java/lang/Object")) (i := 39) rfl))
  obtain ⟨a1, e1⟩ := xs_str (k := 191) (hF _ (List.mem_of_getElem? (i := 74) (by decide +kernel)))
  obtain ⟨a2, e2⟩ := xs_str (k := 46) (hF _ (List.mem_of_getElem? (i := 90) (by decide +kernel)))
  obtain ⟨a3, e3⟩ := xs_str (k := 187) (hF _ (List.mem_of_getElem? (i := 113) (by decide +kernel)))
  obtain ⟨a4, e4⟩ := xs_str (k := 78) (hF _ (List.mem_of_getElem? (i := 131) (by decide +kernel)))
  obtain ⟨a5, e5⟩ := xs_str (k := 185) (hF _ (List.mem_of_getElem? (i := 157) (by decide +kernel)))
  obtain ⟨a6, e6⟩ := xs_str (k := 111) (hF _ (List.mem_of_getElem? (i := 178) (by decide +kernel)))
  obtain ⟨a7, e7⟩ := xs_str (k := 116) (hF _ (List.mem_of_getElem? (i := 210) (by decide +kernel)))
  obtain ⟨a8, e8⟩ := xs_str (k := 145) (hF _ (List.mem_of_getElem? (i := 241) (by decide +kernel)))
  obtain ⟨mi, hmi⟩ := va_Mi.of (C := "[Ljava/lang/Object;") (hF _ (List.mem_of_getElem? (i := 73) (by decide +kernel)))
  obtain ⟨aL, eL, tL⟩ := xs_lack hF
  obtain ⟨aE, eE, tE⟩ := xs_empty hF
  refine ⟨(D, (fun k => match k with | 0 => ci | 1 => cl | 2 => cb | 3 => ck | 4 => cr | _ => co), xs_ad aL aE mi a1 a2 a3 a4 a5 a6 a7 a8), ⟨hD, fun k q hq => ?_⟩, st_nb hts, ?_, ?_, ⟨st_ao hts (st2 (i := 39) rfl), st_ao hts (st2 (i := 147) rfl), st_ao hts (st2 (i := 149) rfl)⟩, hmi, ?_, ?_, ?_, ?_, tL, tE, tL.size, tE.size, Nat.le_refl _⟩
  · match k, hq with
    | 0, hq => cases hq; exact ⟨pi1, pi2⟩
    | 1, hq => cases hq; exact ⟨pl1, pl2⟩
    | 2, hq => cases hq; exact ⟨pb1, pb2⟩
    | 3, hq => cases hq; exact ⟨pk1, pk2⟩
    | 4, hq => cases hq; exact ⟨pr1, pr2⟩
    | 5, hq => cases hq; exact ⟨po1, po2⟩
    | k + 6, hq => exact absurd (List.getElem?_eq_some_iff.mp hq).1 (by show ¬ k + 6 < 6; omega)
  · exact List.forall_mem_cons.mpr ⟨vk_R.of (hts _ (lt1 (i := 169) rfl)) e1, List.forall_mem_cons.mpr ⟨vk_R.of (hts _ (lt1 (i := 209) rfl)) e2, List.forall_mem_cons.mpr ⟨vk_R.of (hts _ (lt2 (i := 75) rfl)) e3, List.forall_mem_cons.mpr ⟨vk_R.of (hts _ (lt2 (i := 140) rfl)) e4, List.forall_mem_cons.mpr ⟨vk_R.of (hts _ (lt2 (i := 182) rfl)) e5, List.forall_mem_cons.mpr ⟨vk_R.of (hts _ (lt2 (i := 235) rfl)) e6, List.forall_mem_cons.mpr ⟨vk_R.of (hts _ (lt3 (i := 7) rfl)) e7, List.forall_mem_cons.mpr ⟨vk_R.of (hts _ (lt3 (i := 108) rfl)) e8, fun _ h => absurd h List.not_mem_nil⟩⟩⟩⟩⟩⟩⟩⟩
  · exact List.forall_mem_cons.mpr ⟨va_Nc.of (hF _ (List.mem_of_getElem? (i := 43) (by decide +kernel))), List.forall_mem_cons.mpr ⟨va_Nc.of (hF _ (List.mem_of_getElem? (i := 44) (by decide +kernel))), List.forall_mem_cons.mpr ⟨va_Nc.of (hF _ (List.mem_of_getElem? (i := 23) (by decide +kernel))), List.forall_mem_cons.mpr ⟨va_Nc.of (hF _ (List.mem_of_getElem? (i := 25) (by decide +kernel))), fun _ h => absurd h List.not_mem_nil⟩⟩⟩⟩
  · exact vx_Zqof (hts _ (lt1 (i := 155) rfl)) (hts _ (lt1 (i := 7) rfl)) (hF _ (List.mem_of_getElem? (i := 8) (by decide +kernel))) hA
  · exact vx_Zqof (hts _ (lt1 (i := 157) rfl)) (hts _ (lt1 (i := 7) rfl)) (hF _ (List.mem_of_getElem? (i := 9) (by decide +kernel))) hA
  · exact va_Zof (hts _ (lt3 (i := 207) rfl)) (hts _ (lt1 (i := 6) rfl)) eL hA
  · exact va_Zof (hts _ (lt1 (i := 45) rfl)) (hts _ (lt1 (i := 4) rfl)) eE hA
