theorem whole_of {p : Program} {e : Env} {s : State} {m : MethodId} {below : List Frame} {meth : Method} {c : Code} (l : Launch) (hfl : l.stackTraces = false) {b L : Nat} {xs : Nat → Int32} (hL : L ≤ 260) (C0 : lw_At p s m meth c b L xs) {E : xE} (hst : xSt E s.heap.size s) : W p l e room_1 s m #[Value.ref b] below meth c s.heap [] 0 0 (lw_Z below #[Value.ref b] s) (entryFrame m ([Value.ref b] : List Value).toArray 6) := by
  obtain ⟨h1, h2, h3, h4, h5, h6, h7, h8, h9, -⟩ := C0
  rw [lg_entry_eq]
  exact law_head l hfl ⟨h1, h2, h4, h5, fun w hw => h6 w (List.mem_filter.mp hw).1, h9, h3, hst⟩ h7 h8 hL (lv_entry [Value.ref b] (n := 6) (Nat.le_of_ble_eq_true rfl))
theorem st_off {l : Launch} (h : l.flags = flags0) : l.stackTraces = false := by
  unfold Launch.stackTraces; rw [h]; decide
theorem st_nb {s : State} {args : Array Value} (hts : ∀ w ∈ lw_tbl, w.before args s = true) : ∀ w ∈ NB, va_Nw w s := fun w hw => by
  have h1 := hts w (List.mem_append_right _ (List.mem_filter.mp hw).1)
  have h2 := (List.mem_filter.mp hw).2
  refine va_Nw.of ?_ h1
  cases w <;> first | rfl | exact absurd h2 (by decide) | cases h2
theorem st_ao {s : State} {args : Array Value} (hts : ∀ w ∈ lw_tbl, w.before args s = true) {C : String} (h : Cond.arrayOver (.object C) ∈ tables_1) : va_AO C s := va_AO.of (hts _ (List.mem_append_right _ h))
