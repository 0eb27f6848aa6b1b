set_option maxHeartbeats 4000000 in
set_option maxRecDepth 100000 in
theorem law_head (l : Launch) (hfl : l.stackTraces = false) {p : Program} {e : Env} {s : State} {m : MethodId} {below : List Frame} {meth : Method} {c : Code} {E : xE} {b L : Nat} {xs : Nat → Int32} (C : XC p s m #[Value.ref b] meth c "DataroomLaw" cL_law 7 ret E s.heap.size) (hXs : va_X b L xs s s.heap) (hbl : b < s.heap.size) (hL : L ≤ 3072) {ls : Array Slot} (hl : lv_has ls 7 [(0, .ref b)]) : W p l e room_1 s m #[Value.ref b] below meth c s.heap [] 0 0 (lw_Z below #[Value.ref b] s) (F0 m 0 ls []) := by
  have hx := C.hx
  have hb := C.hb
  have hbA : ¬ xA s.heap.size b := Nat.not_le.mpr hbl
  have hS : va_S (xA s.heap.size) s.heap s.heap [] := va_S.rf
  have hH : xH E s.heap.size (fun _ => 0) (fun _ => none) s.heap := And.intro (fun t e h => absurd h (by nofun)) (fun t t' e e' h => absurd h (by nofun))
  refine x_new C hH hS (0, 0, 0) (ci := 7) (T := TX6) (N := 6) (fs := [.null, .null, .null, .int 0, .null, .null]) rfl iWX6 tyX6 tyX6_ok qw_25 qw_26 qw_1 (fun j hj => by rcases (show j = 0 ∨ j = 1 ∨ j = 2 ∨ j = 3 ∨ j = 4 ∨ j = 5 by omega) with rfl | rfl | rfl | rfl | rfl | rfl <;> rfl) (Nat.le_of_ble_eq_true rfl) (Nat.le_of_ble_eq_true rfl) dL_law_0 (fun G1_ hH hS => ?_)
  obtain ⟨q_1, hq_1⟩ : ∃ zz9 : Nat, zz9 = xa (fun _ => 0) (0, 0, 0) s.heap.size (0, 0, 0) := ⟨_, rfl⟩
  obtain ⟨alq_1, halq_1⟩ : ∃ zz9 : Tg → Nat, zz9 = xa (fun _ => 0) (0, 0, 0) s.heap.size := ⟨_, rfl⟩
  rw [← halq_1] at hH
  rw [← hq_1]
  have ad_3 : alq_1 (0, 0, 0) = q_1 := by rw [halq_1, hq_1]
  have hn_2 : (xu (fun _ => none) (0, 0, 0) (.inr (7, [.null, .null, .null, .int 0, .null, .null]))) (0, 0, 0) = some (.inr (7, [.null, .null, .null, .int 0, .null, .null])) := xu_self _ _ _
  refine lv_dup hx hb dL_law_3 rfl ?_
  refine lv_adr (ad_3).symm ?_
  refine x_callI C hS (c_Dataroom l (E := E) (base := s.heap.size) (sg := sg0) (rc := fun _ => false) hn_2) hH kX6_init qw_28 rfl qw_27  rfl [.ref q_1] rfl hl.1 (Nat.le_of_ble_eq_true rfl) ⟨Nat.le_of_ble_eq_true rfl, Nat.le_of_ble_eq_true rfl⟩ dL_law_4 ⟨Nat.le_of_ble_eq_true rfl, Nat.le_of_ble_eq_true rfl⟩ (fun r_5 H locs hp_4 hS => ?_)
  obtain ⟨rfl, al1, w1, hH, hR, hf1, h01⟩ := hp_4
  have q01 := ((ad_3).symm).trans h01.symm
  refine lv_astore_n (lv' := [(1, .ref q_1), (0, .ref b)]) hx hb dL_law_7 rfl hl (by decide) rfl (fun ls hl => ?_)
  refine x_new C hH hS (10, 0, 0) (ci := 8) (T := TX7) (N := 19) (fs := [.int 0, .int 0, .int 0, .null, .null, .int 0, .null, .null, .null, .null, .int 0, .null, .null, .null, .null, .null, .null, .null, .null]) rfl iWX7 tyX7 tyX7_ok qw_690 qw_691 qw_7 (fun j hj => by rcases (show j = 0 ∨ j = 1 ∨ j = 2 ∨ j = 3 ∨ j = 4 ∨ j = 5 ∨ j = 6 ∨ j = 7 ∨ j = 8 ∨ j = 9 ∨ j = 10 ∨ j = 11 ∨ j = 12 ∨ j = 13 ∨ j = 14 ∨ j = 15 ∨ j = 16 ∨ j = 17 ∨ j = 18 by omega) with rfl | rfl | rfl | rfl | rfl | rfl | rfl | rfl | rfl | rfl | rfl | rfl | rfl | rfl | rfl | rfl | rfl | rfl | rfl <;> rfl) (Nat.le_of_ble_eq_true rfl) (Nat.le_of_ble_eq_true rfl) dL_law_8 (fun G6_ hH hS => ?_)
  obtain ⟨q_6, hq_6⟩ : ∃ zz9 : Nat, zz9 = xa al1 (10, 0, 0) H.size (10, 0, 0) := ⟨_, rfl⟩
  obtain ⟨alq_6, halq_6⟩ : ∃ zz9 : Tg → Nat, zz9 = xa al1 (10, 0, 0) H.size := ⟨_, rfl⟩
  rw [← halq_6] at hH
  rw [← hq_6]
  have ad_8 : alq_6 (10, 0, 0) = q_6 := by rw [halq_6, hq_6]
  have hn_7 : (xu w1 (10, 0, 0) (.inr (8, [.int 0, .int 0, .int 0, .null, .null, .int 0, .null, .null, .null, .null, .int 0, .null, .null, .null, .null, .null, .null, .null, .null]))) (10, 0, 0) = some (.inr (8, [.int 0, .int 0, .int 0, .null, .null, .int 0, .null, .null, .null, .null, .int 0, .null, .null, .null, .null, .null, .null, .null, .null])) := xu_self _ _ _
  refine lv_dup hx hb dL_law_11 rfl ?_
  refine lv_adr (ad_8).symm ?_
  refine x_callI C hS (c_Model l (E := E) (base := s.heap.size) hn_7) hH kX7_init qw_693 rfl qw_692  rfl [.ref q_6] rfl hl.1 (Nat.le_of_ble_eq_true rfl) ⟨Nat.le_of_ble_eq_true rfl, Nat.le_of_ble_eq_true rfl⟩ dL_law_12 ⟨Nat.le_of_ble_eq_true rfl, Nat.le_of_ble_eq_true rfl⟩ (fun r_10 H locs hp_9 hS => ?_)
  obtain ⟨rfl, al3, w3, fr3, hH, hM, hf3, h03⟩ := hp_9
  have fr9 : ∀ t : Tg, t.1 ≠ 10 → w3 t = w1 t ∧ al3 t = al1 t := fun t ht => ⟨by rw [(hf3 t ht).1]; exact xu_ne (fun e => ht (by rw [e])), by rw [(hf3 t ht).2, halq_6]; exact xa_ne (fun e => ht (by rw [e]))⟩
  have hR3 := hR.of (fun t ht => (fr9 t (by unfold dm at ht; omega)).1) (fun t ht => (fr9 t (by unfold dm at ht; omega)).2)
  have q03 := ((ad_8).symm).trans h03.symm
  have q02 := q01.trans (fr9 (0, 0, 0) (by decide)).2.symm
  refine lv_astore_n (lv' := [(2, .ref q_6), (1, .ref q_1), (0, .ref b)]) hx hb dL_law_15 rfl hl (by decide) rfl (fun ls hl => ?_)
  refine lv_iconst (v := nI 1) hx hb dL_law_16 (by decide +kernel) ?_
  refine x_newa C hH hS (20, 0, 0) 1 (atype := .long) qw_87 rfl rfl (fun _ h => by cases h) (a0 := (1, .inr (.inl (fun _ => 0)))) (fun cA => rfl) rfl (by omega) (by decide) (by decide) (by decide) dL_law_17 (fun G11_ hH hS => ?_)
  obtain ⟨q_11, hq_11⟩ : ∃ zz9 : Nat, zz9 = xa al3 (20, 0, 0) H.size (20, 0, 0) := ⟨_, rfl⟩
  obtain ⟨alq_11, halq_11⟩ : ∃ zz9 : Tg → Nat, zz9 = xa al3 (20, 0, 0) H.size := ⟨_, rfl⟩
  rw [← halq_11] at hH
  rw [← hq_11]
  have ad_13 : alq_11 (20, 0, 0) = q_11 := by rw [halq_11, hq_11]
  have hn_12 : (xu w3 (20, 0, 0) (.inl (E.2.1 1, 1, .inr (.inl (fun _ => 0))))) (20, 0, 0) = some (.inl (E.2.1 1, 1, .inr (.inl (fun _ => 0)))) := xu_self _ _ _
  refine lv_astore_n (lv' := [(3, .ref q_11), (2, .ref q_6), (1, .ref q_1), (0, .ref b)]) hx hb dL_law_19 rfl hl (by decide) rfl (fun ls hl => ?_)
  refine lv_iconst (v := nI 0) hx hb dL_law_20 (by decide +kernel) ?_
  refine lv_istore (lv' := [(4, .int (nI 0)), (3, .ref q_11), (2, .ref q_6), (1, .ref q_1), (0, .ref b)]) hx hb dL_law_21 hl (by decide) rfl (fun ls hl => ?_)
  have hR4 := hR3.of (w' := (xu w3 (20, 0, 0) (.inl (E.2.1 1, 1, .inr (.inl (fun _ => 0)))))) (al' := alq_11) (fun t ht => xu_ne (fun e => by rw [e] at ht; revert ht; simp [dm])) (fun t ht => by rw [halq_11]; exact xa_ne (fun e => by rw [e] at ht; revert ht; simp [dm]))
  have hM4 := hM.mv (w' := (xu w3 (20, 0, 0) (.inl (E.2.1 1, 1, .inr (.inl (fun _ => 0)))))) (al' := alq_11) (fun t ht => xu_ne (fun e => by rw [e] at ht; revert ht; simp)) (fun t ht => by rw [halq_11]; exact xa_ne (fun e => by rw [e] at ht; revert ht; simp))
  have z0 : alq_11 (0, 0, 0) = al3 (0, 0, 0) := by rw [halq_11]; exact xa_ne (by simp)
  have z1 : alq_11 (10, 0, 0) = al3 (10, 0, 0) := by rw [halq_11]; exact xa_ne (by simp)
  refine W.widen (k := 30 + 30 * 0) (n := 3000 + 700 * 0) (Nat.le_of_ble_eq_true rfl) (Nat.le_of_ble_eq_true rfl) ?_
  exact law_loop l hfl C hXs hbl hbA hL 0 (Nat.zero_le _) _ _ _ ⟨alq_11, _, 0, 0, 0, 0, _, _, _, _, _, hH, hR4, INV_0, hM4, hn_12, z0.trans q02.symm, z1.trans q03.symm, ((ad_13).symm).symm⟩ hS (lv_sub hl [0, 1, 2, 3, 4] rfl)
