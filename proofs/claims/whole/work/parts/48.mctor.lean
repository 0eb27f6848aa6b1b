def sg0 : Nat → Nat → Nat → Int32 := fun k _ _ => if k = 2 then -1 else 0
theorem seal_16 : ∀ j, j < 16 → (upd (upd (upd (upd (upd (upd (upd (upd (upd (upd (upd (upd (upd (upd (upd (upd (fun _ => 0) 0 (-1)) 1 (-1)) 2 (-1)) 3 (-1)) 4 (-1)) 5 (-1)) 6 (-1)) 7 (-1)) 8 (-1)) 9 (-1)) 10 (-1)) 11 (-1)) 12 (-1)) 13 (-1)) 14 (-1)) 15 (-1)) j = (fun _ => (-1 : Int32)) j := by
  intro j hj
  rcases (show j = 0 ∨ j = 1 ∨ j = 2 ∨ j = 3 ∨ j = 4 ∨ j = 5 ∨ j = 6 ∨ j = 7 ∨ j = 8 ∨ j = 9 ∨ j = 10 ∨ j = 11 ∨ j = 12 ∨ j = 13 ∨ j = 14 ∨ j = 15 by omega) with rfl | rfl | rfl | rfl | rfl | rfl | rfl | rfl | rfl | rfl | rfl | rfl | rfl | rfl | rfl | rfl <;> rfl
set_option maxHeartbeats 4000000 in
set_option maxRecDepth 100000 in
theorem c_Model (l : Launch) {E : xE} {base : Nat} {al : Tg → Nat} {w : Tg → Option va_E} (hX : w (10, 0, 0) = some (.inr (8, [.int 0, .int 0, .int 0, .null, .null, .int 0, .null, .null, .null, .null, .int 0, .null, .null, .null, .null, .null, .null, .null, .null]))) : xMet l yX7_init cX7_init 1 none ({ frames := 1, cells := 14, slots := 1278, locals := 12 } : Room) E base [.ref (al (10, 0, 0))] (fun H => xH E base al w H) (fun r H => r = none ∧ ∃ (al9 : Tg → Nat) (w9 : Tg → Option va_E) (fr9 : Nat → Int32), xH E base al9 w9 H ∧ MMf E al9 w9 0 0 0 0 0 sg0 (fun _ => false) fr9 ∧ (∀ t : Tg, t.1 ≠ 10 → w9 t = w t ∧ al9 t = al t) ∧ al9 (10, 0, 0) = al (10, 0, 0)) := by
  refine xMet.of (by decide +kernel) "DataroomModel" rfl (Nat.le_of_ble_eq_true rfl) ?_
  intro p9 e9 s m9 below meth c9 ls C hin hP hS hl
  have hx := C.hx
  have hb := C.hb
  have hH := hP
  have hl : lv_has ls 1 [(0, .ref (al (10, 0, 0)))] := hl
  obtain ⟨post, hpost⟩ : ∃ zz9 : Option Value → Heap → Prop, zz9 = (fun r H => r = none ∧ ∃ (al9 : Tg → Nat) (w9 : Tg → Option va_E) (fr9 : Nat → Int32), xH E base al9 w9 H ∧ MMf E al9 w9 0 0 0 0 0 sg0 (fun _ => false) fr9 ∧ (∀ t : Tg, t.1 ≠ 10 → w9 t = w t ∧ al9 t = al t) ∧ al9 (10, 0, 0) = al (10, 0, 0)) := ⟨_, rfl⟩
  rw [← hpost]
  generalize hQ : (MQ below (xQ base post) ([.ref (al (10, 0, 0))] : List Value).toArray s 14 1278 (xA base)) = Q
  refine lv_aload_n hx hb dX7_init_0 rfl (lv_at hl 0 rfl) ?_
  refine x_init C qw_695 qw_31 qw_32 hl.1 dX7_init_1 (Nat.le_of_ble_eq_true rfl) (Nat.le_of_ble_eq_true rfl) ?_
  refine lv_aload_n hx hb dX7_init_4 rfl (lv_at hl 0 rfl) ?_
  refine lv_bipush (v := nI 16) hx hb dX7_init_5 (by decide +kernel) ?_
  refine x_newa C hH hS (10, 3, 0) 0 (atype := .int) qw_73 rfl rfl (fun _ h => by cases h) (a0 := (16, .inl (fun _ => 0))) (fun cA => rfl) rfl (by omega) (by decide) (by decide) (by decide) dX7_init_7 (fun G1_ hH hS => ?_)
  obtain ⟨q_1, hq_1⟩ : ∃ zz9 : Nat, zz9 = xa al (10, 3, 0) s.heap.size (10, 3, 0) := ⟨_, rfl⟩
  obtain ⟨alq_1, halq_1⟩ : ∃ zz9 : Tg → Nat, zz9 = xa al (10, 3, 0) s.heap.size := ⟨_, rfl⟩
  rw [← halq_1] at hH
  rw [← hq_1]
  have ad_2 : alq_1 (10, 0, 0) = al (10, 0, 0) := by rw [halq_1, xa_ne (by simp)]
  have hX := xu_of (t := (10, 3, 0)) (e := .inl (E.2.1 0, 16, .inl (fun _ => 0))) (by simp) hX
  have ad_4 : alq_1 (10, 3, 0) = q_1 := by rw [halq_1, hq_1]
  have hn_3 : (xu w (10, 3, 0) (.inl (E.2.1 0, 16, .inl (fun _ => 0)))) (10, 3, 0) = some (.inl (E.2.1 0, 16, .inl (fun _ => 0))) := xu_self _ _ _
  refine lv_adr2 (ad_2).symm ?_
  refine x_putF C hH hS (ci := 8) (T := TX7) (N := 19) (fs' := [.int 0, .int 0, .int 0, .ref q_1, .null, .int 0, .null, .null, .null, .null, .int 0, .null, .null, .null, .null, .null, .null, .null, .null]) hX rfl iWX7 tyX7 tyX7_ok nmX7 3 (by decide) qw_699 rfl rfl hin rfl rfl rfl (Nat.le_of_ble_eq_true rfl) rfl dX7_init_9 (fun H locs hH hS => ?_)
  have hn_3 := xu_of (t := (10, 0, 0)) (e := .inr (8, [.int 0, .int 0, .int 0, .ref q_1, .null, .int 0, .null, .null, .null, .null, .int 0, .null, .null, .null, .null, .null, .null, .null, .null])) (by simp) hn_3
  have hX : (xu (xu w (10, 3, 0) (.inl (E.2.1 0, 16, .inl (fun _ => 0)))) (10, 0, 0) (.inr (8, [.int 0, .int 0, .int 0, .ref q_1, .null, .int 0, .null, .null, .null, .null, .int 0, .null, .null, .null, .null, .null, .null, .null, .null]))) (10, 0, 0) = some (.inr (8, [.int 0, .int 0, .int 0, .ref q_1, .null, .int 0, .null, .null, .null, .null, .int 0, .null, .null, .null, .null, .null, .null, .null, .null])) := xu_self _ _ _
  have fr_6 : ∀ t : Tg, t.1 ≠ 10 → (xu (xu w (10, 3, 0) (.inl (E.2.1 0, 16, .inl (fun _ => 0)))) (10, 0, 0) (.inr (8, [.int 0, .int 0, .int 0, .ref q_1, .null, .int 0, .null, .null, .null, .null, .int 0, .null, .null, .null, .null, .null, .null, .null, .null]))) t = w t ∧ alq_1 t = al t := fun t ht => ⟨by rw [xu_ne (fun e => ht (by rw [e])), xu_ne (fun e => ht (by rw [e]))], by rw [halq_1, xa_ne (fun e => ht (by rw [e]))]⟩
  obtain ⟨w_5, hw_5⟩ : ∃ zz9, zz9 = (xu (xu w (10, 3, 0) (.inl (E.2.1 0, 16, .inl (fun _ => 0)))) (10, 0, 0) (.inr (8, [.int 0, .int 0, .int 0, .ref q_1, .null, .int 0, .null, .null, .null, .null, .int 0, .null, .null, .null, .null, .null, .null, .null, .null]))) := ⟨_, rfl⟩
  rw [← hw_5] at hH fr_6 hX hn_3
  refine lv_aload_n hx hb dX7_init_12 rfl (lv_at hl 0 rfl) ?_
  refine lv_bipush (v := nI 16) hx hb dX7_init_13 (by decide +kernel) ?_
  refine x_newa C hH hS (10, 4, 0) 0 (atype := .int) qw_73 rfl rfl (fun _ h => by cases h) (a0 := (16, .inl (fun _ => 0))) (fun cA => rfl) rfl (by omega) (by decide) (by decide) (by decide) dX7_init_15 (fun G7_ hH hS => ?_)
  obtain ⟨q_7, hq_7⟩ : ∃ zz9 : Nat, zz9 = xa alq_1 (10, 4, 0) H.size (10, 4, 0) := ⟨_, rfl⟩
  obtain ⟨alq_7, halq_7⟩ : ∃ zz9 : Tg → Nat, zz9 = xa alq_1 (10, 4, 0) H.size := ⟨_, rfl⟩
  rw [← halq_7] at hH
  rw [← hq_7]
  have ad_8 : alq_7 (10, 0, 0) = al (10, 0, 0) := by rw [halq_7, xa_ne (by simp)]; exact ((ad_2).symm).symm
  have hX := xu_of (t := (10, 4, 0)) (e := .inl (E.2.1 0, 16, .inl (fun _ => 0))) (by simp) hX
  have ad_9 : alq_7 (10, 3, 0) = q_1 := by rw [halq_7, xa_ne (by simp)]; exact ((ad_4).symm).symm
  have hn_3 := xu_of (t := (10, 4, 0)) (e := .inl (E.2.1 0, 16, .inl (fun _ => 0))) (by simp) hn_3
  have ad_11 : alq_7 (10, 4, 0) = q_7 := by rw [halq_7, hq_7]
  have hn_10 : (xu w_5 (10, 4, 0) (.inl (E.2.1 0, 16, .inl (fun _ => 0)))) (10, 4, 0) = some (.inl (E.2.1 0, 16, .inl (fun _ => 0))) := xu_self _ _ _
  refine lv_dup hx hb dX7_init_17 rfl ?_
  refine lv_iconst (v := nI 0) hx hb dX7_init_18 (by decide +kernel) ?_
  refine lv_iconst (v := (-1)) hx hb dX7_init_19 (by decide +kernel) ?_
  refine lv_adr3 (ad_11).symm ?_
  refine x_iast C hH hS hn_10 (j := 0) rfl (by omega) (by omega) dX7_init_20 (fun H locs hH hS => ?_)
  have hX := xu_of (t := (10, 4, 0)) (e := .inl (E.2.1 0, 16, .inl (upd (fun _ => 0) 0 (-1)))) (by simp) hX
  have hn_3 := xu_of (t := (10, 4, 0)) (e := .inl (E.2.1 0, 16, .inl (upd (fun _ => 0) 0 (-1)))) (by simp) hn_3
  have hn_10 : (xu (xu w_5 (10, 4, 0) (.inl (E.2.1 0, 16, .inl (fun _ => 0)))) (10, 4, 0) (.inl (E.2.1 0, 16, .inl (upd (fun _ => 0) 0 (-1))))) (10, 4, 0) = some (.inl (E.2.1 0, 16, .inl (upd (fun _ => 0) 0 (-1)))) := xu_self _ _ _
  refine lv_dup hx hb dX7_init_21 rfl ?_
  refine lv_iconst (v := nI 1) hx hb dX7_init_22 (by decide +kernel) ?_
  refine lv_iconst (v := (-1)) hx hb dX7_init_23 (by decide +kernel) ?_
  refine lv_adr3 (ad_11).symm ?_
  refine x_iast C hH hS hn_10 (j := 1) rfl (by omega) (by omega) dX7_init_24 (fun H locs hH hS => ?_)
  have hX := xu_of (t := (10, 4, 0)) (e := .inl (E.2.1 0, 16, .inl (upd (upd (fun _ => 0) 0 (-1)) 1 (-1)))) (by simp) hX
  have hn_3 := xu_of (t := (10, 4, 0)) (e := .inl (E.2.1 0, 16, .inl (upd (upd (fun _ => 0) 0 (-1)) 1 (-1)))) (by simp) hn_3
  have hn_10 : (xu (xu (xu w_5 (10, 4, 0) (.inl (E.2.1 0, 16, .inl (fun _ => 0)))) (10, 4, 0) (.inl (E.2.1 0, 16, .inl (upd (fun _ => 0) 0 (-1))))) (10, 4, 0) (.inl (E.2.1 0, 16, .inl (upd (upd (fun _ => 0) 0 (-1)) 1 (-1))))) (10, 4, 0) = some (.inl (E.2.1 0, 16, .inl (upd (upd (fun _ => 0) 0 (-1)) 1 (-1)))) := xu_self _ _ _
  refine lv_dup hx hb dX7_init_25 rfl ?_
  refine lv_iconst (v := nI 2) hx hb dX7_init_26 (by decide +kernel) ?_
  refine lv_iconst (v := (-1)) hx hb dX7_init_27 (by decide +kernel) ?_
  refine lv_adr3 (ad_11).symm ?_
  refine x_iast C hH hS hn_10 (j := 2) rfl (by omega) (by omega) dX7_init_28 (fun H locs hH hS => ?_)
  have hX := xu_of (t := (10, 4, 0)) (e := .inl (E.2.1 0, 16, .inl (upd (upd (upd (fun _ => 0) 0 (-1)) 1 (-1)) 2 (-1)))) (by simp) hX
  have hn_3 := xu_of (t := (10, 4, 0)) (e := .inl (E.2.1 0, 16, .inl (upd (upd (upd (fun _ => 0) 0 (-1)) 1 (-1)) 2 (-1)))) (by simp) hn_3
  have hn_10 : (xu (xu (xu (xu w_5 (10, 4, 0) (.inl (E.2.1 0, 16, .inl (fun _ => 0)))) (10, 4, 0) (.inl (E.2.1 0, 16, .inl (upd (fun _ => 0) 0 (-1))))) (10, 4, 0) (.inl (E.2.1 0, 16, .inl (upd (upd (fun _ => 0) 0 (-1)) 1 (-1))))) (10, 4, 0) (.inl (E.2.1 0, 16, .inl (upd (upd (upd (fun _ => 0) 0 (-1)) 1 (-1)) 2 (-1))))) (10, 4, 0) = some (.inl (E.2.1 0, 16, .inl (upd (upd (upd (fun _ => 0) 0 (-1)) 1 (-1)) 2 (-1)))) := xu_self _ _ _
  refine lv_dup hx hb dX7_init_29 rfl ?_
  refine lv_iconst (v := nI 3) hx hb dX7_init_30 (by decide +kernel) ?_
  refine lv_iconst (v := (-1)) hx hb dX7_init_31 (by decide +kernel) ?_
  refine lv_adr3 (ad_11).symm ?_
  refine x_iast C hH hS hn_10 (j := 3) rfl (by omega) (by omega) dX7_init_32 (fun H locs hH hS => ?_)
  have hX := xu_of (t := (10, 4, 0)) (e := .inl (E.2.1 0, 16, .inl (upd (upd (upd (upd (fun _ => 0) 0 (-1)) 1 (-1)) 2 (-1)) 3 (-1)))) (by simp) hX
  have hn_3 := xu_of (t := (10, 4, 0)) (e := .inl (E.2.1 0, 16, .inl (upd (upd (upd (upd (fun _ => 0) 0 (-1)) 1 (-1)) 2 (-1)) 3 (-1)))) (by simp) hn_3
  have hn_10 : (xu (xu (xu (xu (xu w_5 (10, 4, 0) (.inl (E.2.1 0, 16, .inl (fun _ => 0)))) (10, 4, 0) (.inl (E.2.1 0, 16, .inl (upd (fun _ => 0) 0 (-1))))) (10, 4, 0) (.inl (E.2.1 0, 16, .inl (upd (upd (fun _ => 0) 0 (-1)) 1 (-1))))) (10, 4, 0) (.inl (E.2.1 0, 16, .inl (upd (upd (upd (fun _ => 0) 0 (-1)) 1 (-1)) 2 (-1))))) (10, 4, 0) (.inl (E.2.1 0, 16, .inl (upd (upd (upd (upd (fun _ => 0) 0 (-1)) 1 (-1)) 2 (-1)) 3 (-1))))) (10, 4, 0) = some (.inl (E.2.1 0, 16, .inl (upd (upd (upd (upd (fun _ => 0) 0 (-1)) 1 (-1)) 2 (-1)) 3 (-1)))) := xu_self _ _ _
  refine lv_dup hx hb dX7_init_33 rfl ?_
  refine lv_iconst (v := nI 4) hx hb dX7_init_34 (by decide +kernel) ?_
  refine lv_iconst (v := (-1)) hx hb dX7_init_35 (by decide +kernel) ?_
  refine lv_adr3 (ad_11).symm ?_
  refine x_iast C hH hS hn_10 (j := 4) rfl (by omega) (by omega) dX7_init_36 (fun H locs hH hS => ?_)
  have hX := xu_of (t := (10, 4, 0)) (e := .inl (E.2.1 0, 16, .inl (upd (upd (upd (upd (upd (fun _ => 0) 0 (-1)) 1 (-1)) 2 (-1)) 3 (-1)) 4 (-1)))) (by simp) hX
  have hn_3 := xu_of (t := (10, 4, 0)) (e := .inl (E.2.1 0, 16, .inl (upd (upd (upd (upd (upd (fun _ => 0) 0 (-1)) 1 (-1)) 2 (-1)) 3 (-1)) 4 (-1)))) (by simp) hn_3
  have hn_10 : (xu (xu (xu (xu (xu (xu w_5 (10, 4, 0) (.inl (E.2.1 0, 16, .inl (fun _ => 0)))) (10, 4, 0) (.inl (E.2.1 0, 16, .inl (upd (fun _ => 0) 0 (-1))))) (10, 4, 0) (.inl (E.2.1 0, 16, .inl (upd (upd (fun _ => 0) 0 (-1)) 1 (-1))))) (10, 4, 0) (.inl (E.2.1 0, 16, .inl (upd (upd (upd (fun _ => 0) 0 (-1)) 1 (-1)) 2 (-1))))) (10, 4, 0) (.inl (E.2.1 0, 16, .inl (upd (upd (upd (upd (fun _ => 0) 0 (-1)) 1 (-1)) 2 (-1)) 3 (-1))))) (10, 4, 0) (.inl (E.2.1 0, 16, .inl (upd (upd (upd (upd (upd (fun _ => 0) 0 (-1)) 1 (-1)) 2 (-1)) 3 (-1)) 4 (-1))))) (10, 4, 0) = some (.inl (E.2.1 0, 16, .inl (upd (upd (upd (upd (upd (fun _ => 0) 0 (-1)) 1 (-1)) 2 (-1)) 3 (-1)) 4 (-1)))) := xu_self _ _ _
  refine lv_dup hx hb dX7_init_37 rfl ?_
  refine lv_iconst (v := nI 5) hx hb dX7_init_38 (by decide +kernel) ?_
  refine lv_iconst (v := (-1)) hx hb dX7_init_39 (by decide +kernel) ?_
  refine lv_adr3 (ad_11).symm ?_
  refine x_iast C hH hS hn_10 (j := 5) rfl (by omega) (by omega) dX7_init_40 (fun H locs hH hS => ?_)
  have hX := xu_of (t := (10, 4, 0)) (e := .inl (E.2.1 0, 16, .inl (upd (upd (upd (upd (upd (upd (fun _ => 0) 0 (-1)) 1 (-1)) 2 (-1)) 3 (-1)) 4 (-1)) 5 (-1)))) (by simp) hX
  have hn_3 := xu_of (t := (10, 4, 0)) (e := .inl (E.2.1 0, 16, .inl (upd (upd (upd (upd (upd (upd (fun _ => 0) 0 (-1)) 1 (-1)) 2 (-1)) 3 (-1)) 4 (-1)) 5 (-1)))) (by simp) hn_3
  have hn_10 : (xu (xu (xu (xu (xu (xu (xu w_5 (10, 4, 0) (.inl (E.2.1 0, 16, .inl (fun _ => 0)))) (10, 4, 0) (.inl (E.2.1 0, 16, .inl (upd (fun _ => 0) 0 (-1))))) (10, 4, 0) (.inl (E.2.1 0, 16, .inl (upd (upd (fun _ => 0) 0 (-1)) 1 (-1))))) (10, 4, 0) (.inl (E.2.1 0, 16, .inl (upd (upd (upd (fun _ => 0) 0 (-1)) 1 (-1)) 2 (-1))))) (10, 4, 0) (.inl (E.2.1 0, 16, .inl (upd (upd (upd (upd (fun _ => 0) 0 (-1)) 1 (-1)) 2 (-1)) 3 (-1))))) (10, 4, 0) (.inl (E.2.1 0, 16, .inl (upd (upd (upd (upd (upd (fun _ => 0) 0 (-1)) 1 (-1)) 2 (-1)) 3 (-1)) 4 (-1))))) (10, 4, 0) (.inl (E.2.1 0, 16, .inl (upd (upd (upd (upd (upd (upd (fun _ => 0) 0 (-1)) 1 (-1)) 2 (-1)) 3 (-1)) 4 (-1)) 5 (-1))))) (10, 4, 0) = some (.inl (E.2.1 0, 16, .inl (upd (upd (upd (upd (upd (upd (fun _ => 0) 0 (-1)) 1 (-1)) 2 (-1)) 3 (-1)) 4 (-1)) 5 (-1)))) := xu_self _ _ _
  refine lv_dup hx hb dX7_init_41 rfl ?_
  refine lv_bipush (v := nI 6) hx hb dX7_init_42 (by decide +kernel) ?_
  refine lv_iconst (v := (-1)) hx hb dX7_init_44 (by decide +kernel) ?_
  refine lv_adr3 (ad_11).symm ?_
  refine x_iast C hH hS hn_10 (j := 6) rfl (by omega) (by omega) dX7_init_45 (fun H locs hH hS => ?_)
  have hX := xu_of (t := (10, 4, 0)) (e := .inl (E.2.1 0, 16, .inl (upd (upd (upd (upd (upd (upd (upd (fun _ => 0) 0 (-1)) 1 (-1)) 2 (-1)) 3 (-1)) 4 (-1)) 5 (-1)) 6 (-1)))) (by simp) hX
  have hn_3 := xu_of (t := (10, 4, 0)) (e := .inl (E.2.1 0, 16, .inl (upd (upd (upd (upd (upd (upd (upd (fun _ => 0) 0 (-1)) 1 (-1)) 2 (-1)) 3 (-1)) 4 (-1)) 5 (-1)) 6 (-1)))) (by simp) hn_3
  have hn_10 : (xu (xu (xu (xu (xu (xu (xu (xu w_5 (10, 4, 0) (.inl (E.2.1 0, 16, .inl (fun _ => 0)))) (10, 4, 0) (.inl (E.2.1 0, 16, .inl (upd (fun _ => 0) 0 (-1))))) (10, 4, 0) (.inl (E.2.1 0, 16, .inl (upd (upd (fun _ => 0) 0 (-1)) 1 (-1))))) (10, 4, 0) (.inl (E.2.1 0, 16, .inl (upd (upd (upd (fun _ => 0) 0 (-1)) 1 (-1)) 2 (-1))))) (10, 4, 0) (.inl (E.2.1 0, 16, .inl (upd (upd (upd (upd (fun _ => 0) 0 (-1)) 1 (-1)) 2 (-1)) 3 (-1))))) (10, 4, 0) (.inl (E.2.1 0, 16, .inl (upd (upd (upd (upd (upd (fun _ => 0) 0 (-1)) 1 (-1)) 2 (-1)) 3 (-1)) 4 (-1))))) (10, 4, 0) (.inl (E.2.1 0, 16, .inl (upd (upd (upd (upd (upd (upd (fun _ => 0) 0 (-1)) 1 (-1)) 2 (-1)) 3 (-1)) 4 (-1)) 5 (-1))))) (10, 4, 0) (.inl (E.2.1 0, 16, .inl (upd (upd (upd (upd (upd (upd (upd (fun _ => 0) 0 (-1)) 1 (-1)) 2 (-1)) 3 (-1)) 4 (-1)) 5 (-1)) 6 (-1))))) (10, 4, 0) = some (.inl (E.2.1 0, 16, .inl (upd (upd (upd (upd (upd (upd (upd (fun _ => 0) 0 (-1)) 1 (-1)) 2 (-1)) 3 (-1)) 4 (-1)) 5 (-1)) 6 (-1)))) := xu_self _ _ _
  refine lv_dup hx hb dX7_init_46 rfl ?_
  refine lv_bipush (v := nI 7) hx hb dX7_init_47 (by decide +kernel) ?_
  refine lv_iconst (v := (-1)) hx hb dX7_init_49 (by decide +kernel) ?_
  refine lv_adr3 (ad_11).symm ?_
  refine x_iast C hH hS hn_10 (j := 7) rfl (by omega) (by omega) dX7_init_50 (fun H locs hH hS => ?_)
  have hX := xu_of (t := (10, 4, 0)) (e := .inl (E.2.1 0, 16, .inl (upd (upd (upd (upd (upd (upd (upd (upd (fun _ => 0) 0 (-1)) 1 (-1)) 2 (-1)) 3 (-1)) 4 (-1)) 5 (-1)) 6 (-1)) 7 (-1)))) (by simp) hX
  have hn_3 := xu_of (t := (10, 4, 0)) (e := .inl (E.2.1 0, 16, .inl (upd (upd (upd (upd (upd (upd (upd (upd (fun _ => 0) 0 (-1)) 1 (-1)) 2 (-1)) 3 (-1)) 4 (-1)) 5 (-1)) 6 (-1)) 7 (-1)))) (by simp) hn_3
  have hn_10 : (xu (xu (xu (xu (xu (xu (xu (xu (xu w_5 (10, 4, 0) (.inl (E.2.1 0, 16, .inl (fun _ => 0)))) (10, 4, 0) (.inl (E.2.1 0, 16, .inl (upd (fun _ => 0) 0 (-1))))) (10, 4, 0) (.inl (E.2.1 0, 16, .inl (upd (upd (fun _ => 0) 0 (-1)) 1 (-1))))) (10, 4, 0) (.inl (E.2.1 0, 16, .inl (upd (upd (upd (fun _ => 0) 0 (-1)) 1 (-1)) 2 (-1))))) (10, 4, 0) (.inl (E.2.1 0, 16, .inl (upd (upd (upd (upd (fun _ => 0) 0 (-1)) 1 (-1)) 2 (-1)) 3 (-1))))) (10, 4, 0) (.inl (E.2.1 0, 16, .inl (upd (upd (upd (upd (upd (fun _ => 0) 0 (-1)) 1 (-1)) 2 (-1)) 3 (-1)) 4 (-1))))) (10, 4, 0) (.inl (E.2.1 0, 16, .inl (upd (upd (upd (upd (upd (upd (fun _ => 0) 0 (-1)) 1 (-1)) 2 (-1)) 3 (-1)) 4 (-1)) 5 (-1))))) (10, 4, 0) (.inl (E.2.1 0, 16, .inl (upd (upd (upd (upd (upd (upd (upd (fun _ => 0) 0 (-1)) 1 (-1)) 2 (-1)) 3 (-1)) 4 (-1)) 5 (-1)) 6 (-1))))) (10, 4, 0) (.inl (E.2.1 0, 16, .inl (upd (upd (upd (upd (upd (upd (upd (upd (fun _ => 0) 0 (-1)) 1 (-1)) 2 (-1)) 3 (-1)) 4 (-1)) 5 (-1)) 6 (-1)) 7 (-1))))) (10, 4, 0) = some (.inl (E.2.1 0, 16, .inl (upd (upd (upd (upd (upd (upd (upd (upd (fun _ => 0) 0 (-1)) 1 (-1)) 2 (-1)) 3 (-1)) 4 (-1)) 5 (-1)) 6 (-1)) 7 (-1)))) := xu_self _ _ _
  refine lv_dup hx hb dX7_init_51 rfl ?_
  refine lv_bipush (v := nI 8) hx hb dX7_init_52 (by decide +kernel) ?_
  refine lv_iconst (v := (-1)) hx hb dX7_init_54 (by decide +kernel) ?_
  refine lv_adr3 (ad_11).symm ?_
  refine x_iast C hH hS hn_10 (j := 8) rfl (by omega) (by omega) dX7_init_55 (fun H locs hH hS => ?_)
  have hX := xu_of (t := (10, 4, 0)) (e := .inl (E.2.1 0, 16, .inl (upd (upd (upd (upd (upd (upd (upd (upd (upd (fun _ => 0) 0 (-1)) 1 (-1)) 2 (-1)) 3 (-1)) 4 (-1)) 5 (-1)) 6 (-1)) 7 (-1)) 8 (-1)))) (by simp) hX
  have hn_3 := xu_of (t := (10, 4, 0)) (e := .inl (E.2.1 0, 16, .inl (upd (upd (upd (upd (upd (upd (upd (upd (upd (fun _ => 0) 0 (-1)) 1 (-1)) 2 (-1)) 3 (-1)) 4 (-1)) 5 (-1)) 6 (-1)) 7 (-1)) 8 (-1)))) (by simp) hn_3
  have hn_10 : (xu (xu (xu (xu (xu (xu (xu (xu (xu (xu w_5 (10, 4, 0) (.inl (E.2.1 0, 16, .inl (fun _ => 0)))) (10, 4, 0) (.inl (E.2.1 0, 16, .inl (upd (fun _ => 0) 0 (-1))))) (10, 4, 0) (.inl (E.2.1 0, 16, .inl (upd (upd (fun _ => 0) 0 (-1)) 1 (-1))))) (10, 4, 0) (.inl (E.2.1 0, 16, .inl (upd (upd (upd (fun _ => 0) 0 (-1)) 1 (-1)) 2 (-1))))) (10, 4, 0) (.inl (E.2.1 0, 16, .inl (upd (upd (upd (upd (fun _ => 0) 0 (-1)) 1 (-1)) 2 (-1)) 3 (-1))))) (10, 4, 0) (.inl (E.2.1 0, 16, .inl (upd (upd (upd (upd (upd (fun _ => 0) 0 (-1)) 1 (-1)) 2 (-1)) 3 (-1)) 4 (-1))))) (10, 4, 0) (.inl (E.2.1 0, 16, .inl (upd (upd (upd (upd (upd (upd (fun _ => 0) 0 (-1)) 1 (-1)) 2 (-1)) 3 (-1)) 4 (-1)) 5 (-1))))) (10, 4, 0) (.inl (E.2.1 0, 16, .inl (upd (upd (upd (upd (upd (upd (upd (fun _ => 0) 0 (-1)) 1 (-1)) 2 (-1)) 3 (-1)) 4 (-1)) 5 (-1)) 6 (-1))))) (10, 4, 0) (.inl (E.2.1 0, 16, .inl (upd (upd (upd (upd (upd (upd (upd (upd (fun _ => 0) 0 (-1)) 1 (-1)) 2 (-1)) 3 (-1)) 4 (-1)) 5 (-1)) 6 (-1)) 7 (-1))))) (10, 4, 0) (.inl (E.2.1 0, 16, .inl (upd (upd (upd (upd (upd (upd (upd (upd (upd (fun _ => 0) 0 (-1)) 1 (-1)) 2 (-1)) 3 (-1)) 4 (-1)) 5 (-1)) 6 (-1)) 7 (-1)) 8 (-1))))) (10, 4, 0) = some (.inl (E.2.1 0, 16, .inl (upd (upd (upd (upd (upd (upd (upd (upd (upd (fun _ => 0) 0 (-1)) 1 (-1)) 2 (-1)) 3 (-1)) 4 (-1)) 5 (-1)) 6 (-1)) 7 (-1)) 8 (-1)))) := xu_self _ _ _
  refine lv_dup hx hb dX7_init_56 rfl ?_
  refine lv_bipush (v := nI 9) hx hb dX7_init_57 (by decide +kernel) ?_
  refine lv_iconst (v := (-1)) hx hb dX7_init_59 (by decide +kernel) ?_
  refine lv_adr3 (ad_11).symm ?_
  refine x_iast C hH hS hn_10 (j := 9) rfl (by omega) (by omega) dX7_init_60 (fun H locs hH hS => ?_)
  have hX := xu_of (t := (10, 4, 0)) (e := .inl (E.2.1 0, 16, .inl (upd (upd (upd (upd (upd (upd (upd (upd (upd (upd (fun _ => 0) 0 (-1)) 1 (-1)) 2 (-1)) 3 (-1)) 4 (-1)) 5 (-1)) 6 (-1)) 7 (-1)) 8 (-1)) 9 (-1)))) (by simp) hX
  have hn_3 := xu_of (t := (10, 4, 0)) (e := .inl (E.2.1 0, 16, .inl (upd (upd (upd (upd (upd (upd (upd (upd (upd (upd (fun _ => 0) 0 (-1)) 1 (-1)) 2 (-1)) 3 (-1)) 4 (-1)) 5 (-1)) 6 (-1)) 7 (-1)) 8 (-1)) 9 (-1)))) (by simp) hn_3
  have hn_10 : (xu (xu (xu (xu (xu (xu (xu (xu (xu (xu (xu w_5 (10, 4, 0) (.inl (E.2.1 0, 16, .inl (fun _ => 0)))) (10, 4, 0) (.inl (E.2.1 0, 16, .inl (upd (fun _ => 0) 0 (-1))))) (10, 4, 0) (.inl (E.2.1 0, 16, .inl (upd (upd (fun _ => 0) 0 (-1)) 1 (-1))))) (10, 4, 0) (.inl (E.2.1 0, 16, .inl (upd (upd (upd (fun _ => 0) 0 (-1)) 1 (-1)) 2 (-1))))) (10, 4, 0) (.inl (E.2.1 0, 16, .inl (upd (upd (upd (upd (fun _ => 0) 0 (-1)) 1 (-1)) 2 (-1)) 3 (-1))))) (10, 4, 0) (.inl (E.2.1 0, 16, .inl (upd (upd (upd (upd (upd (fun _ => 0) 0 (-1)) 1 (-1)) 2 (-1)) 3 (-1)) 4 (-1))))) (10, 4, 0) (.inl (E.2.1 0, 16, .inl (upd (upd (upd (upd (upd (upd (fun _ => 0) 0 (-1)) 1 (-1)) 2 (-1)) 3 (-1)) 4 (-1)) 5 (-1))))) (10, 4, 0) (.inl (E.2.1 0, 16, .inl (upd (upd (upd (upd (upd (upd (upd (fun _ => 0) 0 (-1)) 1 (-1)) 2 (-1)) 3 (-1)) 4 (-1)) 5 (-1)) 6 (-1))))) (10, 4, 0) (.inl (E.2.1 0, 16, .inl (upd (upd (upd (upd (upd (upd (upd (upd (fun _ => 0) 0 (-1)) 1 (-1)) 2 (-1)) 3 (-1)) 4 (-1)) 5 (-1)) 6 (-1)) 7 (-1))))) (10, 4, 0) (.inl (E.2.1 0, 16, .inl (upd (upd (upd (upd (upd (upd (upd (upd (upd (fun _ => 0) 0 (-1)) 1 (-1)) 2 (-1)) 3 (-1)) 4 (-1)) 5 (-1)) 6 (-1)) 7 (-1)) 8 (-1))))) (10, 4, 0) (.inl (E.2.1 0, 16, .inl (upd (upd (upd (upd (upd (upd (upd (upd (upd (upd (fun _ => 0) 0 (-1)) 1 (-1)) 2 (-1)) 3 (-1)) 4 (-1)) 5 (-1)) 6 (-1)) 7 (-1)) 8 (-1)) 9 (-1))))) (10, 4, 0) = some (.inl (E.2.1 0, 16, .inl (upd (upd (upd (upd (upd (upd (upd (upd (upd (upd (fun _ => 0) 0 (-1)) 1 (-1)) 2 (-1)) 3 (-1)) 4 (-1)) 5 (-1)) 6 (-1)) 7 (-1)) 8 (-1)) 9 (-1)))) := xu_self _ _ _
  refine lv_dup hx hb dX7_init_61 rfl ?_
  refine lv_bipush (v := nI 10) hx hb dX7_init_62 (by decide +kernel) ?_
  refine lv_iconst (v := (-1)) hx hb dX7_init_64 (by decide +kernel) ?_
  refine lv_adr3 (ad_11).symm ?_
  refine x_iast C hH hS hn_10 (j := 10) rfl (by omega) (by omega) dX7_init_65 (fun H locs hH hS => ?_)
  have hX := xu_of (t := (10, 4, 0)) (e := .inl (E.2.1 0, 16, .inl (upd (upd (upd (upd (upd (upd (upd (upd (upd (upd (upd (fun _ => 0) 0 (-1)) 1 (-1)) 2 (-1)) 3 (-1)) 4 (-1)) 5 (-1)) 6 (-1)) 7 (-1)) 8 (-1)) 9 (-1)) 10 (-1)))) (by simp) hX
  have hn_3 := xu_of (t := (10, 4, 0)) (e := .inl (E.2.1 0, 16, .inl (upd (upd (upd (upd (upd (upd (upd (upd (upd (upd (upd (fun _ => 0) 0 (-1)) 1 (-1)) 2 (-1)) 3 (-1)) 4 (-1)) 5 (-1)) 6 (-1)) 7 (-1)) 8 (-1)) 9 (-1)) 10 (-1)))) (by simp) hn_3
  have hn_10 : (xu (xu (xu (xu (xu (xu (xu (xu (xu (xu (xu (xu w_5 (10, 4, 0) (.inl (E.2.1 0, 16, .inl (fun _ => 0)))) (10, 4, 0) (.inl (E.2.1 0, 16, .inl (upd (fun _ => 0) 0 (-1))))) (10, 4, 0) (.inl (E.2.1 0, 16, .inl (upd (upd (fun _ => 0) 0 (-1)) 1 (-1))))) (10, 4, 0) (.inl (E.2.1 0, 16, .inl (upd (upd (upd (fun _ => 0) 0 (-1)) 1 (-1)) 2 (-1))))) (10, 4, 0) (.inl (E.2.1 0, 16, .inl (upd (upd (upd (upd (fun _ => 0) 0 (-1)) 1 (-1)) 2 (-1)) 3 (-1))))) (10, 4, 0) (.inl (E.2.1 0, 16, .inl (upd (upd (upd (upd (upd (fun _ => 0) 0 (-1)) 1 (-1)) 2 (-1)) 3 (-1)) 4 (-1))))) (10, 4, 0) (.inl (E.2.1 0, 16, .inl (upd (upd (upd (upd (upd (upd (fun _ => 0) 0 (-1)) 1 (-1)) 2 (-1)) 3 (-1)) 4 (-1)) 5 (-1))))) (10, 4, 0) (.inl (E.2.1 0, 16, .inl (upd (upd (upd (upd (upd (upd (upd (fun _ => 0) 0 (-1)) 1 (-1)) 2 (-1)) 3 (-1)) 4 (-1)) 5 (-1)) 6 (-1))))) (10, 4, 0) (.inl (E.2.1 0, 16, .inl (upd (upd (upd (upd (upd (upd (upd (upd (fun _ => 0) 0 (-1)) 1 (-1)) 2 (-1)) 3 (-1)) 4 (-1)) 5 (-1)) 6 (-1)) 7 (-1))))) (10, 4, 0) (.inl (E.2.1 0, 16, .inl (upd (upd (upd (upd (upd (upd (upd (upd (upd (fun _ => 0) 0 (-1)) 1 (-1)) 2 (-1)) 3 (-1)) 4 (-1)) 5 (-1)) 6 (-1)) 7 (-1)) 8 (-1))))) (10, 4, 0) (.inl (E.2.1 0, 16, .inl (upd (upd (upd (upd (upd (upd (upd (upd (upd (upd (fun _ => 0) 0 (-1)) 1 (-1)) 2 (-1)) 3 (-1)) 4 (-1)) 5 (-1)) 6 (-1)) 7 (-1)) 8 (-1)) 9 (-1))))) (10, 4, 0) (.inl (E.2.1 0, 16, .inl (upd (upd (upd (upd (upd (upd (upd (upd (upd (upd (upd (fun _ => 0) 0 (-1)) 1 (-1)) 2 (-1)) 3 (-1)) 4 (-1)) 5 (-1)) 6 (-1)) 7 (-1)) 8 (-1)) 9 (-1)) 10 (-1))))) (10, 4, 0) = some (.inl (E.2.1 0, 16, .inl (upd (upd (upd (upd (upd (upd (upd (upd (upd (upd (upd (fun _ => 0) 0 (-1)) 1 (-1)) 2 (-1)) 3 (-1)) 4 (-1)) 5 (-1)) 6 (-1)) 7 (-1)) 8 (-1)) 9 (-1)) 10 (-1)))) := xu_self _ _ _
  refine lv_dup hx hb dX7_init_66 rfl ?_
  refine lv_bipush (v := nI 11) hx hb dX7_init_67 (by decide +kernel) ?_
  refine lv_iconst (v := (-1)) hx hb dX7_init_69 (by decide +kernel) ?_
  refine lv_adr3 (ad_11).symm ?_
  refine x_iast C hH hS hn_10 (j := 11) rfl (by omega) (by omega) dX7_init_70 (fun H locs hH hS => ?_)
  have hX := xu_of (t := (10, 4, 0)) (e := .inl (E.2.1 0, 16, .inl (upd (upd (upd (upd (upd (upd (upd (upd (upd (upd (upd (upd (fun _ => 0) 0 (-1)) 1 (-1)) 2 (-1)) 3 (-1)) 4 (-1)) 5 (-1)) 6 (-1)) 7 (-1)) 8 (-1)) 9 (-1)) 10 (-1)) 11 (-1)))) (by simp) hX
  have hn_3 := xu_of (t := (10, 4, 0)) (e := .inl (E.2.1 0, 16, .inl (upd (upd (upd (upd (upd (upd (upd (upd (upd (upd (upd (upd (fun _ => 0) 0 (-1)) 1 (-1)) 2 (-1)) 3 (-1)) 4 (-1)) 5 (-1)) 6 (-1)) 7 (-1)) 8 (-1)) 9 (-1)) 10 (-1)) 11 (-1)))) (by simp) hn_3
  have hn_10 : (xu (xu (xu (xu (xu (xu (xu (xu (xu (xu (xu (xu (xu w_5 (10, 4, 0) (.inl (E.2.1 0, 16, .inl (fun _ => 0)))) (10, 4, 0) (.inl (E.2.1 0, 16, .inl (upd (fun _ => 0) 0 (-1))))) (10, 4, 0) (.inl (E.2.1 0, 16, .inl (upd (upd (fun _ => 0) 0 (-1)) 1 (-1))))) (10, 4, 0) (.inl (E.2.1 0, 16, .inl (upd (upd (upd (fun _ => 0) 0 (-1)) 1 (-1)) 2 (-1))))) (10, 4, 0) (.inl (E.2.1 0, 16, .inl (upd (upd (upd (upd (fun _ => 0) 0 (-1)) 1 (-1)) 2 (-1)) 3 (-1))))) (10, 4, 0) (.inl (E.2.1 0, 16, .inl (upd (upd (upd (upd (upd (fun _ => 0) 0 (-1)) 1 (-1)) 2 (-1)) 3 (-1)) 4 (-1))))) (10, 4, 0) (.inl (E.2.1 0, 16, .inl (upd (upd (upd (upd (upd (upd (fun _ => 0) 0 (-1)) 1 (-1)) 2 (-1)) 3 (-1)) 4 (-1)) 5 (-1))))) (10, 4, 0) (.inl (E.2.1 0, 16, .inl (upd (upd (upd (upd (upd (upd (upd (fun _ => 0) 0 (-1)) 1 (-1)) 2 (-1)) 3 (-1)) 4 (-1)) 5 (-1)) 6 (-1))))) (10, 4, 0) (.inl (E.2.1 0, 16, .inl (upd (upd (upd (upd (upd (upd (upd (upd (fun _ => 0) 0 (-1)) 1 (-1)) 2 (-1)) 3 (-1)) 4 (-1)) 5 (-1)) 6 (-1)) 7 (-1))))) (10, 4, 0) (.inl (E.2.1 0, 16, .inl (upd (upd (upd (upd (upd (upd (upd (upd (upd (fun _ => 0) 0 (-1)) 1 (-1)) 2 (-1)) 3 (-1)) 4 (-1)) 5 (-1)) 6 (-1)) 7 (-1)) 8 (-1))))) (10, 4, 0) (.inl (E.2.1 0, 16, .inl (upd (upd (upd (upd (upd (upd (upd (upd (upd (upd (fun _ => 0) 0 (-1)) 1 (-1)) 2 (-1)) 3 (-1)) 4 (-1)) 5 (-1)) 6 (-1)) 7 (-1)) 8 (-1)) 9 (-1))))) (10, 4, 0) (.inl (E.2.1 0, 16, .inl (upd (upd (upd (upd (upd (upd (upd (upd (upd (upd (upd (fun _ => 0) 0 (-1)) 1 (-1)) 2 (-1)) 3 (-1)) 4 (-1)) 5 (-1)) 6 (-1)) 7 (-1)) 8 (-1)) 9 (-1)) 10 (-1))))) (10, 4, 0) (.inl (E.2.1 0, 16, .inl (upd (upd (upd (upd (upd (upd (upd (upd (upd (upd (upd (upd (fun _ => 0) 0 (-1)) 1 (-1)) 2 (-1)) 3 (-1)) 4 (-1)) 5 (-1)) 6 (-1)) 7 (-1)) 8 (-1)) 9 (-1)) 10 (-1)) 11 (-1))))) (10, 4, 0) = some (.inl (E.2.1 0, 16, .inl (upd (upd (upd (upd (upd (upd (upd (upd (upd (upd (upd (upd (fun _ => 0) 0 (-1)) 1 (-1)) 2 (-1)) 3 (-1)) 4 (-1)) 5 (-1)) 6 (-1)) 7 (-1)) 8 (-1)) 9 (-1)) 10 (-1)) 11 (-1)))) := xu_self _ _ _
  refine lv_dup hx hb dX7_init_71 rfl ?_
  refine lv_bipush (v := nI 12) hx hb dX7_init_72 (by decide +kernel) ?_
  refine lv_iconst (v := (-1)) hx hb dX7_init_74 (by decide +kernel) ?_
  refine lv_adr3 (ad_11).symm ?_
  refine x_iast C hH hS hn_10 (j := 12) rfl (by omega) (by omega) dX7_init_75 (fun H locs hH hS => ?_)
  have hX := xu_of (t := (10, 4, 0)) (e := .inl (E.2.1 0, 16, .inl (upd (upd (upd (upd (upd (upd (upd (upd (upd (upd (upd (upd (upd (fun _ => 0) 0 (-1)) 1 (-1)) 2 (-1)) 3 (-1)) 4 (-1)) 5 (-1)) 6 (-1)) 7 (-1)) 8 (-1)) 9 (-1)) 10 (-1)) 11 (-1)) 12 (-1)))) (by simp) hX
  have hn_3 := xu_of (t := (10, 4, 0)) (e := .inl (E.2.1 0, 16, .inl (upd (upd (upd (upd (upd (upd (upd (upd (upd (upd (upd (upd (upd (fun _ => 0) 0 (-1)) 1 (-1)) 2 (-1)) 3 (-1)) 4 (-1)) 5 (-1)) 6 (-1)) 7 (-1)) 8 (-1)) 9 (-1)) 10 (-1)) 11 (-1)) 12 (-1)))) (by simp) hn_3
  have hn_10 : (xu (xu (xu (xu (xu (xu (xu (xu (xu (xu (xu (xu (xu (xu w_5 (10, 4, 0) (.inl (E.2.1 0, 16, .inl (fun _ => 0)))) (10, 4, 0) (.inl (E.2.1 0, 16, .inl (upd (fun _ => 0) 0 (-1))))) (10, 4, 0) (.inl (E.2.1 0, 16, .inl (upd (upd (fun _ => 0) 0 (-1)) 1 (-1))))) (10, 4, 0) (.inl (E.2.1 0, 16, .inl (upd (upd (upd (fun _ => 0) 0 (-1)) 1 (-1)) 2 (-1))))) (10, 4, 0) (.inl (E.2.1 0, 16, .inl (upd (upd (upd (upd (fun _ => 0) 0 (-1)) 1 (-1)) 2 (-1)) 3 (-1))))) (10, 4, 0) (.inl (E.2.1 0, 16, .inl (upd (upd (upd (upd (upd (fun _ => 0) 0 (-1)) 1 (-1)) 2 (-1)) 3 (-1)) 4 (-1))))) (10, 4, 0) (.inl (E.2.1 0, 16, .inl (upd (upd (upd (upd (upd (upd (fun _ => 0) 0 (-1)) 1 (-1)) 2 (-1)) 3 (-1)) 4 (-1)) 5 (-1))))) (10, 4, 0) (.inl (E.2.1 0, 16, .inl (upd (upd (upd (upd (upd (upd (upd (fun _ => 0) 0 (-1)) 1 (-1)) 2 (-1)) 3 (-1)) 4 (-1)) 5 (-1)) 6 (-1))))) (10, 4, 0) (.inl (E.2.1 0, 16, .inl (upd (upd (upd (upd (upd (upd (upd (upd (fun _ => 0) 0 (-1)) 1 (-1)) 2 (-1)) 3 (-1)) 4 (-1)) 5 (-1)) 6 (-1)) 7 (-1))))) (10, 4, 0) (.inl (E.2.1 0, 16, .inl (upd (upd (upd (upd (upd (upd (upd (upd (upd (fun _ => 0) 0 (-1)) 1 (-1)) 2 (-1)) 3 (-1)) 4 (-1)) 5 (-1)) 6 (-1)) 7 (-1)) 8 (-1))))) (10, 4, 0) (.inl (E.2.1 0, 16, .inl (upd (upd (upd (upd (upd (upd (upd (upd (upd (upd (fun _ => 0) 0 (-1)) 1 (-1)) 2 (-1)) 3 (-1)) 4 (-1)) 5 (-1)) 6 (-1)) 7 (-1)) 8 (-1)) 9 (-1))))) (10, 4, 0) (.inl (E.2.1 0, 16, .inl (upd (upd (upd (upd (upd (upd (upd (upd (upd (upd (upd (fun _ => 0) 0 (-1)) 1 (-1)) 2 (-1)) 3 (-1)) 4 (-1)) 5 (-1)) 6 (-1)) 7 (-1)) 8 (-1)) 9 (-1)) 10 (-1))))) (10, 4, 0) (.inl (E.2.1 0, 16, .inl (upd (upd (upd (upd (upd (upd (upd (upd (upd (upd (upd (upd (fun _ => 0) 0 (-1)) 1 (-1)) 2 (-1)) 3 (-1)) 4 (-1)) 5 (-1)) 6 (-1)) 7 (-1)) 8 (-1)) 9 (-1)) 10 (-1)) 11 (-1))))) (10, 4, 0) (.inl (E.2.1 0, 16, .inl (upd (upd (upd (upd (upd (upd (upd (upd (upd (upd (upd (upd (upd (fun _ => 0) 0 (-1)) 1 (-1)) 2 (-1)) 3 (-1)) 4 (-1)) 5 (-1)) 6 (-1)) 7 (-1)) 8 (-1)) 9 (-1)) 10 (-1)) 11 (-1)) 12 (-1))))) (10, 4, 0) = some (.inl (E.2.1 0, 16, .inl (upd (upd (upd (upd (upd (upd (upd (upd (upd (upd (upd (upd (upd (fun _ => 0) 0 (-1)) 1 (-1)) 2 (-1)) 3 (-1)) 4 (-1)) 5 (-1)) 6 (-1)) 7 (-1)) 8 (-1)) 9 (-1)) 10 (-1)) 11 (-1)) 12 (-1)))) := xu_self _ _ _
  refine lv_dup hx hb dX7_init_76 rfl ?_
  refine lv_bipush (v := nI 13) hx hb dX7_init_77 (by decide +kernel) ?_
  refine lv_iconst (v := (-1)) hx hb dX7_init_79 (by decide +kernel) ?_
  refine lv_adr3 (ad_11).symm ?_
  refine x_iast C hH hS hn_10 (j := 13) rfl (by omega) (by omega) dX7_init_80 (fun H locs hH hS => ?_)
  have hX := xu_of (t := (10, 4, 0)) (e := .inl (E.2.1 0, 16, .inl (upd (upd (upd (upd (upd (upd (upd (upd (upd (upd (upd (upd (upd (upd (fun _ => 0) 0 (-1)) 1 (-1)) 2 (-1)) 3 (-1)) 4 (-1)) 5 (-1)) 6 (-1)) 7 (-1)) 8 (-1)) 9 (-1)) 10 (-1)) 11 (-1)) 12 (-1)) 13 (-1)))) (by simp) hX
  have hn_3 := xu_of (t := (10, 4, 0)) (e := .inl (E.2.1 0, 16, .inl (upd (upd (upd (upd (upd (upd (upd (upd (upd (upd (upd (upd (upd (upd (fun _ => 0) 0 (-1)) 1 (-1)) 2 (-1)) 3 (-1)) 4 (-1)) 5 (-1)) 6 (-1)) 7 (-1)) 8 (-1)) 9 (-1)) 10 (-1)) 11 (-1)) 12 (-1)) 13 (-1)))) (by simp) hn_3
  have hn_10 : (xu (xu (xu (xu (xu (xu (xu (xu (xu (xu (xu (xu (xu (xu (xu w_5 (10, 4, 0) (.inl (E.2.1 0, 16, .inl (fun _ => 0)))) (10, 4, 0) (.inl (E.2.1 0, 16, .inl (upd (fun _ => 0) 0 (-1))))) (10, 4, 0) (.inl (E.2.1 0, 16, .inl (upd (upd (fun _ => 0) 0 (-1)) 1 (-1))))) (10, 4, 0) (.inl (E.2.1 0, 16, .inl (upd (upd (upd (fun _ => 0) 0 (-1)) 1 (-1)) 2 (-1))))) (10, 4, 0) (.inl (E.2.1 0, 16, .inl (upd (upd (upd (upd (fun _ => 0) 0 (-1)) 1 (-1)) 2 (-1)) 3 (-1))))) (10, 4, 0) (.inl (E.2.1 0, 16, .inl (upd (upd (upd (upd (upd (fun _ => 0) 0 (-1)) 1 (-1)) 2 (-1)) 3 (-1)) 4 (-1))))) (10, 4, 0) (.inl (E.2.1 0, 16, .inl (upd (upd (upd (upd (upd (upd (fun _ => 0) 0 (-1)) 1 (-1)) 2 (-1)) 3 (-1)) 4 (-1)) 5 (-1))))) (10, 4, 0) (.inl (E.2.1 0, 16, .inl (upd (upd (upd (upd (upd (upd (upd (fun _ => 0) 0 (-1)) 1 (-1)) 2 (-1)) 3 (-1)) 4 (-1)) 5 (-1)) 6 (-1))))) (10, 4, 0) (.inl (E.2.1 0, 16, .inl (upd (upd (upd (upd (upd (upd (upd (upd (fun _ => 0) 0 (-1)) 1 (-1)) 2 (-1)) 3 (-1)) 4 (-1)) 5 (-1)) 6 (-1)) 7 (-1))))) (10, 4, 0) (.inl (E.2.1 0, 16, .inl (upd (upd (upd (upd (upd (upd (upd (upd (upd (fun _ => 0) 0 (-1)) 1 (-1)) 2 (-1)) 3 (-1)) 4 (-1)) 5 (-1)) 6 (-1)) 7 (-1)) 8 (-1))))) (10, 4, 0) (.inl (E.2.1 0, 16, .inl (upd (upd (upd (upd (upd (upd (upd (upd (upd (upd (fun _ => 0) 0 (-1)) 1 (-1)) 2 (-1)) 3 (-1)) 4 (-1)) 5 (-1)) 6 (-1)) 7 (-1)) 8 (-1)) 9 (-1))))) (10, 4, 0) (.inl (E.2.1 0, 16, .inl (upd (upd (upd (upd (upd (upd (upd (upd (upd (upd (upd (fun _ => 0) 0 (-1)) 1 (-1)) 2 (-1)) 3 (-1)) 4 (-1)) 5 (-1)) 6 (-1)) 7 (-1)) 8 (-1)) 9 (-1)) 10 (-1))))) (10, 4, 0) (.inl (E.2.1 0, 16, .inl (upd (upd (upd (upd (upd (upd (upd (upd (upd (upd (upd (upd (fun _ => 0) 0 (-1)) 1 (-1)) 2 (-1)) 3 (-1)) 4 (-1)) 5 (-1)) 6 (-1)) 7 (-1)) 8 (-1)) 9 (-1)) 10 (-1)) 11 (-1))))) (10, 4, 0) (.inl (E.2.1 0, 16, .inl (upd (upd (upd (upd (upd (upd (upd (upd (upd (upd (upd (upd (upd (fun _ => 0) 0 (-1)) 1 (-1)) 2 (-1)) 3 (-1)) 4 (-1)) 5 (-1)) 6 (-1)) 7 (-1)) 8 (-1)) 9 (-1)) 10 (-1)) 11 (-1)) 12 (-1))))) (10, 4, 0) (.inl (E.2.1 0, 16, .inl (upd (upd (upd (upd (upd (upd (upd (upd (upd (upd (upd (upd (upd (upd (fun _ => 0) 0 (-1)) 1 (-1)) 2 (-1)) 3 (-1)) 4 (-1)) 5 (-1)) 6 (-1)) 7 (-1)) 8 (-1)) 9 (-1)) 10 (-1)) 11 (-1)) 12 (-1)) 13 (-1))))) (10, 4, 0) = some (.inl (E.2.1 0, 16, .inl (upd (upd (upd (upd (upd (upd (upd (upd (upd (upd (upd (upd (upd (upd (fun _ => 0) 0 (-1)) 1 (-1)) 2 (-1)) 3 (-1)) 4 (-1)) 5 (-1)) 6 (-1)) 7 (-1)) 8 (-1)) 9 (-1)) 10 (-1)) 11 (-1)) 12 (-1)) 13 (-1)))) := xu_self _ _ _
  refine lv_dup hx hb dX7_init_81 rfl ?_
  refine lv_bipush (v := nI 14) hx hb dX7_init_82 (by decide +kernel) ?_
  refine lv_iconst (v := (-1)) hx hb dX7_init_84 (by decide +kernel) ?_
  refine lv_adr3 (ad_11).symm ?_
  refine x_iast C hH hS hn_10 (j := 14) rfl (by omega) (by omega) dX7_init_85 (fun H locs hH hS => ?_)
  have hX := xu_of (t := (10, 4, 0)) (e := .inl (E.2.1 0, 16, .inl (upd (upd (upd (upd (upd (upd (upd (upd (upd (upd (upd (upd (upd (upd (upd (fun _ => 0) 0 (-1)) 1 (-1)) 2 (-1)) 3 (-1)) 4 (-1)) 5 (-1)) 6 (-1)) 7 (-1)) 8 (-1)) 9 (-1)) 10 (-1)) 11 (-1)) 12 (-1)) 13 (-1)) 14 (-1)))) (by simp) hX
  have hn_3 := xu_of (t := (10, 4, 0)) (e := .inl (E.2.1 0, 16, .inl (upd (upd (upd (upd (upd (upd (upd (upd (upd (upd (upd (upd (upd (upd (upd (fun _ => 0) 0 (-1)) 1 (-1)) 2 (-1)) 3 (-1)) 4 (-1)) 5 (-1)) 6 (-1)) 7 (-1)) 8 (-1)) 9 (-1)) 10 (-1)) 11 (-1)) 12 (-1)) 13 (-1)) 14 (-1)))) (by simp) hn_3
  have hn_10 : (xu (xu (xu (xu (xu (xu (xu (xu (xu (xu (xu (xu (xu (xu (xu (xu w_5 (10, 4, 0) (.inl (E.2.1 0, 16, .inl (fun _ => 0)))) (10, 4, 0) (.inl (E.2.1 0, 16, .inl (upd (fun _ => 0) 0 (-1))))) (10, 4, 0) (.inl (E.2.1 0, 16, .inl (upd (upd (fun _ => 0) 0 (-1)) 1 (-1))))) (10, 4, 0) (.inl (E.2.1 0, 16, .inl (upd (upd (upd (fun _ => 0) 0 (-1)) 1 (-1)) 2 (-1))))) (10, 4, 0) (.inl (E.2.1 0, 16, .inl (upd (upd (upd (upd (fun _ => 0) 0 (-1)) 1 (-1)) 2 (-1)) 3 (-1))))) (10, 4, 0) (.inl (E.2.1 0, 16, .inl (upd (upd (upd (upd (upd (fun _ => 0) 0 (-1)) 1 (-1)) 2 (-1)) 3 (-1)) 4 (-1))))) (10, 4, 0) (.inl (E.2.1 0, 16, .inl (upd (upd (upd (upd (upd (upd (fun _ => 0) 0 (-1)) 1 (-1)) 2 (-1)) 3 (-1)) 4 (-1)) 5 (-1))))) (10, 4, 0) (.inl (E.2.1 0, 16, .inl (upd (upd (upd (upd (upd (upd (upd (fun _ => 0) 0 (-1)) 1 (-1)) 2 (-1)) 3 (-1)) 4 (-1)) 5 (-1)) 6 (-1))))) (10, 4, 0) (.inl (E.2.1 0, 16, .inl (upd (upd (upd (upd (upd (upd (upd (upd (fun _ => 0) 0 (-1)) 1 (-1)) 2 (-1)) 3 (-1)) 4 (-1)) 5 (-1)) 6 (-1)) 7 (-1))))) (10, 4, 0) (.inl (E.2.1 0, 16, .inl (upd (upd (upd (upd (upd (upd (upd (upd (upd (fun _ => 0) 0 (-1)) 1 (-1)) 2 (-1)) 3 (-1)) 4 (-1)) 5 (-1)) 6 (-1)) 7 (-1)) 8 (-1))))) (10, 4, 0) (.inl (E.2.1 0, 16, .inl (upd (upd (upd (upd (upd (upd (upd (upd (upd (upd (fun _ => 0) 0 (-1)) 1 (-1)) 2 (-1)) 3 (-1)) 4 (-1)) 5 (-1)) 6 (-1)) 7 (-1)) 8 (-1)) 9 (-1))))) (10, 4, 0) (.inl (E.2.1 0, 16, .inl (upd (upd (upd (upd (upd (upd (upd (upd (upd (upd (upd (fun _ => 0) 0 (-1)) 1 (-1)) 2 (-1)) 3 (-1)) 4 (-1)) 5 (-1)) 6 (-1)) 7 (-1)) 8 (-1)) 9 (-1)) 10 (-1))))) (10, 4, 0) (.inl (E.2.1 0, 16, .inl (upd (upd (upd (upd (upd (upd (upd (upd (upd (upd (upd (upd (fun _ => 0) 0 (-1)) 1 (-1)) 2 (-1)) 3 (-1)) 4 (-1)) 5 (-1)) 6 (-1)) 7 (-1)) 8 (-1)) 9 (-1)) 10 (-1)) 11 (-1))))) (10, 4, 0) (.inl (E.2.1 0, 16, .inl (upd (upd (upd (upd (upd (upd (upd (upd (upd (upd (upd (upd (upd (fun _ => 0) 0 (-1)) 1 (-1)) 2 (-1)) 3 (-1)) 4 (-1)) 5 (-1)) 6 (-1)) 7 (-1)) 8 (-1)) 9 (-1)) 10 (-1)) 11 (-1)) 12 (-1))))) (10, 4, 0) (.inl (E.2.1 0, 16, .inl (upd (upd (upd (upd (upd (upd (upd (upd (upd (upd (upd (upd (upd (upd (fun _ => 0) 0 (-1)) 1 (-1)) 2 (-1)) 3 (-1)) 4 (-1)) 5 (-1)) 6 (-1)) 7 (-1)) 8 (-1)) 9 (-1)) 10 (-1)) 11 (-1)) 12 (-1)) 13 (-1))))) (10, 4, 0) (.inl (E.2.1 0, 16, .inl (upd (upd (upd (upd (upd (upd (upd (upd (upd (upd (upd (upd (upd (upd (upd (fun _ => 0) 0 (-1)) 1 (-1)) 2 (-1)) 3 (-1)) 4 (-1)) 5 (-1)) 6 (-1)) 7 (-1)) 8 (-1)) 9 (-1)) 10 (-1)) 11 (-1)) 12 (-1)) 13 (-1)) 14 (-1))))) (10, 4, 0) = some (.inl (E.2.1 0, 16, .inl (upd (upd (upd (upd (upd (upd (upd (upd (upd (upd (upd (upd (upd (upd (upd (fun _ => 0) 0 (-1)) 1 (-1)) 2 (-1)) 3 (-1)) 4 (-1)) 5 (-1)) 6 (-1)) 7 (-1)) 8 (-1)) 9 (-1)) 10 (-1)) 11 (-1)) 12 (-1)) 13 (-1)) 14 (-1)))) := xu_self _ _ _
  refine lv_dup hx hb dX7_init_86 rfl ?_
  refine lv_bipush (v := nI 15) hx hb dX7_init_87 (by decide +kernel) ?_
  refine lv_iconst (v := (-1)) hx hb dX7_init_89 (by decide +kernel) ?_
  refine lv_adr3 (ad_11).symm ?_
  refine x_iast C hH hS hn_10 (j := 15) rfl (by omega) (by omega) dX7_init_90 (fun H locs hH hS => ?_)
  have hX := xu_of (t := (10, 4, 0)) (e := .inl (E.2.1 0, 16, .inl (upd (upd (upd (upd (upd (upd (upd (upd (upd (upd (upd (upd (upd (upd (upd (upd (fun _ => 0) 0 (-1)) 1 (-1)) 2 (-1)) 3 (-1)) 4 (-1)) 5 (-1)) 6 (-1)) 7 (-1)) 8 (-1)) 9 (-1)) 10 (-1)) 11 (-1)) 12 (-1)) 13 (-1)) 14 (-1)) 15 (-1)))) (by simp) hX
  have hn_3 := xu_of (t := (10, 4, 0)) (e := .inl (E.2.1 0, 16, .inl (upd (upd (upd (upd (upd (upd (upd (upd (upd (upd (upd (upd (upd (upd (upd (upd (fun _ => 0) 0 (-1)) 1 (-1)) 2 (-1)) 3 (-1)) 4 (-1)) 5 (-1)) 6 (-1)) 7 (-1)) 8 (-1)) 9 (-1)) 10 (-1)) 11 (-1)) 12 (-1)) 13 (-1)) 14 (-1)) 15 (-1)))) (by simp) hn_3
  have hn_10 : (xu (xu (xu (xu (xu (xu (xu (xu (xu (xu (xu (xu (xu (xu (xu (xu (xu w_5 (10, 4, 0) (.inl (E.2.1 0, 16, .inl (fun _ => 0)))) (10, 4, 0) (.inl (E.2.1 0, 16, .inl (upd (fun _ => 0) 0 (-1))))) (10, 4, 0) (.inl (E.2.1 0, 16, .inl (upd (upd (fun _ => 0) 0 (-1)) 1 (-1))))) (10, 4, 0) (.inl (E.2.1 0, 16, .inl (upd (upd (upd (fun _ => 0) 0 (-1)) 1 (-1)) 2 (-1))))) (10, 4, 0) (.inl (E.2.1 0, 16, .inl (upd (upd (upd (upd (fun _ => 0) 0 (-1)) 1 (-1)) 2 (-1)) 3 (-1))))) (10, 4, 0) (.inl (E.2.1 0, 16, .inl (upd (upd (upd (upd (upd (fun _ => 0) 0 (-1)) 1 (-1)) 2 (-1)) 3 (-1)) 4 (-1))))) (10, 4, 0) (.inl (E.2.1 0, 16, .inl (upd (upd (upd (upd (upd (upd (fun _ => 0) 0 (-1)) 1 (-1)) 2 (-1)) 3 (-1)) 4 (-1)) 5 (-1))))) (10, 4, 0) (.inl (E.2.1 0, 16, .inl (upd (upd (upd (upd (upd (upd (upd (fun _ => 0) 0 (-1)) 1 (-1)) 2 (-1)) 3 (-1)) 4 (-1)) 5 (-1)) 6 (-1))))) (10, 4, 0) (.inl (E.2.1 0, 16, .inl (upd (upd (upd (upd (upd (upd (upd (upd (fun _ => 0) 0 (-1)) 1 (-1)) 2 (-1)) 3 (-1)) 4 (-1)) 5 (-1)) 6 (-1)) 7 (-1))))) (10, 4, 0) (.inl (E.2.1 0, 16, .inl (upd (upd (upd (upd (upd (upd (upd (upd (upd (fun _ => 0) 0 (-1)) 1 (-1)) 2 (-1)) 3 (-1)) 4 (-1)) 5 (-1)) 6 (-1)) 7 (-1)) 8 (-1))))) (10, 4, 0) (.inl (E.2.1 0, 16, .inl (upd (upd (upd (upd (upd (upd (upd (upd (upd (upd (fun _ => 0) 0 (-1)) 1 (-1)) 2 (-1)) 3 (-1)) 4 (-1)) 5 (-1)) 6 (-1)) 7 (-1)) 8 (-1)) 9 (-1))))) (10, 4, 0) (.inl (E.2.1 0, 16, .inl (upd (upd (upd (upd (upd (upd (upd (upd (upd (upd (upd (fun _ => 0) 0 (-1)) 1 (-1)) 2 (-1)) 3 (-1)) 4 (-1)) 5 (-1)) 6 (-1)) 7 (-1)) 8 (-1)) 9 (-1)) 10 (-1))))) (10, 4, 0) (.inl (E.2.1 0, 16, .inl (upd (upd (upd (upd (upd (upd (upd (upd (upd (upd (upd (upd (fun _ => 0) 0 (-1)) 1 (-1)) 2 (-1)) 3 (-1)) 4 (-1)) 5 (-1)) 6 (-1)) 7 (-1)) 8 (-1)) 9 (-1)) 10 (-1)) 11 (-1))))) (10, 4, 0) (.inl (E.2.1 0, 16, .inl (upd (upd (upd (upd (upd (upd (upd (upd (upd (upd (upd (upd (upd (fun _ => 0) 0 (-1)) 1 (-1)) 2 (-1)) 3 (-1)) 4 (-1)) 5 (-1)) 6 (-1)) 7 (-1)) 8 (-1)) 9 (-1)) 10 (-1)) 11 (-1)) 12 (-1))))) (10, 4, 0) (.inl (E.2.1 0, 16, .inl (upd (upd (upd (upd (upd (upd (upd (upd (upd (upd (upd (upd (upd (upd (fun _ => 0) 0 (-1)) 1 (-1)) 2 (-1)) 3 (-1)) 4 (-1)) 5 (-1)) 6 (-1)) 7 (-1)) 8 (-1)) 9 (-1)) 10 (-1)) 11 (-1)) 12 (-1)) 13 (-1))))) (10, 4, 0) (.inl (E.2.1 0, 16, .inl (upd (upd (upd (upd (upd (upd (upd (upd (upd (upd (upd (upd (upd (upd (upd (fun _ => 0) 0 (-1)) 1 (-1)) 2 (-1)) 3 (-1)) 4 (-1)) 5 (-1)) 6 (-1)) 7 (-1)) 8 (-1)) 9 (-1)) 10 (-1)) 11 (-1)) 12 (-1)) 13 (-1)) 14 (-1))))) (10, 4, 0) (.inl (E.2.1 0, 16, .inl (upd (upd (upd (upd (upd (upd (upd (upd (upd (upd (upd (upd (upd (upd (upd (upd (fun _ => 0) 0 (-1)) 1 (-1)) 2 (-1)) 3 (-1)) 4 (-1)) 5 (-1)) 6 (-1)) 7 (-1)) 8 (-1)) 9 (-1)) 10 (-1)) 11 (-1)) 12 (-1)) 13 (-1)) 14 (-1)) 15 (-1))))) (10, 4, 0) = some (.inl (E.2.1 0, 16, .inl (upd (upd (upd (upd (upd (upd (upd (upd (upd (upd (upd (upd (upd (upd (upd (upd (fun _ => 0) 0 (-1)) 1 (-1)) 2 (-1)) 3 (-1)) 4 (-1)) 5 (-1)) 6 (-1)) 7 (-1)) 8 (-1)) 9 (-1)) 10 (-1)) 11 (-1)) 12 (-1)) 13 (-1)) 14 (-1)) 15 (-1)))) := xu_self _ _ _
  refine lv_adr2 (ad_8).symm ?_
  refine x_putF C hH hS (ci := 8) (T := TX7) (N := 19) (fs' := [.int 0, .int 0, .int 0, .ref q_1, .ref q_7, .int 0, .null, .null, .null, .null, .int 0, .null, .null, .null, .null, .null, .null, .null, .null]) hX rfl iWX7 tyX7 tyX7_ok nmX7 4 (by decide) qw_700 rfl rfl hin rfl rfl rfl (Nat.le_of_ble_eq_true rfl) rfl dX7_init_91 (fun H locs hH hS => ?_)
  have hn_3 := xu_of (t := (10, 0, 0)) (e := .inr (8, [.int 0, .int 0, .int 0, .ref q_1, .ref q_7, .int 0, .null, .null, .null, .null, .int 0, .null, .null, .null, .null, .null, .null, .null, .null])) (by simp) hn_3
  have hn_10 := xu_of (t := (10, 0, 0)) (e := .inr (8, [.int 0, .int 0, .int 0, .ref q_1, .ref q_7, .int 0, .null, .null, .null, .null, .int 0, .null, .null, .null, .null, .null, .null, .null, .null])) (by simp) hn_10
  have hX : (xu (xu (xu (xu (xu (xu (xu (xu (xu (xu (xu (xu (xu (xu (xu (xu (xu (xu w_5 (10, 4, 0) (.inl (E.2.1 0, 16, .inl (fun _ => 0)))) (10, 4, 0) (.inl (E.2.1 0, 16, .inl (upd (fun _ => 0) 0 (-1))))) (10, 4, 0) (.inl (E.2.1 0, 16, .inl (upd (upd (fun _ => 0) 0 (-1)) 1 (-1))))) (10, 4, 0) (.inl (E.2.1 0, 16, .inl (upd (upd (upd (fun _ => 0) 0 (-1)) 1 (-1)) 2 (-1))))) (10, 4, 0) (.inl (E.2.1 0, 16, .inl (upd (upd (upd (upd (fun _ => 0) 0 (-1)) 1 (-1)) 2 (-1)) 3 (-1))))) (10, 4, 0) (.inl (E.2.1 0, 16, .inl (upd (upd (upd (upd (upd (fun _ => 0) 0 (-1)) 1 (-1)) 2 (-1)) 3 (-1)) 4 (-1))))) (10, 4, 0) (.inl (E.2.1 0, 16, .inl (upd (upd (upd (upd (upd (upd (fun _ => 0) 0 (-1)) 1 (-1)) 2 (-1)) 3 (-1)) 4 (-1)) 5 (-1))))) (10, 4, 0) (.inl (E.2.1 0, 16, .inl (upd (upd (upd (upd (upd (upd (upd (fun _ => 0) 0 (-1)) 1 (-1)) 2 (-1)) 3 (-1)) 4 (-1)) 5 (-1)) 6 (-1))))) (10, 4, 0) (.inl (E.2.1 0, 16, .inl (upd (upd (upd (upd (upd (upd (upd (upd (fun _ => 0) 0 (-1)) 1 (-1)) 2 (-1)) 3 (-1)) 4 (-1)) 5 (-1)) 6 (-1)) 7 (-1))))) (10, 4, 0) (.inl (E.2.1 0, 16, .inl (upd (upd (upd (upd (upd (upd (upd (upd (upd (fun _ => 0) 0 (-1)) 1 (-1)) 2 (-1)) 3 (-1)) 4 (-1)) 5 (-1)) 6 (-1)) 7 (-1)) 8 (-1))))) (10, 4, 0) (.inl (E.2.1 0, 16, .inl (upd (upd (upd (upd (upd (upd (upd (upd (upd (upd (fun _ => 0) 0 (-1)) 1 (-1)) 2 (-1)) 3 (-1)) 4 (-1)) 5 (-1)) 6 (-1)) 7 (-1)) 8 (-1)) 9 (-1))))) (10, 4, 0) (.inl (E.2.1 0, 16, .inl (upd (upd (upd (upd (upd (upd (upd (upd (upd (upd (upd (fun _ => 0) 0 (-1)) 1 (-1)) 2 (-1)) 3 (-1)) 4 (-1)) 5 (-1)) 6 (-1)) 7 (-1)) 8 (-1)) 9 (-1)) 10 (-1))))) (10, 4, 0) (.inl (E.2.1 0, 16, .inl (upd (upd (upd (upd (upd (upd (upd (upd (upd (upd (upd (upd (fun _ => 0) 0 (-1)) 1 (-1)) 2 (-1)) 3 (-1)) 4 (-1)) 5 (-1)) 6 (-1)) 7 (-1)) 8 (-1)) 9 (-1)) 10 (-1)) 11 (-1))))) (10, 4, 0) (.inl (E.2.1 0, 16, .inl (upd (upd (upd (upd (upd (upd (upd (upd (upd (upd (upd (upd (upd (fun _ => 0) 0 (-1)) 1 (-1)) 2 (-1)) 3 (-1)) 4 (-1)) 5 (-1)) 6 (-1)) 7 (-1)) 8 (-1)) 9 (-1)) 10 (-1)) 11 (-1)) 12 (-1))))) (10, 4, 0) (.inl (E.2.1 0, 16, .inl (upd (upd (upd (upd (upd (upd (upd (upd (upd (upd (upd (upd (upd (upd (fun _ => 0) 0 (-1)) 1 (-1)) 2 (-1)) 3 (-1)) 4 (-1)) 5 (-1)) 6 (-1)) 7 (-1)) 8 (-1)) 9 (-1)) 10 (-1)) 11 (-1)) 12 (-1)) 13 (-1))))) (10, 4, 0) (.inl (E.2.1 0, 16, .inl (upd (upd (upd (upd (upd (upd (upd (upd (upd (upd (upd (upd (upd (upd (upd (fun _ => 0) 0 (-1)) 1 (-1)) 2 (-1)) 3 (-1)) 4 (-1)) 5 (-1)) 6 (-1)) 7 (-1)) 8 (-1)) 9 (-1)) 10 (-1)) 11 (-1)) 12 (-1)) 13 (-1)) 14 (-1))))) (10, 4, 0) (.inl (E.2.1 0, 16, .inl (upd (upd (upd (upd (upd (upd (upd (upd (upd (upd (upd (upd (upd (upd (upd (upd (fun _ => 0) 0 (-1)) 1 (-1)) 2 (-1)) 3 (-1)) 4 (-1)) 5 (-1)) 6 (-1)) 7 (-1)) 8 (-1)) 9 (-1)) 10 (-1)) 11 (-1)) 12 (-1)) 13 (-1)) 14 (-1)) 15 (-1))))) (10, 0, 0) (.inr (8, [.int 0, .int 0, .int 0, .ref q_1, .ref q_7, .int 0, .null, .null, .null, .null, .int 0, .null, .null, .null, .null, .null, .null, .null, .null]))) (10, 0, 0) = some (.inr (8, [.int 0, .int 0, .int 0, .ref q_1, .ref q_7, .int 0, .null, .null, .null, .null, .int 0, .null, .null, .null, .null, .null, .null, .null, .null])) := xu_self _ _ _
  have fr_13 : ∀ t : Tg, t.1 ≠ 10 → (xu (xu (xu (xu (xu (xu (xu (xu (xu (xu (xu (xu (xu (xu (xu (xu (xu (xu w_5 (10, 4, 0) (.inl (E.2.1 0, 16, .inl (fun _ => 0)))) (10, 4, 0) (.inl (E.2.1 0, 16, .inl (upd (fun _ => 0) 0 (-1))))) (10, 4, 0) (.inl (E.2.1 0, 16, .inl (upd (upd (fun _ => 0) 0 (-1)) 1 (-1))))) (10, 4, 0) (.inl (E.2.1 0, 16, .inl (upd (upd (upd (fun _ => 0) 0 (-1)) 1 (-1)) 2 (-1))))) (10, 4, 0) (.inl (E.2.1 0, 16, .inl (upd (upd (upd (upd (fun _ => 0) 0 (-1)) 1 (-1)) 2 (-1)) 3 (-1))))) (10, 4, 0) (.inl (E.2.1 0, 16, .inl (upd (upd (upd (upd (upd (fun _ => 0) 0 (-1)) 1 (-1)) 2 (-1)) 3 (-1)) 4 (-1))))) (10, 4, 0) (.inl (E.2.1 0, 16, .inl (upd (upd (upd (upd (upd (upd (fun _ => 0) 0 (-1)) 1 (-1)) 2 (-1)) 3 (-1)) 4 (-1)) 5 (-1))))) (10, 4, 0) (.inl (E.2.1 0, 16, .inl (upd (upd (upd (upd (upd (upd (upd (fun _ => 0) 0 (-1)) 1 (-1)) 2 (-1)) 3 (-1)) 4 (-1)) 5 (-1)) 6 (-1))))) (10, 4, 0) (.inl (E.2.1 0, 16, .inl (upd (upd (upd (upd (upd (upd (upd (upd (fun _ => 0) 0 (-1)) 1 (-1)) 2 (-1)) 3 (-1)) 4 (-1)) 5 (-1)) 6 (-1)) 7 (-1))))) (10, 4, 0) (.inl (E.2.1 0, 16, .inl (upd (upd (upd (upd (upd (upd (upd (upd (upd (fun _ => 0) 0 (-1)) 1 (-1)) 2 (-1)) 3 (-1)) 4 (-1)) 5 (-1)) 6 (-1)) 7 (-1)) 8 (-1))))) (10, 4, 0) (.inl (E.2.1 0, 16, .inl (upd (upd (upd (upd (upd (upd (upd (upd (upd (upd (fun _ => 0) 0 (-1)) 1 (-1)) 2 (-1)) 3 (-1)) 4 (-1)) 5 (-1)) 6 (-1)) 7 (-1)) 8 (-1)) 9 (-1))))) (10, 4, 0) (.inl (E.2.1 0, 16, .inl (upd (upd (upd (upd (upd (upd (upd (upd (upd (upd (upd (fun _ => 0) 0 (-1)) 1 (-1)) 2 (-1)) 3 (-1)) 4 (-1)) 5 (-1)) 6 (-1)) 7 (-1)) 8 (-1)) 9 (-1)) 10 (-1))))) (10, 4, 0) (.inl (E.2.1 0, 16, .inl (upd (upd (upd (upd (upd (upd (upd (upd (upd (upd (upd (upd (fun _ => 0) 0 (-1)) 1 (-1)) 2 (-1)) 3 (-1)) 4 (-1)) 5 (-1)) 6 (-1)) 7 (-1)) 8 (-1)) 9 (-1)) 10 (-1)) 11 (-1))))) (10, 4, 0) (.inl (E.2.1 0, 16, .inl (upd (upd (upd (upd (upd (upd (upd (upd (upd (upd (upd (upd (upd (fun _ => 0) 0 (-1)) 1 (-1)) 2 (-1)) 3 (-1)) 4 (-1)) 5 (-1)) 6 (-1)) 7 (-1)) 8 (-1)) 9 (-1)) 10 (-1)) 11 (-1)) 12 (-1))))) (10, 4, 0) (.inl (E.2.1 0, 16, .inl (upd (upd (upd (upd (upd (upd (upd (upd (upd (upd (upd (upd (upd (upd (fun _ => 0) 0 (-1)) 1 (-1)) 2 (-1)) 3 (-1)) 4 (-1)) 5 (-1)) 6 (-1)) 7 (-1)) 8 (-1)) 9 (-1)) 10 (-1)) 11 (-1)) 12 (-1)) 13 (-1))))) (10, 4, 0) (.inl (E.2.1 0, 16, .inl (upd (upd (upd (upd (upd (upd (upd (upd (upd (upd (upd (upd (upd (upd (upd (fun _ => 0) 0 (-1)) 1 (-1)) 2 (-1)) 3 (-1)) 4 (-1)) 5 (-1)) 6 (-1)) 7 (-1)) 8 (-1)) 9 (-1)) 10 (-1)) 11 (-1)) 12 (-1)) 13 (-1)) 14 (-1))))) (10, 4, 0) (.inl (E.2.1 0, 16, .inl (upd (upd (upd (upd (upd (upd (upd (upd (upd (upd (upd (upd (upd (upd (upd (upd (fun _ => 0) 0 (-1)) 1 (-1)) 2 (-1)) 3 (-1)) 4 (-1)) 5 (-1)) 6 (-1)) 7 (-1)) 8 (-1)) 9 (-1)) 10 (-1)) 11 (-1)) 12 (-1)) 13 (-1)) 14 (-1)) 15 (-1))))) (10, 0, 0) (.inr (8, [.int 0, .int 0, .int 0, .ref q_1, .ref q_7, .int 0, .null, .null, .null, .null, .int 0, .null, .null, .null, .null, .null, .null, .null, .null]))) t = w t ∧ alq_7 t = al t := fun t ht => ⟨by rw [xu_ne (fun e => ht (by rw [e])), xu_ne (fun e => ht (by rw [e])), xu_ne (fun e => ht (by rw [e])), xu_ne (fun e => ht (by rw [e])), xu_ne (fun e => ht (by rw [e])), xu_ne (fun e => ht (by rw [e])), xu_ne (fun e => ht (by rw [e])), xu_ne (fun e => ht (by rw [e])), xu_ne (fun e => ht (by rw [e])), xu_ne (fun e => ht (by rw [e])), xu_ne (fun e => ht (by rw [e])), xu_ne (fun e => ht (by rw [e])), xu_ne (fun e => ht (by rw [e])), xu_ne (fun e => ht (by rw [e])), xu_ne (fun e => ht (by rw [e])), xu_ne (fun e => ht (by rw [e])), xu_ne (fun e => ht (by rw [e])), xu_ne (fun e => ht (by rw [e]))]; exact (fr_6 t ht).1, by rw [halq_7, xa_ne (fun e => ht (by rw [e]))]; exact (fr_6 t ht).2⟩
  obtain ⟨w_12, hw_12⟩ : ∃ zz9, zz9 = (xu (xu (xu (xu (xu (xu (xu (xu (xu (xu (xu (xu (xu (xu (xu (xu (xu (xu w_5 (10, 4, 0) (.inl (E.2.1 0, 16, .inl (fun _ => 0)))) (10, 4, 0) (.inl (E.2.1 0, 16, .inl (upd (fun _ => 0) 0 (-1))))) (10, 4, 0) (.inl (E.2.1 0, 16, .inl (upd (upd (fun _ => 0) 0 (-1)) 1 (-1))))) (10, 4, 0) (.inl (E.2.1 0, 16, .inl (upd (upd (upd (fun _ => 0) 0 (-1)) 1 (-1)) 2 (-1))))) (10, 4, 0) (.inl (E.2.1 0, 16, .inl (upd (upd (upd (upd (fun _ => 0) 0 (-1)) 1 (-1)) 2 (-1)) 3 (-1))))) (10, 4, 0) (.inl (E.2.1 0, 16, .inl (upd (upd (upd (upd (upd (fun _ => 0) 0 (-1)) 1 (-1)) 2 (-1)) 3 (-1)) 4 (-1))))) (10, 4, 0) (.inl (E.2.1 0, 16, .inl (upd (upd (upd (upd (upd (upd (fun _ => 0) 0 (-1)) 1 (-1)) 2 (-1)) 3 (-1)) 4 (-1)) 5 (-1))))) (10, 4, 0) (.inl (E.2.1 0, 16, .inl (upd (upd (upd (upd (upd (upd (upd (fun _ => 0) 0 (-1)) 1 (-1)) 2 (-1)) 3 (-1)) 4 (-1)) 5 (-1)) 6 (-1))))) (10, 4, 0) (.inl (E.2.1 0, 16, .inl (upd (upd (upd (upd (upd (upd (upd (upd (fun _ => 0) 0 (-1)) 1 (-1)) 2 (-1)) 3 (-1)) 4 (-1)) 5 (-1)) 6 (-1)) 7 (-1))))) (10, 4, 0) (.inl (E.2.1 0, 16, .inl (upd (upd (upd (upd (upd (upd (upd (upd (upd (fun _ => 0) 0 (-1)) 1 (-1)) 2 (-1)) 3 (-1)) 4 (-1)) 5 (-1)) 6 (-1)) 7 (-1)) 8 (-1))))) (10, 4, 0) (.inl (E.2.1 0, 16, .inl (upd (upd (upd (upd (upd (upd (upd (upd (upd (upd (fun _ => 0) 0 (-1)) 1 (-1)) 2 (-1)) 3 (-1)) 4 (-1)) 5 (-1)) 6 (-1)) 7 (-1)) 8 (-1)) 9 (-1))))) (10, 4, 0) (.inl (E.2.1 0, 16, .inl (upd (upd (upd (upd (upd (upd (upd (upd (upd (upd (upd (fun _ => 0) 0 (-1)) 1 (-1)) 2 (-1)) 3 (-1)) 4 (-1)) 5 (-1)) 6 (-1)) 7 (-1)) 8 (-1)) 9 (-1)) 10 (-1))))) (10, 4, 0) (.inl (E.2.1 0, 16, .inl (upd (upd (upd (upd (upd (upd (upd (upd (upd (upd (upd (upd (fun _ => 0) 0 (-1)) 1 (-1)) 2 (-1)) 3 (-1)) 4 (-1)) 5 (-1)) 6 (-1)) 7 (-1)) 8 (-1)) 9 (-1)) 10 (-1)) 11 (-1))))) (10, 4, 0) (.inl (E.2.1 0, 16, .inl (upd (upd (upd (upd (upd (upd (upd (upd (upd (upd (upd (upd (upd (fun _ => 0) 0 (-1)) 1 (-1)) 2 (-1)) 3 (-1)) 4 (-1)) 5 (-1)) 6 (-1)) 7 (-1)) 8 (-1)) 9 (-1)) 10 (-1)) 11 (-1)) 12 (-1))))) (10, 4, 0) (.inl (E.2.1 0, 16, .inl (upd (upd (upd (upd (upd (upd (upd (upd (upd (upd (upd (upd (upd (upd (fun _ => 0) 0 (-1)) 1 (-1)) 2 (-1)) 3 (-1)) 4 (-1)) 5 (-1)) 6 (-1)) 7 (-1)) 8 (-1)) 9 (-1)) 10 (-1)) 11 (-1)) 12 (-1)) 13 (-1))))) (10, 4, 0) (.inl (E.2.1 0, 16, .inl (upd (upd (upd (upd (upd (upd (upd (upd (upd (upd (upd (upd (upd (upd (upd (fun _ => 0) 0 (-1)) 1 (-1)) 2 (-1)) 3 (-1)) 4 (-1)) 5 (-1)) 6 (-1)) 7 (-1)) 8 (-1)) 9 (-1)) 10 (-1)) 11 (-1)) 12 (-1)) 13 (-1)) 14 (-1))))) (10, 4, 0) (.inl (E.2.1 0, 16, .inl (upd (upd (upd (upd (upd (upd (upd (upd (upd (upd (upd (upd (upd (upd (upd (upd (fun _ => 0) 0 (-1)) 1 (-1)) 2 (-1)) 3 (-1)) 4 (-1)) 5 (-1)) 6 (-1)) 7 (-1)) 8 (-1)) 9 (-1)) 10 (-1)) 11 (-1)) 12 (-1)) 13 (-1)) 14 (-1)) 15 (-1))))) (10, 0, 0) (.inr (8, [.int 0, .int 0, .int 0, .ref q_1, .ref q_7, .int 0, .null, .null, .null, .null, .int 0, .null, .null, .null, .null, .null, .null, .null, .null]))) := ⟨_, rfl⟩
  rw [← hw_12] at hH fr_13 hX hn_3 hn_10
  refine lv_aload_n hx hb dX7_init_94 rfl (lv_at hl 0 rfl) ?_
  refine lv_bipush (v := nI 6) hx hb dX7_init_95 (by decide +kernel) ?_
  refine x_newa C hH hS (10, 6, 0) 0 (atype := .int) qw_73 rfl rfl (fun _ h => by cases h) (a0 := (6, .inl (fun _ => 0))) (fun cA => rfl) rfl (by omega) (by decide) (by decide) (by decide) dX7_init_97 (fun G14_ hH hS => ?_)
  obtain ⟨q_14, hq_14⟩ : ∃ zz9 : Nat, zz9 = xa alq_7 (10, 6, 0) H.size (10, 6, 0) := ⟨_, rfl⟩
  obtain ⟨alq_14, halq_14⟩ : ∃ zz9 : Tg → Nat, zz9 = xa alq_7 (10, 6, 0) H.size := ⟨_, rfl⟩
  rw [← halq_14] at hH
  rw [← hq_14]
  have ad_15 : alq_14 (10, 0, 0) = al (10, 0, 0) := by rw [halq_14, xa_ne (by simp)]; exact ((ad_8).symm).symm
  have hX := xu_of (t := (10, 6, 0)) (e := .inl (E.2.1 0, 6, .inl (fun _ => 0))) (by simp) hX
  have ad_16 : alq_14 (10, 3, 0) = q_1 := by rw [halq_14, xa_ne (by simp)]; exact ((ad_9).symm).symm
  have hn_3 := xu_of (t := (10, 6, 0)) (e := .inl (E.2.1 0, 6, .inl (fun _ => 0))) (by simp) hn_3
  have ad_17 : alq_14 (10, 4, 0) = q_7 := by rw [halq_14, xa_ne (by simp)]; exact ((ad_11).symm).symm
  have hn_10 := xu_of (t := (10, 6, 0)) (e := .inl (E.2.1 0, 6, .inl (fun _ => 0))) (by simp) hn_10
  have ad_19 : alq_14 (10, 6, 0) = q_14 := by rw [halq_14, hq_14]
  have hn_18 : (xu w_12 (10, 6, 0) (.inl (E.2.1 0, 6, .inl (fun _ => 0)))) (10, 6, 0) = some (.inl (E.2.1 0, 6, .inl (fun _ => 0))) := xu_self _ _ _
  refine lv_adr2 (ad_15).symm ?_
  refine x_putF C hH hS (ci := 8) (T := TX7) (N := 19) (fs' := [.int 0, .int 0, .int 0, .ref q_1, .ref q_7, .int 0, .ref q_14, .null, .null, .null, .int 0, .null, .null, .null, .null, .null, .null, .null, .null]) hX rfl iWX7 tyX7 tyX7_ok nmX7 6 (by decide) qw_702 rfl rfl hin rfl rfl rfl (Nat.le_of_ble_eq_true rfl) rfl dX7_init_99 (fun H locs hH hS => ?_)
  have hn_3 := xu_of (t := (10, 0, 0)) (e := .inr (8, [.int 0, .int 0, .int 0, .ref q_1, .ref q_7, .int 0, .ref q_14, .null, .null, .null, .int 0, .null, .null, .null, .null, .null, .null, .null, .null])) (by simp) hn_3
  have hn_10 := xu_of (t := (10, 0, 0)) (e := .inr (8, [.int 0, .int 0, .int 0, .ref q_1, .ref q_7, .int 0, .ref q_14, .null, .null, .null, .int 0, .null, .null, .null, .null, .null, .null, .null, .null])) (by simp) hn_10
  have hn_18 := xu_of (t := (10, 0, 0)) (e := .inr (8, [.int 0, .int 0, .int 0, .ref q_1, .ref q_7, .int 0, .ref q_14, .null, .null, .null, .int 0, .null, .null, .null, .null, .null, .null, .null, .null])) (by simp) hn_18
  have hX : (xu (xu w_12 (10, 6, 0) (.inl (E.2.1 0, 6, .inl (fun _ => 0)))) (10, 0, 0) (.inr (8, [.int 0, .int 0, .int 0, .ref q_1, .ref q_7, .int 0, .ref q_14, .null, .null, .null, .int 0, .null, .null, .null, .null, .null, .null, .null, .null]))) (10, 0, 0) = some (.inr (8, [.int 0, .int 0, .int 0, .ref q_1, .ref q_7, .int 0, .ref q_14, .null, .null, .null, .int 0, .null, .null, .null, .null, .null, .null, .null, .null])) := xu_self _ _ _
  have fr_21 : ∀ t : Tg, t.1 ≠ 10 → (xu (xu w_12 (10, 6, 0) (.inl (E.2.1 0, 6, .inl (fun _ => 0)))) (10, 0, 0) (.inr (8, [.int 0, .int 0, .int 0, .ref q_1, .ref q_7, .int 0, .ref q_14, .null, .null, .null, .int 0, .null, .null, .null, .null, .null, .null, .null, .null]))) t = w t ∧ alq_14 t = al t := fun t ht => ⟨by rw [xu_ne (fun e => ht (by rw [e])), xu_ne (fun e => ht (by rw [e]))]; exact (fr_13 t ht).1, by rw [halq_14, xa_ne (fun e => ht (by rw [e]))]; exact (fr_13 t ht).2⟩
  obtain ⟨w_20, hw_20⟩ : ∃ zz9, zz9 = (xu (xu w_12 (10, 6, 0) (.inl (E.2.1 0, 6, .inl (fun _ => 0)))) (10, 0, 0) (.inr (8, [.int 0, .int 0, .int 0, .ref q_1, .ref q_7, .int 0, .ref q_14, .null, .null, .null, .int 0, .null, .null, .null, .null, .null, .null, .null, .null]))) := ⟨_, rfl⟩
  rw [← hw_20] at hH fr_21 hX hn_3 hn_10 hn_18
  refine lv_aload_n hx hb dX7_init_102 rfl (lv_at hl 0 rfl) ?_
  refine lv_bipush (v := nI 96) hx hb dX7_init_103 (by decide +kernel) ?_
  refine x_newa C hH hS (10, 7, 0) 0 (atype := .int) qw_73 rfl rfl (fun _ h => by cases h) (a0 := (96, .inl (fun _ => 0))) (fun cA => rfl) rfl (by omega) (by decide) (by decide) (by decide) dX7_init_105 (fun G22_ hH hS => ?_)
  obtain ⟨q_22, hq_22⟩ : ∃ zz9 : Nat, zz9 = xa alq_14 (10, 7, 0) H.size (10, 7, 0) := ⟨_, rfl⟩
  obtain ⟨alq_22, halq_22⟩ : ∃ zz9 : Tg → Nat, zz9 = xa alq_14 (10, 7, 0) H.size := ⟨_, rfl⟩
  rw [← halq_22] at hH
  rw [← hq_22]
  have ad_23 : alq_22 (10, 0, 0) = al (10, 0, 0) := by rw [halq_22, xa_ne (by simp)]; exact ((ad_15).symm).symm
  have hX := xu_of (t := (10, 7, 0)) (e := .inl (E.2.1 0, 96, .inl (fun _ => 0))) (by simp) hX
  have ad_24 : alq_22 (10, 3, 0) = q_1 := by rw [halq_22, xa_ne (by simp)]; exact ((ad_16).symm).symm
  have hn_3 := xu_of (t := (10, 7, 0)) (e := .inl (E.2.1 0, 96, .inl (fun _ => 0))) (by simp) hn_3
  have ad_25 : alq_22 (10, 4, 0) = q_7 := by rw [halq_22, xa_ne (by simp)]; exact ((ad_17).symm).symm
  have hn_10 := xu_of (t := (10, 7, 0)) (e := .inl (E.2.1 0, 96, .inl (fun _ => 0))) (by simp) hn_10
  have ad_26 : alq_22 (10, 6, 0) = q_14 := by rw [halq_22, xa_ne (by simp)]; exact ((ad_19).symm).symm
  have hn_18 := xu_of (t := (10, 7, 0)) (e := .inl (E.2.1 0, 96, .inl (fun _ => 0))) (by simp) hn_18
  have ad_28 : alq_22 (10, 7, 0) = q_22 := by rw [halq_22, hq_22]
  have hn_27 : (xu w_20 (10, 7, 0) (.inl (E.2.1 0, 96, .inl (fun _ => 0)))) (10, 7, 0) = some (.inl (E.2.1 0, 96, .inl (fun _ => 0))) := xu_self _ _ _
  refine lv_adr2 (ad_23).symm ?_
  refine x_putF C hH hS (ci := 8) (T := TX7) (N := 19) (fs' := [.int 0, .int 0, .int 0, .ref q_1, .ref q_7, .int 0, .ref q_14, .ref q_22, .null, .null, .int 0, .null, .null, .null, .null, .null, .null, .null, .null]) hX rfl iWX7 tyX7 tyX7_ok nmX7 7 (by decide) qw_703 rfl rfl hin rfl rfl rfl (Nat.le_of_ble_eq_true rfl) rfl dX7_init_107 (fun H locs hH hS => ?_)
  have hn_3 := xu_of (t := (10, 0, 0)) (e := .inr (8, [.int 0, .int 0, .int 0, .ref q_1, .ref q_7, .int 0, .ref q_14, .ref q_22, .null, .null, .int 0, .null, .null, .null, .null, .null, .null, .null, .null])) (by simp) hn_3
  have hn_10 := xu_of (t := (10, 0, 0)) (e := .inr (8, [.int 0, .int 0, .int 0, .ref q_1, .ref q_7, .int 0, .ref q_14, .ref q_22, .null, .null, .int 0, .null, .null, .null, .null, .null, .null, .null, .null])) (by simp) hn_10
  have hn_18 := xu_of (t := (10, 0, 0)) (e := .inr (8, [.int 0, .int 0, .int 0, .ref q_1, .ref q_7, .int 0, .ref q_14, .ref q_22, .null, .null, .int 0, .null, .null, .null, .null, .null, .null, .null, .null])) (by simp) hn_18
  have hn_27 := xu_of (t := (10, 0, 0)) (e := .inr (8, [.int 0, .int 0, .int 0, .ref q_1, .ref q_7, .int 0, .ref q_14, .ref q_22, .null, .null, .int 0, .null, .null, .null, .null, .null, .null, .null, .null])) (by simp) hn_27
  have hX : (xu (xu w_20 (10, 7, 0) (.inl (E.2.1 0, 96, .inl (fun _ => 0)))) (10, 0, 0) (.inr (8, [.int 0, .int 0, .int 0, .ref q_1, .ref q_7, .int 0, .ref q_14, .ref q_22, .null, .null, .int 0, .null, .null, .null, .null, .null, .null, .null, .null]))) (10, 0, 0) = some (.inr (8, [.int 0, .int 0, .int 0, .ref q_1, .ref q_7, .int 0, .ref q_14, .ref q_22, .null, .null, .int 0, .null, .null, .null, .null, .null, .null, .null, .null])) := xu_self _ _ _
  have fr_30 : ∀ t : Tg, t.1 ≠ 10 → (xu (xu w_20 (10, 7, 0) (.inl (E.2.1 0, 96, .inl (fun _ => 0)))) (10, 0, 0) (.inr (8, [.int 0, .int 0, .int 0, .ref q_1, .ref q_7, .int 0, .ref q_14, .ref q_22, .null, .null, .int 0, .null, .null, .null, .null, .null, .null, .null, .null]))) t = w t ∧ alq_22 t = al t := fun t ht => ⟨by rw [xu_ne (fun e => ht (by rw [e])), xu_ne (fun e => ht (by rw [e]))]; exact (fr_21 t ht).1, by rw [halq_22, xa_ne (fun e => ht (by rw [e]))]; exact (fr_21 t ht).2⟩
  obtain ⟨w_29, hw_29⟩ : ∃ zz9, zz9 = (xu (xu w_20 (10, 7, 0) (.inl (E.2.1 0, 96, .inl (fun _ => 0)))) (10, 0, 0) (.inr (8, [.int 0, .int 0, .int 0, .ref q_1, .ref q_7, .int 0, .ref q_14, .ref q_22, .null, .null, .int 0, .null, .null, .null, .null, .null, .null, .null, .null]))) := ⟨_, rfl⟩
  rw [← hw_29] at hH fr_30 hX hn_3 hn_10 hn_18 hn_27
  refine lv_aload_n hx hb dX7_init_110 rfl (lv_at hl 0 rfl) ?_
  refine lv_bipush (v := nI 96) hx hb dX7_init_111 (by decide +kernel) ?_
  refine x_newa C hH hS (10, 8, 0) 0 (atype := .int) qw_73 rfl rfl (fun _ h => by cases h) (a0 := (96, .inl (fun _ => 0))) (fun cA => rfl) rfl (by omega) (by decide) (by decide) (by decide) dX7_init_113 (fun G31_ hH hS => ?_)
  obtain ⟨q_31, hq_31⟩ : ∃ zz9 : Nat, zz9 = xa alq_22 (10, 8, 0) H.size (10, 8, 0) := ⟨_, rfl⟩
  obtain ⟨alq_31, halq_31⟩ : ∃ zz9 : Tg → Nat, zz9 = xa alq_22 (10, 8, 0) H.size := ⟨_, rfl⟩
  rw [← halq_31] at hH
  rw [← hq_31]
  have ad_32 : alq_31 (10, 0, 0) = al (10, 0, 0) := by rw [halq_31, xa_ne (by simp)]; exact ((ad_23).symm).symm
  have hX := xu_of (t := (10, 8, 0)) (e := .inl (E.2.1 0, 96, .inl (fun _ => 0))) (by simp) hX
  have ad_33 : alq_31 (10, 3, 0) = q_1 := by rw [halq_31, xa_ne (by simp)]; exact ((ad_24).symm).symm
  have hn_3 := xu_of (t := (10, 8, 0)) (e := .inl (E.2.1 0, 96, .inl (fun _ => 0))) (by simp) hn_3
  have ad_34 : alq_31 (10, 4, 0) = q_7 := by rw [halq_31, xa_ne (by simp)]; exact ((ad_25).symm).symm
  have hn_10 := xu_of (t := (10, 8, 0)) (e := .inl (E.2.1 0, 96, .inl (fun _ => 0))) (by simp) hn_10
  have ad_35 : alq_31 (10, 6, 0) = q_14 := by rw [halq_31, xa_ne (by simp)]; exact ((ad_26).symm).symm
  have hn_18 := xu_of (t := (10, 8, 0)) (e := .inl (E.2.1 0, 96, .inl (fun _ => 0))) (by simp) hn_18
  have ad_36 : alq_31 (10, 7, 0) = q_22 := by rw [halq_31, xa_ne (by simp)]; exact ((ad_28).symm).symm
  have hn_27 := xu_of (t := (10, 8, 0)) (e := .inl (E.2.1 0, 96, .inl (fun _ => 0))) (by simp) hn_27
  have ad_38 : alq_31 (10, 8, 0) = q_31 := by rw [halq_31, hq_31]
  have hn_37 : (xu w_29 (10, 8, 0) (.inl (E.2.1 0, 96, .inl (fun _ => 0)))) (10, 8, 0) = some (.inl (E.2.1 0, 96, .inl (fun _ => 0))) := xu_self _ _ _
  refine lv_adr2 (ad_32).symm ?_
  refine x_putF C hH hS (ci := 8) (T := TX7) (N := 19) (fs' := [.int 0, .int 0, .int 0, .ref q_1, .ref q_7, .int 0, .ref q_14, .ref q_22, .ref q_31, .null, .int 0, .null, .null, .null, .null, .null, .null, .null, .null]) hX rfl iWX7 tyX7 tyX7_ok nmX7 8 (by decide) qw_704 rfl rfl hin rfl rfl rfl (Nat.le_of_ble_eq_true rfl) rfl dX7_init_115 (fun H locs hH hS => ?_)
  have hn_3 := xu_of (t := (10, 0, 0)) (e := .inr (8, [.int 0, .int 0, .int 0, .ref q_1, .ref q_7, .int 0, .ref q_14, .ref q_22, .ref q_31, .null, .int 0, .null, .null, .null, .null, .null, .null, .null, .null])) (by simp) hn_3
  have hn_10 := xu_of (t := (10, 0, 0)) (e := .inr (8, [.int 0, .int 0, .int 0, .ref q_1, .ref q_7, .int 0, .ref q_14, .ref q_22, .ref q_31, .null, .int 0, .null, .null, .null, .null, .null, .null, .null, .null])) (by simp) hn_10
  have hn_18 := xu_of (t := (10, 0, 0)) (e := .inr (8, [.int 0, .int 0, .int 0, .ref q_1, .ref q_7, .int 0, .ref q_14, .ref q_22, .ref q_31, .null, .int 0, .null, .null, .null, .null, .null, .null, .null, .null])) (by simp) hn_18
  have hn_27 := xu_of (t := (10, 0, 0)) (e := .inr (8, [.int 0, .int 0, .int 0, .ref q_1, .ref q_7, .int 0, .ref q_14, .ref q_22, .ref q_31, .null, .int 0, .null, .null, .null, .null, .null, .null, .null, .null])) (by simp) hn_27
  have hn_37 := xu_of (t := (10, 0, 0)) (e := .inr (8, [.int 0, .int 0, .int 0, .ref q_1, .ref q_7, .int 0, .ref q_14, .ref q_22, .ref q_31, .null, .int 0, .null, .null, .null, .null, .null, .null, .null, .null])) (by simp) hn_37
  have hX : (xu (xu w_29 (10, 8, 0) (.inl (E.2.1 0, 96, .inl (fun _ => 0)))) (10, 0, 0) (.inr (8, [.int 0, .int 0, .int 0, .ref q_1, .ref q_7, .int 0, .ref q_14, .ref q_22, .ref q_31, .null, .int 0, .null, .null, .null, .null, .null, .null, .null, .null]))) (10, 0, 0) = some (.inr (8, [.int 0, .int 0, .int 0, .ref q_1, .ref q_7, .int 0, .ref q_14, .ref q_22, .ref q_31, .null, .int 0, .null, .null, .null, .null, .null, .null, .null, .null])) := xu_self _ _ _
  have fr_40 : ∀ t : Tg, t.1 ≠ 10 → (xu (xu w_29 (10, 8, 0) (.inl (E.2.1 0, 96, .inl (fun _ => 0)))) (10, 0, 0) (.inr (8, [.int 0, .int 0, .int 0, .ref q_1, .ref q_7, .int 0, .ref q_14, .ref q_22, .ref q_31, .null, .int 0, .null, .null, .null, .null, .null, .null, .null, .null]))) t = w t ∧ alq_31 t = al t := fun t ht => ⟨by rw [xu_ne (fun e => ht (by rw [e])), xu_ne (fun e => ht (by rw [e]))]; exact (fr_30 t ht).1, by rw [halq_31, xa_ne (fun e => ht (by rw [e]))]; exact (fr_30 t ht).2⟩
  obtain ⟨w_39, hw_39⟩ : ∃ zz9, zz9 = (xu (xu w_29 (10, 8, 0) (.inl (E.2.1 0, 96, .inl (fun _ => 0)))) (10, 0, 0) (.inr (8, [.int 0, .int 0, .int 0, .ref q_1, .ref q_7, .int 0, .ref q_14, .ref q_22, .ref q_31, .null, .int 0, .null, .null, .null, .null, .null, .null, .null, .null]))) := ⟨_, rfl⟩
  rw [← hw_39] at hH fr_40 hX hn_3 hn_10 hn_18 hn_27 hn_37
  refine lv_aload_n hx hb dX7_init_118 rfl (lv_at hl 0 rfl) ?_
  refine lv_bipush (v := nI 96) hx hb dX7_init_119 (by decide +kernel) ?_
  refine x_newa C hH hS (10, 9, 0) 0 (atype := .int) qw_73 rfl rfl (fun _ h => by cases h) (a0 := (96, .inl (fun _ => 0))) (fun cA => rfl) rfl (by omega) (by decide) (by decide) (by decide) dX7_init_121 (fun G41_ hH hS => ?_)
  obtain ⟨q_41, hq_41⟩ : ∃ zz9 : Nat, zz9 = xa alq_31 (10, 9, 0) H.size (10, 9, 0) := ⟨_, rfl⟩
  obtain ⟨alq_41, halq_41⟩ : ∃ zz9 : Tg → Nat, zz9 = xa alq_31 (10, 9, 0) H.size := ⟨_, rfl⟩
  rw [← halq_41] at hH
  rw [← hq_41]
  have ad_42 : alq_41 (10, 0, 0) = al (10, 0, 0) := by rw [halq_41, xa_ne (by simp)]; exact ((ad_32).symm).symm
  have hX := xu_of (t := (10, 9, 0)) (e := .inl (E.2.1 0, 96, .inl (fun _ => 0))) (by simp) hX
  have ad_43 : alq_41 (10, 3, 0) = q_1 := by rw [halq_41, xa_ne (by simp)]; exact ((ad_33).symm).symm
  have hn_3 := xu_of (t := (10, 9, 0)) (e := .inl (E.2.1 0, 96, .inl (fun _ => 0))) (by simp) hn_3
  have ad_44 : alq_41 (10, 4, 0) = q_7 := by rw [halq_41, xa_ne (by simp)]; exact ((ad_34).symm).symm
  have hn_10 := xu_of (t := (10, 9, 0)) (e := .inl (E.2.1 0, 96, .inl (fun _ => 0))) (by simp) hn_10
  have ad_45 : alq_41 (10, 6, 0) = q_14 := by rw [halq_41, xa_ne (by simp)]; exact ((ad_35).symm).symm
  have hn_18 := xu_of (t := (10, 9, 0)) (e := .inl (E.2.1 0, 96, .inl (fun _ => 0))) (by simp) hn_18
  have ad_46 : alq_41 (10, 7, 0) = q_22 := by rw [halq_41, xa_ne (by simp)]; exact ((ad_36).symm).symm
  have hn_27 := xu_of (t := (10, 9, 0)) (e := .inl (E.2.1 0, 96, .inl (fun _ => 0))) (by simp) hn_27
  have ad_47 : alq_41 (10, 8, 0) = q_31 := by rw [halq_41, xa_ne (by simp)]; exact ((ad_38).symm).symm
  have hn_37 := xu_of (t := (10, 9, 0)) (e := .inl (E.2.1 0, 96, .inl (fun _ => 0))) (by simp) hn_37
  have ad_49 : alq_41 (10, 9, 0) = q_41 := by rw [halq_41, hq_41]
  have hn_48 : (xu w_39 (10, 9, 0) (.inl (E.2.1 0, 96, .inl (fun _ => 0)))) (10, 9, 0) = some (.inl (E.2.1 0, 96, .inl (fun _ => 0))) := xu_self _ _ _
  refine lv_adr2 (ad_42).symm ?_
  refine x_putF C hH hS (ci := 8) (T := TX7) (N := 19) (fs' := [.int 0, .int 0, .int 0, .ref q_1, .ref q_7, .int 0, .ref q_14, .ref q_22, .ref q_31, .ref q_41, .int 0, .null, .null, .null, .null, .null, .null, .null, .null]) hX rfl iWX7 tyX7 tyX7_ok nmX7 9 (by decide) qw_705 rfl rfl hin rfl rfl rfl (Nat.le_of_ble_eq_true rfl) rfl dX7_init_123 (fun H locs hH hS => ?_)
  have hn_3 := xu_of (t := (10, 0, 0)) (e := .inr (8, [.int 0, .int 0, .int 0, .ref q_1, .ref q_7, .int 0, .ref q_14, .ref q_22, .ref q_31, .ref q_41, .int 0, .null, .null, .null, .null, .null, .null, .null, .null])) (by simp) hn_3
  have hn_10 := xu_of (t := (10, 0, 0)) (e := .inr (8, [.int 0, .int 0, .int 0, .ref q_1, .ref q_7, .int 0, .ref q_14, .ref q_22, .ref q_31, .ref q_41, .int 0, .null, .null, .null, .null, .null, .null, .null, .null])) (by simp) hn_10
  have hn_18 := xu_of (t := (10, 0, 0)) (e := .inr (8, [.int 0, .int 0, .int 0, .ref q_1, .ref q_7, .int 0, .ref q_14, .ref q_22, .ref q_31, .ref q_41, .int 0, .null, .null, .null, .null, .null, .null, .null, .null])) (by simp) hn_18
  have hn_27 := xu_of (t := (10, 0, 0)) (e := .inr (8, [.int 0, .int 0, .int 0, .ref q_1, .ref q_7, .int 0, .ref q_14, .ref q_22, .ref q_31, .ref q_41, .int 0, .null, .null, .null, .null, .null, .null, .null, .null])) (by simp) hn_27
  have hn_37 := xu_of (t := (10, 0, 0)) (e := .inr (8, [.int 0, .int 0, .int 0, .ref q_1, .ref q_7, .int 0, .ref q_14, .ref q_22, .ref q_31, .ref q_41, .int 0, .null, .null, .null, .null, .null, .null, .null, .null])) (by simp) hn_37
  have hn_48 := xu_of (t := (10, 0, 0)) (e := .inr (8, [.int 0, .int 0, .int 0, .ref q_1, .ref q_7, .int 0, .ref q_14, .ref q_22, .ref q_31, .ref q_41, .int 0, .null, .null, .null, .null, .null, .null, .null, .null])) (by simp) hn_48
  have hX : (xu (xu w_39 (10, 9, 0) (.inl (E.2.1 0, 96, .inl (fun _ => 0)))) (10, 0, 0) (.inr (8, [.int 0, .int 0, .int 0, .ref q_1, .ref q_7, .int 0, .ref q_14, .ref q_22, .ref q_31, .ref q_41, .int 0, .null, .null, .null, .null, .null, .null, .null, .null]))) (10, 0, 0) = some (.inr (8, [.int 0, .int 0, .int 0, .ref q_1, .ref q_7, .int 0, .ref q_14, .ref q_22, .ref q_31, .ref q_41, .int 0, .null, .null, .null, .null, .null, .null, .null, .null])) := xu_self _ _ _
  have fr_51 : ∀ t : Tg, t.1 ≠ 10 → (xu (xu w_39 (10, 9, 0) (.inl (E.2.1 0, 96, .inl (fun _ => 0)))) (10, 0, 0) (.inr (8, [.int 0, .int 0, .int 0, .ref q_1, .ref q_7, .int 0, .ref q_14, .ref q_22, .ref q_31, .ref q_41, .int 0, .null, .null, .null, .null, .null, .null, .null, .null]))) t = w t ∧ alq_41 t = al t := fun t ht => ⟨by rw [xu_ne (fun e => ht (by rw [e])), xu_ne (fun e => ht (by rw [e]))]; exact (fr_40 t ht).1, by rw [halq_41, xa_ne (fun e => ht (by rw [e]))]; exact (fr_40 t ht).2⟩
  obtain ⟨w_50, hw_50⟩ : ∃ zz9, zz9 = (xu (xu w_39 (10, 9, 0) (.inl (E.2.1 0, 96, .inl (fun _ => 0)))) (10, 0, 0) (.inr (8, [.int 0, .int 0, .int 0, .ref q_1, .ref q_7, .int 0, .ref q_14, .ref q_22, .ref q_31, .ref q_41, .int 0, .null, .null, .null, .null, .null, .null, .null, .null]))) := ⟨_, rfl⟩
  rw [← hw_50] at hH fr_51 hX hn_3 hn_10 hn_18 hn_27 hn_37 hn_48
  refine lv_aload_n hx hb dX7_init_126 rfl (lv_at hl 0 rfl) ?_
  refine lv_sipush (v := nI 150) hx hb dX7_init_127 (by decide +kernel) ?_
  refine x_newa C hH hS (10, 11, 0) 0 (atype := .int) qw_73 rfl rfl (fun _ h => by cases h) (a0 := (150, .inl (fun _ => 0))) (fun cA => rfl) rfl (by omega) (by decide) (by decide) (by decide) dX7_init_130 (fun G52_ hH hS => ?_)
  obtain ⟨q_52, hq_52⟩ : ∃ zz9 : Nat, zz9 = xa alq_41 (10, 11, 0) H.size (10, 11, 0) := ⟨_, rfl⟩
  obtain ⟨alq_52, halq_52⟩ : ∃ zz9 : Tg → Nat, zz9 = xa alq_41 (10, 11, 0) H.size := ⟨_, rfl⟩
  rw [← halq_52] at hH
  rw [← hq_52]
  have ad_53 : alq_52 (10, 0, 0) = al (10, 0, 0) := by rw [halq_52, xa_ne (by simp)]; exact ((ad_42).symm).symm
  have hX := xu_of (t := (10, 11, 0)) (e := .inl (E.2.1 0, 150, .inl (fun _ => 0))) (by simp) hX
  have ad_54 : alq_52 (10, 3, 0) = q_1 := by rw [halq_52, xa_ne (by simp)]; exact ((ad_43).symm).symm
  have hn_3 := xu_of (t := (10, 11, 0)) (e := .inl (E.2.1 0, 150, .inl (fun _ => 0))) (by simp) hn_3
  have ad_55 : alq_52 (10, 4, 0) = q_7 := by rw [halq_52, xa_ne (by simp)]; exact ((ad_44).symm).symm
  have hn_10 := xu_of (t := (10, 11, 0)) (e := .inl (E.2.1 0, 150, .inl (fun _ => 0))) (by simp) hn_10
  have ad_56 : alq_52 (10, 6, 0) = q_14 := by rw [halq_52, xa_ne (by simp)]; exact ((ad_45).symm).symm
  have hn_18 := xu_of (t := (10, 11, 0)) (e := .inl (E.2.1 0, 150, .inl (fun _ => 0))) (by simp) hn_18
  have ad_57 : alq_52 (10, 7, 0) = q_22 := by rw [halq_52, xa_ne (by simp)]; exact ((ad_46).symm).symm
  have hn_27 := xu_of (t := (10, 11, 0)) (e := .inl (E.2.1 0, 150, .inl (fun _ => 0))) (by simp) hn_27
  have ad_58 : alq_52 (10, 8, 0) = q_31 := by rw [halq_52, xa_ne (by simp)]; exact ((ad_47).symm).symm
  have hn_37 := xu_of (t := (10, 11, 0)) (e := .inl (E.2.1 0, 150, .inl (fun _ => 0))) (by simp) hn_37
  have ad_59 : alq_52 (10, 9, 0) = q_41 := by rw [halq_52, xa_ne (by simp)]; exact ((ad_49).symm).symm
  have hn_48 := xu_of (t := (10, 11, 0)) (e := .inl (E.2.1 0, 150, .inl (fun _ => 0))) (by simp) hn_48
  have ad_61 : alq_52 (10, 11, 0) = q_52 := by rw [halq_52, hq_52]
  have hn_60 : (xu w_50 (10, 11, 0) (.inl (E.2.1 0, 150, .inl (fun _ => 0)))) (10, 11, 0) = some (.inl (E.2.1 0, 150, .inl (fun _ => 0))) := xu_self _ _ _
  refine lv_adr2 (ad_53).symm ?_
  refine x_putF C hH hS (ci := 8) (T := TX7) (N := 19) (fs' := [.int 0, .int 0, .int 0, .ref q_1, .ref q_7, .int 0, .ref q_14, .ref q_22, .ref q_31, .ref q_41, .int 0, .ref q_52, .null, .null, .null, .null, .null, .null, .null]) hX rfl iWX7 tyX7 tyX7_ok nmX7 11 (by decide) qw_707 rfl rfl hin rfl rfl rfl (Nat.le_of_ble_eq_true rfl) rfl dX7_init_132 (fun H locs hH hS => ?_)
  have hn_3 := xu_of (t := (10, 0, 0)) (e := .inr (8, [.int 0, .int 0, .int 0, .ref q_1, .ref q_7, .int 0, .ref q_14, .ref q_22, .ref q_31, .ref q_41, .int 0, .ref q_52, .null, .null, .null, .null, .null, .null, .null])) (by simp) hn_3
  have hn_10 := xu_of (t := (10, 0, 0)) (e := .inr (8, [.int 0, .int 0, .int 0, .ref q_1, .ref q_7, .int 0, .ref q_14, .ref q_22, .ref q_31, .ref q_41, .int 0, .ref q_52, .null, .null, .null, .null, .null, .null, .null])) (by simp) hn_10
  have hn_18 := xu_of (t := (10, 0, 0)) (e := .inr (8, [.int 0, .int 0, .int 0, .ref q_1, .ref q_7, .int 0, .ref q_14, .ref q_22, .ref q_31, .ref q_41, .int 0, .ref q_52, .null, .null, .null, .null, .null, .null, .null])) (by simp) hn_18
  have hn_27 := xu_of (t := (10, 0, 0)) (e := .inr (8, [.int 0, .int 0, .int 0, .ref q_1, .ref q_7, .int 0, .ref q_14, .ref q_22, .ref q_31, .ref q_41, .int 0, .ref q_52, .null, .null, .null, .null, .null, .null, .null])) (by simp) hn_27
  have hn_37 := xu_of (t := (10, 0, 0)) (e := .inr (8, [.int 0, .int 0, .int 0, .ref q_1, .ref q_7, .int 0, .ref q_14, .ref q_22, .ref q_31, .ref q_41, .int 0, .ref q_52, .null, .null, .null, .null, .null, .null, .null])) (by simp) hn_37
  have hn_48 := xu_of (t := (10, 0, 0)) (e := .inr (8, [.int 0, .int 0, .int 0, .ref q_1, .ref q_7, .int 0, .ref q_14, .ref q_22, .ref q_31, .ref q_41, .int 0, .ref q_52, .null, .null, .null, .null, .null, .null, .null])) (by simp) hn_48
  have hn_60 := xu_of (t := (10, 0, 0)) (e := .inr (8, [.int 0, .int 0, .int 0, .ref q_1, .ref q_7, .int 0, .ref q_14, .ref q_22, .ref q_31, .ref q_41, .int 0, .ref q_52, .null, .null, .null, .null, .null, .null, .null])) (by simp) hn_60
  have hX : (xu (xu w_50 (10, 11, 0) (.inl (E.2.1 0, 150, .inl (fun _ => 0)))) (10, 0, 0) (.inr (8, [.int 0, .int 0, .int 0, .ref q_1, .ref q_7, .int 0, .ref q_14, .ref q_22, .ref q_31, .ref q_41, .int 0, .ref q_52, .null, .null, .null, .null, .null, .null, .null]))) (10, 0, 0) = some (.inr (8, [.int 0, .int 0, .int 0, .ref q_1, .ref q_7, .int 0, .ref q_14, .ref q_22, .ref q_31, .ref q_41, .int 0, .ref q_52, .null, .null, .null, .null, .null, .null, .null])) := xu_self _ _ _
  have fr_63 : ∀ t : Tg, t.1 ≠ 10 → (xu (xu w_50 (10, 11, 0) (.inl (E.2.1 0, 150, .inl (fun _ => 0)))) (10, 0, 0) (.inr (8, [.int 0, .int 0, .int 0, .ref q_1, .ref q_7, .int 0, .ref q_14, .ref q_22, .ref q_31, .ref q_41, .int 0, .ref q_52, .null, .null, .null, .null, .null, .null, .null]))) t = w t ∧ alq_52 t = al t := fun t ht => ⟨by rw [xu_ne (fun e => ht (by rw [e])), xu_ne (fun e => ht (by rw [e]))]; exact (fr_51 t ht).1, by rw [halq_52, xa_ne (fun e => ht (by rw [e]))]; exact (fr_51 t ht).2⟩
  obtain ⟨w_62, hw_62⟩ : ∃ zz9, zz9 = (xu (xu w_50 (10, 11, 0) (.inl (E.2.1 0, 150, .inl (fun _ => 0)))) (10, 0, 0) (.inr (8, [.int 0, .int 0, .int 0, .ref q_1, .ref q_7, .int 0, .ref q_14, .ref q_22, .ref q_31, .ref q_41, .int 0, .ref q_52, .null, .null, .null, .null, .null, .null, .null]))) := ⟨_, rfl⟩
  rw [← hw_62] at hH fr_63 hX hn_3 hn_10 hn_18 hn_27 hn_37 hn_48 hn_60
  refine lv_aload_n hx hb dX7_init_135 rfl (lv_at hl 0 rfl) ?_
  refine lv_sipush (v := nI 150) hx hb dX7_init_136 (by decide +kernel) ?_
  refine x_newa C hH hS (10, 12, 0) 0 (atype := .int) qw_73 rfl rfl (fun _ h => by cases h) (a0 := (150, .inl (fun _ => 0))) (fun cA => rfl) rfl (by omega) (by decide) (by decide) (by decide) dX7_init_139 (fun G64_ hH hS => ?_)
  obtain ⟨q_64, hq_64⟩ : ∃ zz9 : Nat, zz9 = xa alq_52 (10, 12, 0) H.size (10, 12, 0) := ⟨_, rfl⟩
  obtain ⟨alq_64, halq_64⟩ : ∃ zz9 : Tg → Nat, zz9 = xa alq_52 (10, 12, 0) H.size := ⟨_, rfl⟩
  rw [← halq_64] at hH
  rw [← hq_64]
  have ad_65 : alq_64 (10, 0, 0) = al (10, 0, 0) := by rw [halq_64, xa_ne (by simp)]; exact ((ad_53).symm).symm
  have hX := xu_of (t := (10, 12, 0)) (e := .inl (E.2.1 0, 150, .inl (fun _ => 0))) (by simp) hX
  have ad_66 : alq_64 (10, 3, 0) = q_1 := by rw [halq_64, xa_ne (by simp)]; exact ((ad_54).symm).symm
  have hn_3 := xu_of (t := (10, 12, 0)) (e := .inl (E.2.1 0, 150, .inl (fun _ => 0))) (by simp) hn_3
  have ad_67 : alq_64 (10, 4, 0) = q_7 := by rw [halq_64, xa_ne (by simp)]; exact ((ad_55).symm).symm
  have hn_10 := xu_of (t := (10, 12, 0)) (e := .inl (E.2.1 0, 150, .inl (fun _ => 0))) (by simp) hn_10
  have ad_68 : alq_64 (10, 6, 0) = q_14 := by rw [halq_64, xa_ne (by simp)]; exact ((ad_56).symm).symm
  have hn_18 := xu_of (t := (10, 12, 0)) (e := .inl (E.2.1 0, 150, .inl (fun _ => 0))) (by simp) hn_18
  have ad_69 : alq_64 (10, 7, 0) = q_22 := by rw [halq_64, xa_ne (by simp)]; exact ((ad_57).symm).symm
  have hn_27 := xu_of (t := (10, 12, 0)) (e := .inl (E.2.1 0, 150, .inl (fun _ => 0))) (by simp) hn_27
  have ad_70 : alq_64 (10, 8, 0) = q_31 := by rw [halq_64, xa_ne (by simp)]; exact ((ad_58).symm).symm
  have hn_37 := xu_of (t := (10, 12, 0)) (e := .inl (E.2.1 0, 150, .inl (fun _ => 0))) (by simp) hn_37
  have ad_71 : alq_64 (10, 9, 0) = q_41 := by rw [halq_64, xa_ne (by simp)]; exact ((ad_59).symm).symm
  have hn_48 := xu_of (t := (10, 12, 0)) (e := .inl (E.2.1 0, 150, .inl (fun _ => 0))) (by simp) hn_48
  have ad_72 : alq_64 (10, 11, 0) = q_52 := by rw [halq_64, xa_ne (by simp)]; exact ((ad_61).symm).symm
  have hn_60 := xu_of (t := (10, 12, 0)) (e := .inl (E.2.1 0, 150, .inl (fun _ => 0))) (by simp) hn_60
  have ad_74 : alq_64 (10, 12, 0) = q_64 := by rw [halq_64, hq_64]
  have hn_73 : (xu w_62 (10, 12, 0) (.inl (E.2.1 0, 150, .inl (fun _ => 0)))) (10, 12, 0) = some (.inl (E.2.1 0, 150, .inl (fun _ => 0))) := xu_self _ _ _
  refine lv_adr2 (ad_65).symm ?_
  refine x_putF C hH hS (ci := 8) (T := TX7) (N := 19) (fs' := [.int 0, .int 0, .int 0, .ref q_1, .ref q_7, .int 0, .ref q_14, .ref q_22, .ref q_31, .ref q_41, .int 0, .ref q_52, .ref q_64, .null, .null, .null, .null, .null, .null]) hX rfl iWX7 tyX7 tyX7_ok nmX7 12 (by decide) qw_708 rfl rfl hin rfl rfl rfl (Nat.le_of_ble_eq_true rfl) rfl dX7_init_141 (fun H locs hH hS => ?_)
  have hn_3 := xu_of (t := (10, 0, 0)) (e := .inr (8, [.int 0, .int 0, .int 0, .ref q_1, .ref q_7, .int 0, .ref q_14, .ref q_22, .ref q_31, .ref q_41, .int 0, .ref q_52, .ref q_64, .null, .null, .null, .null, .null, .null])) (by simp) hn_3
  have hn_10 := xu_of (t := (10, 0, 0)) (e := .inr (8, [.int 0, .int 0, .int 0, .ref q_1, .ref q_7, .int 0, .ref q_14, .ref q_22, .ref q_31, .ref q_41, .int 0, .ref q_52, .ref q_64, .null, .null, .null, .null, .null, .null])) (by simp) hn_10
  have hn_18 := xu_of (t := (10, 0, 0)) (e := .inr (8, [.int 0, .int 0, .int 0, .ref q_1, .ref q_7, .int 0, .ref q_14, .ref q_22, .ref q_31, .ref q_41, .int 0, .ref q_52, .ref q_64, .null, .null, .null, .null, .null, .null])) (by simp) hn_18
  have hn_27 := xu_of (t := (10, 0, 0)) (e := .inr (8, [.int 0, .int 0, .int 0, .ref q_1, .ref q_7, .int 0, .ref q_14, .ref q_22, .ref q_31, .ref q_41, .int 0, .ref q_52, .ref q_64, .null, .null, .null, .null, .null, .null])) (by simp) hn_27
  have hn_37 := xu_of (t := (10, 0, 0)) (e := .inr (8, [.int 0, .int 0, .int 0, .ref q_1, .ref q_7, .int 0, .ref q_14, .ref q_22, .ref q_31, .ref q_41, .int 0, .ref q_52, .ref q_64, .null, .null, .null, .null, .null, .null])) (by simp) hn_37
  have hn_48 := xu_of (t := (10, 0, 0)) (e := .inr (8, [.int 0, .int 0, .int 0, .ref q_1, .ref q_7, .int 0, .ref q_14, .ref q_22, .ref q_31, .ref q_41, .int 0, .ref q_52, .ref q_64, .null, .null, .null, .null, .null, .null])) (by simp) hn_48
  have hn_60 := xu_of (t := (10, 0, 0)) (e := .inr (8, [.int 0, .int 0, .int 0, .ref q_1, .ref q_7, .int 0, .ref q_14, .ref q_22, .ref q_31, .ref q_41, .int 0, .ref q_52, .ref q_64, .null, .null, .null, .null, .null, .null])) (by simp) hn_60
  have hn_73 := xu_of (t := (10, 0, 0)) (e := .inr (8, [.int 0, .int 0, .int 0, .ref q_1, .ref q_7, .int 0, .ref q_14, .ref q_22, .ref q_31, .ref q_41, .int 0, .ref q_52, .ref q_64, .null, .null, .null, .null, .null, .null])) (by simp) hn_73
  have hX : (xu (xu w_62 (10, 12, 0) (.inl (E.2.1 0, 150, .inl (fun _ => 0)))) (10, 0, 0) (.inr (8, [.int 0, .int 0, .int 0, .ref q_1, .ref q_7, .int 0, .ref q_14, .ref q_22, .ref q_31, .ref q_41, .int 0, .ref q_52, .ref q_64, .null, .null, .null, .null, .null, .null]))) (10, 0, 0) = some (.inr (8, [.int 0, .int 0, .int 0, .ref q_1, .ref q_7, .int 0, .ref q_14, .ref q_22, .ref q_31, .ref q_41, .int 0, .ref q_52, .ref q_64, .null, .null, .null, .null, .null, .null])) := xu_self _ _ _
  have fr_76 : ∀ t : Tg, t.1 ≠ 10 → (xu (xu w_62 (10, 12, 0) (.inl (E.2.1 0, 150, .inl (fun _ => 0)))) (10, 0, 0) (.inr (8, [.int 0, .int 0, .int 0, .ref q_1, .ref q_7, .int 0, .ref q_14, .ref q_22, .ref q_31, .ref q_41, .int 0, .ref q_52, .ref q_64, .null, .null, .null, .null, .null, .null]))) t = w t ∧ alq_64 t = al t := fun t ht => ⟨by rw [xu_ne (fun e => ht (by rw [e])), xu_ne (fun e => ht (by rw [e]))]; exact (fr_63 t ht).1, by rw [halq_64, xa_ne (fun e => ht (by rw [e]))]; exact (fr_63 t ht).2⟩
  obtain ⟨w_75, hw_75⟩ : ∃ zz9, zz9 = (xu (xu w_62 (10, 12, 0) (.inl (E.2.1 0, 150, .inl (fun _ => 0)))) (10, 0, 0) (.inr (8, [.int 0, .int 0, .int 0, .ref q_1, .ref q_7, .int 0, .ref q_14, .ref q_22, .ref q_31, .ref q_41, .int 0, .ref q_52, .ref q_64, .null, .null, .null, .null, .null, .null]))) := ⟨_, rfl⟩
  rw [← hw_75] at hH fr_76 hX hn_3 hn_10 hn_18 hn_27 hn_37 hn_48 hn_60 hn_73
  refine lv_aload_n hx hb dX7_init_144 rfl (lv_at hl 0 rfl) ?_
  refine lv_sipush (v := nI 150) hx hb dX7_init_145 (by decide +kernel) ?_
  refine x_newa C hH hS (10, 13, 0) 0 (atype := .int) qw_73 rfl rfl (fun _ h => by cases h) (a0 := (150, .inl (fun _ => 0))) (fun cA => rfl) rfl (by omega) (by decide) (by decide) (by decide) dX7_init_148 (fun G77_ hH hS => ?_)
  obtain ⟨q_77, hq_77⟩ : ∃ zz9 : Nat, zz9 = xa alq_64 (10, 13, 0) H.size (10, 13, 0) := ⟨_, rfl⟩
  obtain ⟨alq_77, halq_77⟩ : ∃ zz9 : Tg → Nat, zz9 = xa alq_64 (10, 13, 0) H.size := ⟨_, rfl⟩
  rw [← halq_77] at hH
  rw [← hq_77]
  have ad_78 : alq_77 (10, 0, 0) = al (10, 0, 0) := by rw [halq_77, xa_ne (by simp)]; exact ((ad_65).symm).symm
  have hX := xu_of (t := (10, 13, 0)) (e := .inl (E.2.1 0, 150, .inl (fun _ => 0))) (by simp) hX
  have ad_79 : alq_77 (10, 3, 0) = q_1 := by rw [halq_77, xa_ne (by simp)]; exact ((ad_66).symm).symm
  have hn_3 := xu_of (t := (10, 13, 0)) (e := .inl (E.2.1 0, 150, .inl (fun _ => 0))) (by simp) hn_3
  have ad_80 : alq_77 (10, 4, 0) = q_7 := by rw [halq_77, xa_ne (by simp)]; exact ((ad_67).symm).symm
  have hn_10 := xu_of (t := (10, 13, 0)) (e := .inl (E.2.1 0, 150, .inl (fun _ => 0))) (by simp) hn_10
  have ad_81 : alq_77 (10, 6, 0) = q_14 := by rw [halq_77, xa_ne (by simp)]; exact ((ad_68).symm).symm
  have hn_18 := xu_of (t := (10, 13, 0)) (e := .inl (E.2.1 0, 150, .inl (fun _ => 0))) (by simp) hn_18
  have ad_82 : alq_77 (10, 7, 0) = q_22 := by rw [halq_77, xa_ne (by simp)]; exact ((ad_69).symm).symm
  have hn_27 := xu_of (t := (10, 13, 0)) (e := .inl (E.2.1 0, 150, .inl (fun _ => 0))) (by simp) hn_27
  have ad_83 : alq_77 (10, 8, 0) = q_31 := by rw [halq_77, xa_ne (by simp)]; exact ((ad_70).symm).symm
  have hn_37 := xu_of (t := (10, 13, 0)) (e := .inl (E.2.1 0, 150, .inl (fun _ => 0))) (by simp) hn_37
  have ad_84 : alq_77 (10, 9, 0) = q_41 := by rw [halq_77, xa_ne (by simp)]; exact ((ad_71).symm).symm
  have hn_48 := xu_of (t := (10, 13, 0)) (e := .inl (E.2.1 0, 150, .inl (fun _ => 0))) (by simp) hn_48
  have ad_85 : alq_77 (10, 11, 0) = q_52 := by rw [halq_77, xa_ne (by simp)]; exact ((ad_72).symm).symm
  have hn_60 := xu_of (t := (10, 13, 0)) (e := .inl (E.2.1 0, 150, .inl (fun _ => 0))) (by simp) hn_60
  have ad_86 : alq_77 (10, 12, 0) = q_64 := by rw [halq_77, xa_ne (by simp)]; exact ((ad_74).symm).symm
  have hn_73 := xu_of (t := (10, 13, 0)) (e := .inl (E.2.1 0, 150, .inl (fun _ => 0))) (by simp) hn_73
  have ad_88 : alq_77 (10, 13, 0) = q_77 := by rw [halq_77, hq_77]
  have hn_87 : (xu w_75 (10, 13, 0) (.inl (E.2.1 0, 150, .inl (fun _ => 0)))) (10, 13, 0) = some (.inl (E.2.1 0, 150, .inl (fun _ => 0))) := xu_self _ _ _
  refine lv_adr2 (ad_78).symm ?_
  refine x_putF C hH hS (ci := 8) (T := TX7) (N := 19) (fs' := [.int 0, .int 0, .int 0, .ref q_1, .ref q_7, .int 0, .ref q_14, .ref q_22, .ref q_31, .ref q_41, .int 0, .ref q_52, .ref q_64, .ref q_77, .null, .null, .null, .null, .null]) hX rfl iWX7 tyX7 tyX7_ok nmX7 13 (by decide) qw_709 rfl rfl hin rfl rfl rfl (Nat.le_of_ble_eq_true rfl) rfl dX7_init_150 (fun H locs hH hS => ?_)
  have hn_3 := xu_of (t := (10, 0, 0)) (e := .inr (8, [.int 0, .int 0, .int 0, .ref q_1, .ref q_7, .int 0, .ref q_14, .ref q_22, .ref q_31, .ref q_41, .int 0, .ref q_52, .ref q_64, .ref q_77, .null, .null, .null, .null, .null])) (by simp) hn_3
  have hn_10 := xu_of (t := (10, 0, 0)) (e := .inr (8, [.int 0, .int 0, .int 0, .ref q_1, .ref q_7, .int 0, .ref q_14, .ref q_22, .ref q_31, .ref q_41, .int 0, .ref q_52, .ref q_64, .ref q_77, .null, .null, .null, .null, .null])) (by simp) hn_10
  have hn_18 := xu_of (t := (10, 0, 0)) (e := .inr (8, [.int 0, .int 0, .int 0, .ref q_1, .ref q_7, .int 0, .ref q_14, .ref q_22, .ref q_31, .ref q_41, .int 0, .ref q_52, .ref q_64, .ref q_77, .null, .null, .null, .null, .null])) (by simp) hn_18
  have hn_27 := xu_of (t := (10, 0, 0)) (e := .inr (8, [.int 0, .int 0, .int 0, .ref q_1, .ref q_7, .int 0, .ref q_14, .ref q_22, .ref q_31, .ref q_41, .int 0, .ref q_52, .ref q_64, .ref q_77, .null, .null, .null, .null, .null])) (by simp) hn_27
  have hn_37 := xu_of (t := (10, 0, 0)) (e := .inr (8, [.int 0, .int 0, .int 0, .ref q_1, .ref q_7, .int 0, .ref q_14, .ref q_22, .ref q_31, .ref q_41, .int 0, .ref q_52, .ref q_64, .ref q_77, .null, .null, .null, .null, .null])) (by simp) hn_37
  have hn_48 := xu_of (t := (10, 0, 0)) (e := .inr (8, [.int 0, .int 0, .int 0, .ref q_1, .ref q_7, .int 0, .ref q_14, .ref q_22, .ref q_31, .ref q_41, .int 0, .ref q_52, .ref q_64, .ref q_77, .null, .null, .null, .null, .null])) (by simp) hn_48
  have hn_60 := xu_of (t := (10, 0, 0)) (e := .inr (8, [.int 0, .int 0, .int 0, .ref q_1, .ref q_7, .int 0, .ref q_14, .ref q_22, .ref q_31, .ref q_41, .int 0, .ref q_52, .ref q_64, .ref q_77, .null, .null, .null, .null, .null])) (by simp) hn_60
  have hn_73 := xu_of (t := (10, 0, 0)) (e := .inr (8, [.int 0, .int 0, .int 0, .ref q_1, .ref q_7, .int 0, .ref q_14, .ref q_22, .ref q_31, .ref q_41, .int 0, .ref q_52, .ref q_64, .ref q_77, .null, .null, .null, .null, .null])) (by simp) hn_73
  have hn_87 := xu_of (t := (10, 0, 0)) (e := .inr (8, [.int 0, .int 0, .int 0, .ref q_1, .ref q_7, .int 0, .ref q_14, .ref q_22, .ref q_31, .ref q_41, .int 0, .ref q_52, .ref q_64, .ref q_77, .null, .null, .null, .null, .null])) (by simp) hn_87
  have hX : (xu (xu w_75 (10, 13, 0) (.inl (E.2.1 0, 150, .inl (fun _ => 0)))) (10, 0, 0) (.inr (8, [.int 0, .int 0, .int 0, .ref q_1, .ref q_7, .int 0, .ref q_14, .ref q_22, .ref q_31, .ref q_41, .int 0, .ref q_52, .ref q_64, .ref q_77, .null, .null, .null, .null, .null]))) (10, 0, 0) = some (.inr (8, [.int 0, .int 0, .int 0, .ref q_1, .ref q_7, .int 0, .ref q_14, .ref q_22, .ref q_31, .ref q_41, .int 0, .ref q_52, .ref q_64, .ref q_77, .null, .null, .null, .null, .null])) := xu_self _ _ _
  have fr_90 : ∀ t : Tg, t.1 ≠ 10 → (xu (xu w_75 (10, 13, 0) (.inl (E.2.1 0, 150, .inl (fun _ => 0)))) (10, 0, 0) (.inr (8, [.int 0, .int 0, .int 0, .ref q_1, .ref q_7, .int 0, .ref q_14, .ref q_22, .ref q_31, .ref q_41, .int 0, .ref q_52, .ref q_64, .ref q_77, .null, .null, .null, .null, .null]))) t = w t ∧ alq_77 t = al t := fun t ht => ⟨by rw [xu_ne (fun e => ht (by rw [e])), xu_ne (fun e => ht (by rw [e]))]; exact (fr_76 t ht).1, by rw [halq_77, xa_ne (fun e => ht (by rw [e]))]; exact (fr_76 t ht).2⟩
  obtain ⟨w_89, hw_89⟩ : ∃ zz9, zz9 = (xu (xu w_75 (10, 13, 0) (.inl (E.2.1 0, 150, .inl (fun _ => 0)))) (10, 0, 0) (.inr (8, [.int 0, .int 0, .int 0, .ref q_1, .ref q_7, .int 0, .ref q_14, .ref q_22, .ref q_31, .ref q_41, .int 0, .ref q_52, .ref q_64, .ref q_77, .null, .null, .null, .null, .null]))) := ⟨_, rfl⟩
  rw [← hw_89] at hH fr_90 hX hn_3 hn_10 hn_18 hn_27 hn_37 hn_48 hn_60 hn_73 hn_87
  refine lv_aload_n hx hb dX7_init_153 rfl (lv_at hl 0 rfl) ?_
  refine lv_sipush (v := nI 150) hx hb dX7_init_154 (by decide +kernel) ?_
  refine x_newa C hH hS (10, 14, 0) 0 (atype := .int) qw_73 rfl rfl (fun _ h => by cases h) (a0 := (150, .inl (fun _ => 0))) (fun cA => rfl) rfl (by omega) (by decide) (by decide) (by decide) dX7_init_157 (fun G91_ hH hS => ?_)
  obtain ⟨q_91, hq_91⟩ : ∃ zz9 : Nat, zz9 = xa alq_77 (10, 14, 0) H.size (10, 14, 0) := ⟨_, rfl⟩
  obtain ⟨alq_91, halq_91⟩ : ∃ zz9 : Tg → Nat, zz9 = xa alq_77 (10, 14, 0) H.size := ⟨_, rfl⟩
  rw [← halq_91] at hH
  rw [← hq_91]
  have ad_92 : alq_91 (10, 0, 0) = al (10, 0, 0) := by rw [halq_91, xa_ne (by simp)]; exact ((ad_78).symm).symm
  have hX := xu_of (t := (10, 14, 0)) (e := .inl (E.2.1 0, 150, .inl (fun _ => 0))) (by simp) hX
  have ad_93 : alq_91 (10, 3, 0) = q_1 := by rw [halq_91, xa_ne (by simp)]; exact ((ad_79).symm).symm
  have hn_3 := xu_of (t := (10, 14, 0)) (e := .inl (E.2.1 0, 150, .inl (fun _ => 0))) (by simp) hn_3
  have ad_94 : alq_91 (10, 4, 0) = q_7 := by rw [halq_91, xa_ne (by simp)]; exact ((ad_80).symm).symm
  have hn_10 := xu_of (t := (10, 14, 0)) (e := .inl (E.2.1 0, 150, .inl (fun _ => 0))) (by simp) hn_10
  have ad_95 : alq_91 (10, 6, 0) = q_14 := by rw [halq_91, xa_ne (by simp)]; exact ((ad_81).symm).symm
  have hn_18 := xu_of (t := (10, 14, 0)) (e := .inl (E.2.1 0, 150, .inl (fun _ => 0))) (by simp) hn_18
  have ad_96 : alq_91 (10, 7, 0) = q_22 := by rw [halq_91, xa_ne (by simp)]; exact ((ad_82).symm).symm
  have hn_27 := xu_of (t := (10, 14, 0)) (e := .inl (E.2.1 0, 150, .inl (fun _ => 0))) (by simp) hn_27
  have ad_97 : alq_91 (10, 8, 0) = q_31 := by rw [halq_91, xa_ne (by simp)]; exact ((ad_83).symm).symm
  have hn_37 := xu_of (t := (10, 14, 0)) (e := .inl (E.2.1 0, 150, .inl (fun _ => 0))) (by simp) hn_37
  have ad_98 : alq_91 (10, 9, 0) = q_41 := by rw [halq_91, xa_ne (by simp)]; exact ((ad_84).symm).symm
  have hn_48 := xu_of (t := (10, 14, 0)) (e := .inl (E.2.1 0, 150, .inl (fun _ => 0))) (by simp) hn_48
  have ad_99 : alq_91 (10, 11, 0) = q_52 := by rw [halq_91, xa_ne (by simp)]; exact ((ad_85).symm).symm
  have hn_60 := xu_of (t := (10, 14, 0)) (e := .inl (E.2.1 0, 150, .inl (fun _ => 0))) (by simp) hn_60
  have ad_100 : alq_91 (10, 12, 0) = q_64 := by rw [halq_91, xa_ne (by simp)]; exact ((ad_86).symm).symm
  have hn_73 := xu_of (t := (10, 14, 0)) (e := .inl (E.2.1 0, 150, .inl (fun _ => 0))) (by simp) hn_73
  have ad_101 : alq_91 (10, 13, 0) = q_77 := by rw [halq_91, xa_ne (by simp)]; exact ((ad_88).symm).symm
  have hn_87 := xu_of (t := (10, 14, 0)) (e := .inl (E.2.1 0, 150, .inl (fun _ => 0))) (by simp) hn_87
  have ad_103 : alq_91 (10, 14, 0) = q_91 := by rw [halq_91, hq_91]
  have hn_102 : (xu w_89 (10, 14, 0) (.inl (E.2.1 0, 150, .inl (fun _ => 0)))) (10, 14, 0) = some (.inl (E.2.1 0, 150, .inl (fun _ => 0))) := xu_self _ _ _
  refine lv_adr2 (ad_92).symm ?_
  refine x_putF C hH hS (ci := 8) (T := TX7) (N := 19) (fs' := [.int 0, .int 0, .int 0, .ref q_1, .ref q_7, .int 0, .ref q_14, .ref q_22, .ref q_31, .ref q_41, .int 0, .ref q_52, .ref q_64, .ref q_77, .ref q_91, .null, .null, .null, .null]) hX rfl iWX7 tyX7 tyX7_ok nmX7 14 (by decide) qw_710 rfl rfl hin rfl rfl rfl (Nat.le_of_ble_eq_true rfl) rfl dX7_init_159 (fun H locs hH hS => ?_)
  have hn_3 := xu_of (t := (10, 0, 0)) (e := .inr (8, [.int 0, .int 0, .int 0, .ref q_1, .ref q_7, .int 0, .ref q_14, .ref q_22, .ref q_31, .ref q_41, .int 0, .ref q_52, .ref q_64, .ref q_77, .ref q_91, .null, .null, .null, .null])) (by simp) hn_3
  have hn_10 := xu_of (t := (10, 0, 0)) (e := .inr (8, [.int 0, .int 0, .int 0, .ref q_1, .ref q_7, .int 0, .ref q_14, .ref q_22, .ref q_31, .ref q_41, .int 0, .ref q_52, .ref q_64, .ref q_77, .ref q_91, .null, .null, .null, .null])) (by simp) hn_10
  have hn_18 := xu_of (t := (10, 0, 0)) (e := .inr (8, [.int 0, .int 0, .int 0, .ref q_1, .ref q_7, .int 0, .ref q_14, .ref q_22, .ref q_31, .ref q_41, .int 0, .ref q_52, .ref q_64, .ref q_77, .ref q_91, .null, .null, .null, .null])) (by simp) hn_18
  have hn_27 := xu_of (t := (10, 0, 0)) (e := .inr (8, [.int 0, .int 0, .int 0, .ref q_1, .ref q_7, .int 0, .ref q_14, .ref q_22, .ref q_31, .ref q_41, .int 0, .ref q_52, .ref q_64, .ref q_77, .ref q_91, .null, .null, .null, .null])) (by simp) hn_27
  have hn_37 := xu_of (t := (10, 0, 0)) (e := .inr (8, [.int 0, .int 0, .int 0, .ref q_1, .ref q_7, .int 0, .ref q_14, .ref q_22, .ref q_31, .ref q_41, .int 0, .ref q_52, .ref q_64, .ref q_77, .ref q_91, .null, .null, .null, .null])) (by simp) hn_37
  have hn_48 := xu_of (t := (10, 0, 0)) (e := .inr (8, [.int 0, .int 0, .int 0, .ref q_1, .ref q_7, .int 0, .ref q_14, .ref q_22, .ref q_31, .ref q_41, .int 0, .ref q_52, .ref q_64, .ref q_77, .ref q_91, .null, .null, .null, .null])) (by simp) hn_48
  have hn_60 := xu_of (t := (10, 0, 0)) (e := .inr (8, [.int 0, .int 0, .int 0, .ref q_1, .ref q_7, .int 0, .ref q_14, .ref q_22, .ref q_31, .ref q_41, .int 0, .ref q_52, .ref q_64, .ref q_77, .ref q_91, .null, .null, .null, .null])) (by simp) hn_60
  have hn_73 := xu_of (t := (10, 0, 0)) (e := .inr (8, [.int 0, .int 0, .int 0, .ref q_1, .ref q_7, .int 0, .ref q_14, .ref q_22, .ref q_31, .ref q_41, .int 0, .ref q_52, .ref q_64, .ref q_77, .ref q_91, .null, .null, .null, .null])) (by simp) hn_73
  have hn_87 := xu_of (t := (10, 0, 0)) (e := .inr (8, [.int 0, .int 0, .int 0, .ref q_1, .ref q_7, .int 0, .ref q_14, .ref q_22, .ref q_31, .ref q_41, .int 0, .ref q_52, .ref q_64, .ref q_77, .ref q_91, .null, .null, .null, .null])) (by simp) hn_87
  have hn_102 := xu_of (t := (10, 0, 0)) (e := .inr (8, [.int 0, .int 0, .int 0, .ref q_1, .ref q_7, .int 0, .ref q_14, .ref q_22, .ref q_31, .ref q_41, .int 0, .ref q_52, .ref q_64, .ref q_77, .ref q_91, .null, .null, .null, .null])) (by simp) hn_102
  have hX : (xu (xu w_89 (10, 14, 0) (.inl (E.2.1 0, 150, .inl (fun _ => 0)))) (10, 0, 0) (.inr (8, [.int 0, .int 0, .int 0, .ref q_1, .ref q_7, .int 0, .ref q_14, .ref q_22, .ref q_31, .ref q_41, .int 0, .ref q_52, .ref q_64, .ref q_77, .ref q_91, .null, .null, .null, .null]))) (10, 0, 0) = some (.inr (8, [.int 0, .int 0, .int 0, .ref q_1, .ref q_7, .int 0, .ref q_14, .ref q_22, .ref q_31, .ref q_41, .int 0, .ref q_52, .ref q_64, .ref q_77, .ref q_91, .null, .null, .null, .null])) := xu_self _ _ _
  have fr_105 : ∀ t : Tg, t.1 ≠ 10 → (xu (xu w_89 (10, 14, 0) (.inl (E.2.1 0, 150, .inl (fun _ => 0)))) (10, 0, 0) (.inr (8, [.int 0, .int 0, .int 0, .ref q_1, .ref q_7, .int 0, .ref q_14, .ref q_22, .ref q_31, .ref q_41, .int 0, .ref q_52, .ref q_64, .ref q_77, .ref q_91, .null, .null, .null, .null]))) t = w t ∧ alq_91 t = al t := fun t ht => ⟨by rw [xu_ne (fun e => ht (by rw [e])), xu_ne (fun e => ht (by rw [e]))]; exact (fr_90 t ht).1, by rw [halq_91, xa_ne (fun e => ht (by rw [e]))]; exact (fr_90 t ht).2⟩
  obtain ⟨w_104, hw_104⟩ : ∃ zz9, zz9 = (xu (xu w_89 (10, 14, 0) (.inl (E.2.1 0, 150, .inl (fun _ => 0)))) (10, 0, 0) (.inr (8, [.int 0, .int 0, .int 0, .ref q_1, .ref q_7, .int 0, .ref q_14, .ref q_22, .ref q_31, .ref q_41, .int 0, .ref q_52, .ref q_64, .ref q_77, .ref q_91, .null, .null, .null, .null]))) := ⟨_, rfl⟩
  rw [← hw_104] at hH fr_105 hX hn_3 hn_10 hn_18 hn_27 hn_37 hn_48 hn_60 hn_73 hn_87 hn_102
  refine lv_aload_n hx hb dX7_init_162 rfl (lv_at hl 0 rfl) ?_
  refine lv_sipush (v := nI 150) hx hb dX7_init_163 (by decide +kernel) ?_
  refine x_newa C hH hS (10, 15, 0) 0 (atype := .int) qw_73 rfl rfl (fun _ h => by cases h) (a0 := (150, .inl (fun _ => 0))) (fun cA => rfl) rfl (by omega) (by decide) (by decide) (by decide) dX7_init_166 (fun G106_ hH hS => ?_)
  obtain ⟨q_106, hq_106⟩ : ∃ zz9 : Nat, zz9 = xa alq_91 (10, 15, 0) H.size (10, 15, 0) := ⟨_, rfl⟩
  obtain ⟨alq_106, halq_106⟩ : ∃ zz9 : Tg → Nat, zz9 = xa alq_91 (10, 15, 0) H.size := ⟨_, rfl⟩
  rw [← halq_106] at hH
  rw [← hq_106]
  have ad_107 : alq_106 (10, 0, 0) = al (10, 0, 0) := by rw [halq_106, xa_ne (by simp)]; exact ((ad_92).symm).symm
  have hX := xu_of (t := (10, 15, 0)) (e := .inl (E.2.1 0, 150, .inl (fun _ => 0))) (by simp) hX
  have ad_108 : alq_106 (10, 3, 0) = q_1 := by rw [halq_106, xa_ne (by simp)]; exact ((ad_93).symm).symm
  have hn_3 := xu_of (t := (10, 15, 0)) (e := .inl (E.2.1 0, 150, .inl (fun _ => 0))) (by simp) hn_3
  have ad_109 : alq_106 (10, 4, 0) = q_7 := by rw [halq_106, xa_ne (by simp)]; exact ((ad_94).symm).symm
  have hn_10 := xu_of (t := (10, 15, 0)) (e := .inl (E.2.1 0, 150, .inl (fun _ => 0))) (by simp) hn_10
  have ad_110 : alq_106 (10, 6, 0) = q_14 := by rw [halq_106, xa_ne (by simp)]; exact ((ad_95).symm).symm
  have hn_18 := xu_of (t := (10, 15, 0)) (e := .inl (E.2.1 0, 150, .inl (fun _ => 0))) (by simp) hn_18
  have ad_111 : alq_106 (10, 7, 0) = q_22 := by rw [halq_106, xa_ne (by simp)]; exact ((ad_96).symm).symm
  have hn_27 := xu_of (t := (10, 15, 0)) (e := .inl (E.2.1 0, 150, .inl (fun _ => 0))) (by simp) hn_27
  have ad_112 : alq_106 (10, 8, 0) = q_31 := by rw [halq_106, xa_ne (by simp)]; exact ((ad_97).symm).symm
  have hn_37 := xu_of (t := (10, 15, 0)) (e := .inl (E.2.1 0, 150, .inl (fun _ => 0))) (by simp) hn_37
  have ad_113 : alq_106 (10, 9, 0) = q_41 := by rw [halq_106, xa_ne (by simp)]; exact ((ad_98).symm).symm
  have hn_48 := xu_of (t := (10, 15, 0)) (e := .inl (E.2.1 0, 150, .inl (fun _ => 0))) (by simp) hn_48
  have ad_114 : alq_106 (10, 11, 0) = q_52 := by rw [halq_106, xa_ne (by simp)]; exact ((ad_99).symm).symm
  have hn_60 := xu_of (t := (10, 15, 0)) (e := .inl (E.2.1 0, 150, .inl (fun _ => 0))) (by simp) hn_60
  have ad_115 : alq_106 (10, 12, 0) = q_64 := by rw [halq_106, xa_ne (by simp)]; exact ((ad_100).symm).symm
  have hn_73 := xu_of (t := (10, 15, 0)) (e := .inl (E.2.1 0, 150, .inl (fun _ => 0))) (by simp) hn_73
  have ad_116 : alq_106 (10, 13, 0) = q_77 := by rw [halq_106, xa_ne (by simp)]; exact ((ad_101).symm).symm
  have hn_87 := xu_of (t := (10, 15, 0)) (e := .inl (E.2.1 0, 150, .inl (fun _ => 0))) (by simp) hn_87
  have ad_117 : alq_106 (10, 14, 0) = q_91 := by rw [halq_106, xa_ne (by simp)]; exact ((ad_103).symm).symm
  have hn_102 := xu_of (t := (10, 15, 0)) (e := .inl (E.2.1 0, 150, .inl (fun _ => 0))) (by simp) hn_102
  have ad_119 : alq_106 (10, 15, 0) = q_106 := by rw [halq_106, hq_106]
  have hn_118 : (xu w_104 (10, 15, 0) (.inl (E.2.1 0, 150, .inl (fun _ => 0)))) (10, 15, 0) = some (.inl (E.2.1 0, 150, .inl (fun _ => 0))) := xu_self _ _ _
  refine lv_adr2 (ad_107).symm ?_
  refine x_putF C hH hS (ci := 8) (T := TX7) (N := 19) (fs' := [.int 0, .int 0, .int 0, .ref q_1, .ref q_7, .int 0, .ref q_14, .ref q_22, .ref q_31, .ref q_41, .int 0, .ref q_52, .ref q_64, .ref q_77, .ref q_91, .ref q_106, .null, .null, .null]) hX rfl iWX7 tyX7 tyX7_ok nmX7 15 (by decide) qw_711 rfl rfl hin rfl rfl rfl (Nat.le_of_ble_eq_true rfl) rfl dX7_init_168 (fun H locs hH hS => ?_)
  have hn_3 := xu_of (t := (10, 0, 0)) (e := .inr (8, [.int 0, .int 0, .int 0, .ref q_1, .ref q_7, .int 0, .ref q_14, .ref q_22, .ref q_31, .ref q_41, .int 0, .ref q_52, .ref q_64, .ref q_77, .ref q_91, .ref q_106, .null, .null, .null])) (by simp) hn_3
  have hn_10 := xu_of (t := (10, 0, 0)) (e := .inr (8, [.int 0, .int 0, .int 0, .ref q_1, .ref q_7, .int 0, .ref q_14, .ref q_22, .ref q_31, .ref q_41, .int 0, .ref q_52, .ref q_64, .ref q_77, .ref q_91, .ref q_106, .null, .null, .null])) (by simp) hn_10
  have hn_18 := xu_of (t := (10, 0, 0)) (e := .inr (8, [.int 0, .int 0, .int 0, .ref q_1, .ref q_7, .int 0, .ref q_14, .ref q_22, .ref q_31, .ref q_41, .int 0, .ref q_52, .ref q_64, .ref q_77, .ref q_91, .ref q_106, .null, .null, .null])) (by simp) hn_18
  have hn_27 := xu_of (t := (10, 0, 0)) (e := .inr (8, [.int 0, .int 0, .int 0, .ref q_1, .ref q_7, .int 0, .ref q_14, .ref q_22, .ref q_31, .ref q_41, .int 0, .ref q_52, .ref q_64, .ref q_77, .ref q_91, .ref q_106, .null, .null, .null])) (by simp) hn_27
  have hn_37 := xu_of (t := (10, 0, 0)) (e := .inr (8, [.int 0, .int 0, .int 0, .ref q_1, .ref q_7, .int 0, .ref q_14, .ref q_22, .ref q_31, .ref q_41, .int 0, .ref q_52, .ref q_64, .ref q_77, .ref q_91, .ref q_106, .null, .null, .null])) (by simp) hn_37
  have hn_48 := xu_of (t := (10, 0, 0)) (e := .inr (8, [.int 0, .int 0, .int 0, .ref q_1, .ref q_7, .int 0, .ref q_14, .ref q_22, .ref q_31, .ref q_41, .int 0, .ref q_52, .ref q_64, .ref q_77, .ref q_91, .ref q_106, .null, .null, .null])) (by simp) hn_48
  have hn_60 := xu_of (t := (10, 0, 0)) (e := .inr (8, [.int 0, .int 0, .int 0, .ref q_1, .ref q_7, .int 0, .ref q_14, .ref q_22, .ref q_31, .ref q_41, .int 0, .ref q_52, .ref q_64, .ref q_77, .ref q_91, .ref q_106, .null, .null, .null])) (by simp) hn_60
  have hn_73 := xu_of (t := (10, 0, 0)) (e := .inr (8, [.int 0, .int 0, .int 0, .ref q_1, .ref q_7, .int 0, .ref q_14, .ref q_22, .ref q_31, .ref q_41, .int 0, .ref q_52, .ref q_64, .ref q_77, .ref q_91, .ref q_106, .null, .null, .null])) (by simp) hn_73
  have hn_87 := xu_of (t := (10, 0, 0)) (e := .inr (8, [.int 0, .int 0, .int 0, .ref q_1, .ref q_7, .int 0, .ref q_14, .ref q_22, .ref q_31, .ref q_41, .int 0, .ref q_52, .ref q_64, .ref q_77, .ref q_91, .ref q_106, .null, .null, .null])) (by simp) hn_87
  have hn_102 := xu_of (t := (10, 0, 0)) (e := .inr (8, [.int 0, .int 0, .int 0, .ref q_1, .ref q_7, .int 0, .ref q_14, .ref q_22, .ref q_31, .ref q_41, .int 0, .ref q_52, .ref q_64, .ref q_77, .ref q_91, .ref q_106, .null, .null, .null])) (by simp) hn_102
  have hn_118 := xu_of (t := (10, 0, 0)) (e := .inr (8, [.int 0, .int 0, .int 0, .ref q_1, .ref q_7, .int 0, .ref q_14, .ref q_22, .ref q_31, .ref q_41, .int 0, .ref q_52, .ref q_64, .ref q_77, .ref q_91, .ref q_106, .null, .null, .null])) (by simp) hn_118
  have hX : (xu (xu w_104 (10, 15, 0) (.inl (E.2.1 0, 150, .inl (fun _ => 0)))) (10, 0, 0) (.inr (8, [.int 0, .int 0, .int 0, .ref q_1, .ref q_7, .int 0, .ref q_14, .ref q_22, .ref q_31, .ref q_41, .int 0, .ref q_52, .ref q_64, .ref q_77, .ref q_91, .ref q_106, .null, .null, .null]))) (10, 0, 0) = some (.inr (8, [.int 0, .int 0, .int 0, .ref q_1, .ref q_7, .int 0, .ref q_14, .ref q_22, .ref q_31, .ref q_41, .int 0, .ref q_52, .ref q_64, .ref q_77, .ref q_91, .ref q_106, .null, .null, .null])) := xu_self _ _ _
  have fr_121 : ∀ t : Tg, t.1 ≠ 10 → (xu (xu w_104 (10, 15, 0) (.inl (E.2.1 0, 150, .inl (fun _ => 0)))) (10, 0, 0) (.inr (8, [.int 0, .int 0, .int 0, .ref q_1, .ref q_7, .int 0, .ref q_14, .ref q_22, .ref q_31, .ref q_41, .int 0, .ref q_52, .ref q_64, .ref q_77, .ref q_91, .ref q_106, .null, .null, .null]))) t = w t ∧ alq_106 t = al t := fun t ht => ⟨by rw [xu_ne (fun e => ht (by rw [e])), xu_ne (fun e => ht (by rw [e]))]; exact (fr_105 t ht).1, by rw [halq_106, xa_ne (fun e => ht (by rw [e]))]; exact (fr_105 t ht).2⟩
  obtain ⟨w_120, hw_120⟩ : ∃ zz9, zz9 = (xu (xu w_104 (10, 15, 0) (.inl (E.2.1 0, 150, .inl (fun _ => 0)))) (10, 0, 0) (.inr (8, [.int 0, .int 0, .int 0, .ref q_1, .ref q_7, .int 0, .ref q_14, .ref q_22, .ref q_31, .ref q_41, .int 0, .ref q_52, .ref q_64, .ref q_77, .ref q_91, .ref q_106, .null, .null, .null]))) := ⟨_, rfl⟩
  rw [← hw_120] at hH fr_121 hX hn_3 hn_10 hn_18 hn_27 hn_37 hn_48 hn_60 hn_73 hn_87 hn_102 hn_118
  refine lv_aload_n hx hb dX7_init_171 rfl (lv_at hl 0 rfl) ?_
  refine lv_sipush (v := nI 150) hx hb dX7_init_172 (by decide +kernel) ?_
  refine x_newa C hH hS (10, 16, 0) 2 (atype := .boolean) qw_754 rfl rfl (fun _ h => by cases h) (a0 := (150, .inl (fun _ => 0))) (fun cA => rfl) rfl (by omega) (by decide) (by decide) (by decide) dX7_init_175 (fun G122_ hH hS => ?_)
  obtain ⟨q_122, hq_122⟩ : ∃ zz9 : Nat, zz9 = xa alq_106 (10, 16, 0) H.size (10, 16, 0) := ⟨_, rfl⟩
  obtain ⟨alq_122, halq_122⟩ : ∃ zz9 : Tg → Nat, zz9 = xa alq_106 (10, 16, 0) H.size := ⟨_, rfl⟩
  rw [← halq_122] at hH
  rw [← hq_122]
  have ad_123 : alq_122 (10, 0, 0) = al (10, 0, 0) := by rw [halq_122, xa_ne (by simp)]; exact ((ad_107).symm).symm
  have hX := xu_of (t := (10, 16, 0)) (e := .inl (E.2.1 2, 150, .inl (fun _ => 0))) (by simp) hX
  have ad_124 : alq_122 (10, 3, 0) = q_1 := by rw [halq_122, xa_ne (by simp)]; exact ((ad_108).symm).symm
  have hn_3 := xu_of (t := (10, 16, 0)) (e := .inl (E.2.1 2, 150, .inl (fun _ => 0))) (by simp) hn_3
  have ad_125 : alq_122 (10, 4, 0) = q_7 := by rw [halq_122, xa_ne (by simp)]; exact ((ad_109).symm).symm
  have hn_10 := xu_of (t := (10, 16, 0)) (e := .inl (E.2.1 2, 150, .inl (fun _ => 0))) (by simp) hn_10
  have ad_126 : alq_122 (10, 6, 0) = q_14 := by rw [halq_122, xa_ne (by simp)]; exact ((ad_110).symm).symm
  have hn_18 := xu_of (t := (10, 16, 0)) (e := .inl (E.2.1 2, 150, .inl (fun _ => 0))) (by simp) hn_18
  have ad_127 : alq_122 (10, 7, 0) = q_22 := by rw [halq_122, xa_ne (by simp)]; exact ((ad_111).symm).symm
  have hn_27 := xu_of (t := (10, 16, 0)) (e := .inl (E.2.1 2, 150, .inl (fun _ => 0))) (by simp) hn_27
  have ad_128 : alq_122 (10, 8, 0) = q_31 := by rw [halq_122, xa_ne (by simp)]; exact ((ad_112).symm).symm
  have hn_37 := xu_of (t := (10, 16, 0)) (e := .inl (E.2.1 2, 150, .inl (fun _ => 0))) (by simp) hn_37
  have ad_129 : alq_122 (10, 9, 0) = q_41 := by rw [halq_122, xa_ne (by simp)]; exact ((ad_113).symm).symm
  have hn_48 := xu_of (t := (10, 16, 0)) (e := .inl (E.2.1 2, 150, .inl (fun _ => 0))) (by simp) hn_48
  have ad_130 : alq_122 (10, 11, 0) = q_52 := by rw [halq_122, xa_ne (by simp)]; exact ((ad_114).symm).symm
  have hn_60 := xu_of (t := (10, 16, 0)) (e := .inl (E.2.1 2, 150, .inl (fun _ => 0))) (by simp) hn_60
  have ad_131 : alq_122 (10, 12, 0) = q_64 := by rw [halq_122, xa_ne (by simp)]; exact ((ad_115).symm).symm
  have hn_73 := xu_of (t := (10, 16, 0)) (e := .inl (E.2.1 2, 150, .inl (fun _ => 0))) (by simp) hn_73
  have ad_132 : alq_122 (10, 13, 0) = q_77 := by rw [halq_122, xa_ne (by simp)]; exact ((ad_116).symm).symm
  have hn_87 := xu_of (t := (10, 16, 0)) (e := .inl (E.2.1 2, 150, .inl (fun _ => 0))) (by simp) hn_87
  have ad_133 : alq_122 (10, 14, 0) = q_91 := by rw [halq_122, xa_ne (by simp)]; exact ((ad_117).symm).symm
  have hn_102 := xu_of (t := (10, 16, 0)) (e := .inl (E.2.1 2, 150, .inl (fun _ => 0))) (by simp) hn_102
  have ad_134 : alq_122 (10, 15, 0) = q_106 := by rw [halq_122, xa_ne (by simp)]; exact ((ad_119).symm).symm
  have hn_118 := xu_of (t := (10, 16, 0)) (e := .inl (E.2.1 2, 150, .inl (fun _ => 0))) (by simp) hn_118
  have ad_136 : alq_122 (10, 16, 0) = q_122 := by rw [halq_122, hq_122]
  have hn_135 : (xu w_120 (10, 16, 0) (.inl (E.2.1 2, 150, .inl (fun _ => 0)))) (10, 16, 0) = some (.inl (E.2.1 2, 150, .inl (fun _ => 0))) := xu_self _ _ _
  refine lv_adr2 (ad_123).symm ?_
  refine x_putF C hH hS (ci := 8) (T := TX7) (N := 19) (fs' := [.int 0, .int 0, .int 0, .ref q_1, .ref q_7, .int 0, .ref q_14, .ref q_22, .ref q_31, .ref q_41, .int 0, .ref q_52, .ref q_64, .ref q_77, .ref q_91, .ref q_106, .ref q_122, .null, .null]) hX rfl iWX7 tyX7 tyX7_ok nmX7 16 (by decide) qw_712 rfl rfl hin rfl rfl rfl (Nat.le_of_ble_eq_true rfl) rfl dX7_init_177 (fun H locs hH hS => ?_)
  have hn_3 := xu_of (t := (10, 0, 0)) (e := .inr (8, [.int 0, .int 0, .int 0, .ref q_1, .ref q_7, .int 0, .ref q_14, .ref q_22, .ref q_31, .ref q_41, .int 0, .ref q_52, .ref q_64, .ref q_77, .ref q_91, .ref q_106, .ref q_122, .null, .null])) (by simp) hn_3
  have hn_10 := xu_of (t := (10, 0, 0)) (e := .inr (8, [.int 0, .int 0, .int 0, .ref q_1, .ref q_7, .int 0, .ref q_14, .ref q_22, .ref q_31, .ref q_41, .int 0, .ref q_52, .ref q_64, .ref q_77, .ref q_91, .ref q_106, .ref q_122, .null, .null])) (by simp) hn_10
  have hn_18 := xu_of (t := (10, 0, 0)) (e := .inr (8, [.int 0, .int 0, .int 0, .ref q_1, .ref q_7, .int 0, .ref q_14, .ref q_22, .ref q_31, .ref q_41, .int 0, .ref q_52, .ref q_64, .ref q_77, .ref q_91, .ref q_106, .ref q_122, .null, .null])) (by simp) hn_18
  have hn_27 := xu_of (t := (10, 0, 0)) (e := .inr (8, [.int 0, .int 0, .int 0, .ref q_1, .ref q_7, .int 0, .ref q_14, .ref q_22, .ref q_31, .ref q_41, .int 0, .ref q_52, .ref q_64, .ref q_77, .ref q_91, .ref q_106, .ref q_122, .null, .null])) (by simp) hn_27
  have hn_37 := xu_of (t := (10, 0, 0)) (e := .inr (8, [.int 0, .int 0, .int 0, .ref q_1, .ref q_7, .int 0, .ref q_14, .ref q_22, .ref q_31, .ref q_41, .int 0, .ref q_52, .ref q_64, .ref q_77, .ref q_91, .ref q_106, .ref q_122, .null, .null])) (by simp) hn_37
  have hn_48 := xu_of (t := (10, 0, 0)) (e := .inr (8, [.int 0, .int 0, .int 0, .ref q_1, .ref q_7, .int 0, .ref q_14, .ref q_22, .ref q_31, .ref q_41, .int 0, .ref q_52, .ref q_64, .ref q_77, .ref q_91, .ref q_106, .ref q_122, .null, .null])) (by simp) hn_48
  have hn_60 := xu_of (t := (10, 0, 0)) (e := .inr (8, [.int 0, .int 0, .int 0, .ref q_1, .ref q_7, .int 0, .ref q_14, .ref q_22, .ref q_31, .ref q_41, .int 0, .ref q_52, .ref q_64, .ref q_77, .ref q_91, .ref q_106, .ref q_122, .null, .null])) (by simp) hn_60
  have hn_73 := xu_of (t := (10, 0, 0)) (e := .inr (8, [.int 0, .int 0, .int 0, .ref q_1, .ref q_7, .int 0, .ref q_14, .ref q_22, .ref q_31, .ref q_41, .int 0, .ref q_52, .ref q_64, .ref q_77, .ref q_91, .ref q_106, .ref q_122, .null, .null])) (by simp) hn_73
  have hn_87 := xu_of (t := (10, 0, 0)) (e := .inr (8, [.int 0, .int 0, .int 0, .ref q_1, .ref q_7, .int 0, .ref q_14, .ref q_22, .ref q_31, .ref q_41, .int 0, .ref q_52, .ref q_64, .ref q_77, .ref q_91, .ref q_106, .ref q_122, .null, .null])) (by simp) hn_87
  have hn_102 := xu_of (t := (10, 0, 0)) (e := .inr (8, [.int 0, .int 0, .int 0, .ref q_1, .ref q_7, .int 0, .ref q_14, .ref q_22, .ref q_31, .ref q_41, .int 0, .ref q_52, .ref q_64, .ref q_77, .ref q_91, .ref q_106, .ref q_122, .null, .null])) (by simp) hn_102
  have hn_118 := xu_of (t := (10, 0, 0)) (e := .inr (8, [.int 0, .int 0, .int 0, .ref q_1, .ref q_7, .int 0, .ref q_14, .ref q_22, .ref q_31, .ref q_41, .int 0, .ref q_52, .ref q_64, .ref q_77, .ref q_91, .ref q_106, .ref q_122, .null, .null])) (by simp) hn_118
  have hn_135 := xu_of (t := (10, 0, 0)) (e := .inr (8, [.int 0, .int 0, .int 0, .ref q_1, .ref q_7, .int 0, .ref q_14, .ref q_22, .ref q_31, .ref q_41, .int 0, .ref q_52, .ref q_64, .ref q_77, .ref q_91, .ref q_106, .ref q_122, .null, .null])) (by simp) hn_135
  have hX : (xu (xu w_120 (10, 16, 0) (.inl (E.2.1 2, 150, .inl (fun _ => 0)))) (10, 0, 0) (.inr (8, [.int 0, .int 0, .int 0, .ref q_1, .ref q_7, .int 0, .ref q_14, .ref q_22, .ref q_31, .ref q_41, .int 0, .ref q_52, .ref q_64, .ref q_77, .ref q_91, .ref q_106, .ref q_122, .null, .null]))) (10, 0, 0) = some (.inr (8, [.int 0, .int 0, .int 0, .ref q_1, .ref q_7, .int 0, .ref q_14, .ref q_22, .ref q_31, .ref q_41, .int 0, .ref q_52, .ref q_64, .ref q_77, .ref q_91, .ref q_106, .ref q_122, .null, .null])) := xu_self _ _ _
  have fr_138 : ∀ t : Tg, t.1 ≠ 10 → (xu (xu w_120 (10, 16, 0) (.inl (E.2.1 2, 150, .inl (fun _ => 0)))) (10, 0, 0) (.inr (8, [.int 0, .int 0, .int 0, .ref q_1, .ref q_7, .int 0, .ref q_14, .ref q_22, .ref q_31, .ref q_41, .int 0, .ref q_52, .ref q_64, .ref q_77, .ref q_91, .ref q_106, .ref q_122, .null, .null]))) t = w t ∧ alq_122 t = al t := fun t ht => ⟨by rw [xu_ne (fun e => ht (by rw [e])), xu_ne (fun e => ht (by rw [e]))]; exact (fr_121 t ht).1, by rw [halq_122, xa_ne (fun e => ht (by rw [e]))]; exact (fr_121 t ht).2⟩
  obtain ⟨w_137, hw_137⟩ : ∃ zz9, zz9 = (xu (xu w_120 (10, 16, 0) (.inl (E.2.1 2, 150, .inl (fun _ => 0)))) (10, 0, 0) (.inr (8, [.int 0, .int 0, .int 0, .ref q_1, .ref q_7, .int 0, .ref q_14, .ref q_22, .ref q_31, .ref q_41, .int 0, .ref q_52, .ref q_64, .ref q_77, .ref q_91, .ref q_106, .ref q_122, .null, .null]))) := ⟨_, rfl⟩
  rw [← hw_137] at hH fr_138 hX hn_3 hn_10 hn_18 hn_27 hn_37 hn_48 hn_60 hn_73 hn_87 hn_102 hn_118 hn_135
  refine lv_aload_n hx hb dX7_init_180 rfl (lv_at hl 0 rfl) ?_
  refine lv_bipush (v := nI 36) hx hb dX7_init_181 (by decide +kernel) ?_
  refine x_newa C hH hS (10, 17, 0) 0 (atype := .int) qw_73 rfl rfl (fun _ h => by cases h) (a0 := (36, .inl (fun _ => 0))) (fun cA => rfl) rfl (by omega) (by decide) (by decide) (by decide) dX7_init_183 (fun G139_ hH hS => ?_)
  obtain ⟨q_139, hq_139⟩ : ∃ zz9 : Nat, zz9 = xa alq_122 (10, 17, 0) H.size (10, 17, 0) := ⟨_, rfl⟩
  obtain ⟨alq_139, halq_139⟩ : ∃ zz9 : Tg → Nat, zz9 = xa alq_122 (10, 17, 0) H.size := ⟨_, rfl⟩
  rw [← halq_139] at hH
  rw [← hq_139]
  have ad_140 : alq_139 (10, 0, 0) = al (10, 0, 0) := by rw [halq_139, xa_ne (by simp)]; exact ((ad_123).symm).symm
  have hX := xu_of (t := (10, 17, 0)) (e := .inl (E.2.1 0, 36, .inl (fun _ => 0))) (by simp) hX
  have ad_141 : alq_139 (10, 3, 0) = q_1 := by rw [halq_139, xa_ne (by simp)]; exact ((ad_124).symm).symm
  have hn_3 := xu_of (t := (10, 17, 0)) (e := .inl (E.2.1 0, 36, .inl (fun _ => 0))) (by simp) hn_3
  have ad_142 : alq_139 (10, 4, 0) = q_7 := by rw [halq_139, xa_ne (by simp)]; exact ((ad_125).symm).symm
  have hn_10 := xu_of (t := (10, 17, 0)) (e := .inl (E.2.1 0, 36, .inl (fun _ => 0))) (by simp) hn_10
  have ad_143 : alq_139 (10, 6, 0) = q_14 := by rw [halq_139, xa_ne (by simp)]; exact ((ad_126).symm).symm
  have hn_18 := xu_of (t := (10, 17, 0)) (e := .inl (E.2.1 0, 36, .inl (fun _ => 0))) (by simp) hn_18
  have ad_144 : alq_139 (10, 7, 0) = q_22 := by rw [halq_139, xa_ne (by simp)]; exact ((ad_127).symm).symm
  have hn_27 := xu_of (t := (10, 17, 0)) (e := .inl (E.2.1 0, 36, .inl (fun _ => 0))) (by simp) hn_27
  have ad_145 : alq_139 (10, 8, 0) = q_31 := by rw [halq_139, xa_ne (by simp)]; exact ((ad_128).symm).symm
  have hn_37 := xu_of (t := (10, 17, 0)) (e := .inl (E.2.1 0, 36, .inl (fun _ => 0))) (by simp) hn_37
  have ad_146 : alq_139 (10, 9, 0) = q_41 := by rw [halq_139, xa_ne (by simp)]; exact ((ad_129).symm).symm
  have hn_48 := xu_of (t := (10, 17, 0)) (e := .inl (E.2.1 0, 36, .inl (fun _ => 0))) (by simp) hn_48
  have ad_147 : alq_139 (10, 11, 0) = q_52 := by rw [halq_139, xa_ne (by simp)]; exact ((ad_130).symm).symm
  have hn_60 := xu_of (t := (10, 17, 0)) (e := .inl (E.2.1 0, 36, .inl (fun _ => 0))) (by simp) hn_60
  have ad_148 : alq_139 (10, 12, 0) = q_64 := by rw [halq_139, xa_ne (by simp)]; exact ((ad_131).symm).symm
  have hn_73 := xu_of (t := (10, 17, 0)) (e := .inl (E.2.1 0, 36, .inl (fun _ => 0))) (by simp) hn_73
  have ad_149 : alq_139 (10, 13, 0) = q_77 := by rw [halq_139, xa_ne (by simp)]; exact ((ad_132).symm).symm
  have hn_87 := xu_of (t := (10, 17, 0)) (e := .inl (E.2.1 0, 36, .inl (fun _ => 0))) (by simp) hn_87
  have ad_150 : alq_139 (10, 14, 0) = q_91 := by rw [halq_139, xa_ne (by simp)]; exact ((ad_133).symm).symm
  have hn_102 := xu_of (t := (10, 17, 0)) (e := .inl (E.2.1 0, 36, .inl (fun _ => 0))) (by simp) hn_102
  have ad_151 : alq_139 (10, 15, 0) = q_106 := by rw [halq_139, xa_ne (by simp)]; exact ((ad_134).symm).symm
  have hn_118 := xu_of (t := (10, 17, 0)) (e := .inl (E.2.1 0, 36, .inl (fun _ => 0))) (by simp) hn_118
  have ad_152 : alq_139 (10, 16, 0) = q_122 := by rw [halq_139, xa_ne (by simp)]; exact ((ad_136).symm).symm
  have hn_135 := xu_of (t := (10, 17, 0)) (e := .inl (E.2.1 0, 36, .inl (fun _ => 0))) (by simp) hn_135
  have ad_154 : alq_139 (10, 17, 0) = q_139 := by rw [halq_139, hq_139]
  have hn_153 : (xu w_137 (10, 17, 0) (.inl (E.2.1 0, 36, .inl (fun _ => 0)))) (10, 17, 0) = some (.inl (E.2.1 0, 36, .inl (fun _ => 0))) := xu_self _ _ _
  refine lv_adr2 (ad_140).symm ?_
  refine x_putF C hH hS (ci := 8) (T := TX7) (N := 19) (fs' := [.int 0, .int 0, .int 0, .ref q_1, .ref q_7, .int 0, .ref q_14, .ref q_22, .ref q_31, .ref q_41, .int 0, .ref q_52, .ref q_64, .ref q_77, .ref q_91, .ref q_106, .ref q_122, .ref q_139, .null]) hX rfl iWX7 tyX7 tyX7_ok nmX7 17 (by decide) qw_713 rfl rfl hin rfl rfl rfl (Nat.le_of_ble_eq_true rfl) rfl dX7_init_185 (fun H locs hH hS => ?_)
  have hn_3 := xu_of (t := (10, 0, 0)) (e := .inr (8, [.int 0, .int 0, .int 0, .ref q_1, .ref q_7, .int 0, .ref q_14, .ref q_22, .ref q_31, .ref q_41, .int 0, .ref q_52, .ref q_64, .ref q_77, .ref q_91, .ref q_106, .ref q_122, .ref q_139, .null])) (by simp) hn_3
  have hn_10 := xu_of (t := (10, 0, 0)) (e := .inr (8, [.int 0, .int 0, .int 0, .ref q_1, .ref q_7, .int 0, .ref q_14, .ref q_22, .ref q_31, .ref q_41, .int 0, .ref q_52, .ref q_64, .ref q_77, .ref q_91, .ref q_106, .ref q_122, .ref q_139, .null])) (by simp) hn_10
  have hn_18 := xu_of (t := (10, 0, 0)) (e := .inr (8, [.int 0, .int 0, .int 0, .ref q_1, .ref q_7, .int 0, .ref q_14, .ref q_22, .ref q_31, .ref q_41, .int 0, .ref q_52, .ref q_64, .ref q_77, .ref q_91, .ref q_106, .ref q_122, .ref q_139, .null])) (by simp) hn_18
  have hn_27 := xu_of (t := (10, 0, 0)) (e := .inr (8, [.int 0, .int 0, .int 0, .ref q_1, .ref q_7, .int 0, .ref q_14, .ref q_22, .ref q_31, .ref q_41, .int 0, .ref q_52, .ref q_64, .ref q_77, .ref q_91, .ref q_106, .ref q_122, .ref q_139, .null])) (by simp) hn_27
  have hn_37 := xu_of (t := (10, 0, 0)) (e := .inr (8, [.int 0, .int 0, .int 0, .ref q_1, .ref q_7, .int 0, .ref q_14, .ref q_22, .ref q_31, .ref q_41, .int 0, .ref q_52, .ref q_64, .ref q_77, .ref q_91, .ref q_106, .ref q_122, .ref q_139, .null])) (by simp) hn_37
  have hn_48 := xu_of (t := (10, 0, 0)) (e := .inr (8, [.int 0, .int 0, .int 0, .ref q_1, .ref q_7, .int 0, .ref q_14, .ref q_22, .ref q_31, .ref q_41, .int 0, .ref q_52, .ref q_64, .ref q_77, .ref q_91, .ref q_106, .ref q_122, .ref q_139, .null])) (by simp) hn_48
  have hn_60 := xu_of (t := (10, 0, 0)) (e := .inr (8, [.int 0, .int 0, .int 0, .ref q_1, .ref q_7, .int 0, .ref q_14, .ref q_22, .ref q_31, .ref q_41, .int 0, .ref q_52, .ref q_64, .ref q_77, .ref q_91, .ref q_106, .ref q_122, .ref q_139, .null])) (by simp) hn_60
  have hn_73 := xu_of (t := (10, 0, 0)) (e := .inr (8, [.int 0, .int 0, .int 0, .ref q_1, .ref q_7, .int 0, .ref q_14, .ref q_22, .ref q_31, .ref q_41, .int 0, .ref q_52, .ref q_64, .ref q_77, .ref q_91, .ref q_106, .ref q_122, .ref q_139, .null])) (by simp) hn_73
  have hn_87 := xu_of (t := (10, 0, 0)) (e := .inr (8, [.int 0, .int 0, .int 0, .ref q_1, .ref q_7, .int 0, .ref q_14, .ref q_22, .ref q_31, .ref q_41, .int 0, .ref q_52, .ref q_64, .ref q_77, .ref q_91, .ref q_106, .ref q_122, .ref q_139, .null])) (by simp) hn_87
  have hn_102 := xu_of (t := (10, 0, 0)) (e := .inr (8, [.int 0, .int 0, .int 0, .ref q_1, .ref q_7, .int 0, .ref q_14, .ref q_22, .ref q_31, .ref q_41, .int 0, .ref q_52, .ref q_64, .ref q_77, .ref q_91, .ref q_106, .ref q_122, .ref q_139, .null])) (by simp) hn_102
  have hn_118 := xu_of (t := (10, 0, 0)) (e := .inr (8, [.int 0, .int 0, .int 0, .ref q_1, .ref q_7, .int 0, .ref q_14, .ref q_22, .ref q_31, .ref q_41, .int 0, .ref q_52, .ref q_64, .ref q_77, .ref q_91, .ref q_106, .ref q_122, .ref q_139, .null])) (by simp) hn_118
  have hn_135 := xu_of (t := (10, 0, 0)) (e := .inr (8, [.int 0, .int 0, .int 0, .ref q_1, .ref q_7, .int 0, .ref q_14, .ref q_22, .ref q_31, .ref q_41, .int 0, .ref q_52, .ref q_64, .ref q_77, .ref q_91, .ref q_106, .ref q_122, .ref q_139, .null])) (by simp) hn_135
  have hn_153 := xu_of (t := (10, 0, 0)) (e := .inr (8, [.int 0, .int 0, .int 0, .ref q_1, .ref q_7, .int 0, .ref q_14, .ref q_22, .ref q_31, .ref q_41, .int 0, .ref q_52, .ref q_64, .ref q_77, .ref q_91, .ref q_106, .ref q_122, .ref q_139, .null])) (by simp) hn_153
  have hX : (xu (xu w_137 (10, 17, 0) (.inl (E.2.1 0, 36, .inl (fun _ => 0)))) (10, 0, 0) (.inr (8, [.int 0, .int 0, .int 0, .ref q_1, .ref q_7, .int 0, .ref q_14, .ref q_22, .ref q_31, .ref q_41, .int 0, .ref q_52, .ref q_64, .ref q_77, .ref q_91, .ref q_106, .ref q_122, .ref q_139, .null]))) (10, 0, 0) = some (.inr (8, [.int 0, .int 0, .int 0, .ref q_1, .ref q_7, .int 0, .ref q_14, .ref q_22, .ref q_31, .ref q_41, .int 0, .ref q_52, .ref q_64, .ref q_77, .ref q_91, .ref q_106, .ref q_122, .ref q_139, .null])) := xu_self _ _ _
  have fr_156 : ∀ t : Tg, t.1 ≠ 10 → (xu (xu w_137 (10, 17, 0) (.inl (E.2.1 0, 36, .inl (fun _ => 0)))) (10, 0, 0) (.inr (8, [.int 0, .int 0, .int 0, .ref q_1, .ref q_7, .int 0, .ref q_14, .ref q_22, .ref q_31, .ref q_41, .int 0, .ref q_52, .ref q_64, .ref q_77, .ref q_91, .ref q_106, .ref q_122, .ref q_139, .null]))) t = w t ∧ alq_139 t = al t := fun t ht => ⟨by rw [xu_ne (fun e => ht (by rw [e])), xu_ne (fun e => ht (by rw [e]))]; exact (fr_138 t ht).1, by rw [halq_139, xa_ne (fun e => ht (by rw [e]))]; exact (fr_138 t ht).2⟩
  obtain ⟨w_155, hw_155⟩ : ∃ zz9, zz9 = (xu (xu w_137 (10, 17, 0) (.inl (E.2.1 0, 36, .inl (fun _ => 0)))) (10, 0, 0) (.inr (8, [.int 0, .int 0, .int 0, .ref q_1, .ref q_7, .int 0, .ref q_14, .ref q_22, .ref q_31, .ref q_41, .int 0, .ref q_52, .ref q_64, .ref q_77, .ref q_91, .ref q_106, .ref q_122, .ref q_139, .null]))) := ⟨_, rfl⟩
  rw [← hw_155] at hH fr_156 hX hn_3 hn_10 hn_18 hn_27 hn_37 hn_48 hn_60 hn_73 hn_87 hn_102 hn_118 hn_135 hn_153
  refine lv_aload_n hx hb dX7_init_188 rfl (lv_at hl 0 rfl) ?_
  refine lv_bipush (v := nI 16) hx hb dX7_init_189 (by decide +kernel) ?_
  refine x_newa C hH hS (10, 18, 0) 0 (atype := .int) qw_73 rfl rfl (fun _ h => by cases h) (a0 := (16, .inl (fun _ => 0))) (fun cA => rfl) rfl (by omega) (by decide) (by decide) (by decide) dX7_init_191 (fun G157_ hH hS => ?_)
  obtain ⟨q_157, hq_157⟩ : ∃ zz9 : Nat, zz9 = xa alq_139 (10, 18, 0) H.size (10, 18, 0) := ⟨_, rfl⟩
  obtain ⟨alq_157, halq_157⟩ : ∃ zz9 : Tg → Nat, zz9 = xa alq_139 (10, 18, 0) H.size := ⟨_, rfl⟩
  rw [← halq_157] at hH
  rw [← hq_157]
  have ad_158 : alq_157 (10, 0, 0) = al (10, 0, 0) := by rw [halq_157, xa_ne (by simp)]; exact ((ad_140).symm).symm
  have hX := xu_of (t := (10, 18, 0)) (e := .inl (E.2.1 0, 16, .inl (fun _ => 0))) (by simp) hX
  have ad_159 : alq_157 (10, 3, 0) = q_1 := by rw [halq_157, xa_ne (by simp)]; exact ((ad_141).symm).symm
  have hn_3 := xu_of (t := (10, 18, 0)) (e := .inl (E.2.1 0, 16, .inl (fun _ => 0))) (by simp) hn_3
  have ad_160 : alq_157 (10, 4, 0) = q_7 := by rw [halq_157, xa_ne (by simp)]; exact ((ad_142).symm).symm
  have hn_10 := xu_of (t := (10, 18, 0)) (e := .inl (E.2.1 0, 16, .inl (fun _ => 0))) (by simp) hn_10
  have ad_161 : alq_157 (10, 6, 0) = q_14 := by rw [halq_157, xa_ne (by simp)]; exact ((ad_143).symm).symm
  have hn_18 := xu_of (t := (10, 18, 0)) (e := .inl (E.2.1 0, 16, .inl (fun _ => 0))) (by simp) hn_18
  have ad_162 : alq_157 (10, 7, 0) = q_22 := by rw [halq_157, xa_ne (by simp)]; exact ((ad_144).symm).symm
  have hn_27 := xu_of (t := (10, 18, 0)) (e := .inl (E.2.1 0, 16, .inl (fun _ => 0))) (by simp) hn_27
  have ad_163 : alq_157 (10, 8, 0) = q_31 := by rw [halq_157, xa_ne (by simp)]; exact ((ad_145).symm).symm
  have hn_37 := xu_of (t := (10, 18, 0)) (e := .inl (E.2.1 0, 16, .inl (fun _ => 0))) (by simp) hn_37
  have ad_164 : alq_157 (10, 9, 0) = q_41 := by rw [halq_157, xa_ne (by simp)]; exact ((ad_146).symm).symm
  have hn_48 := xu_of (t := (10, 18, 0)) (e := .inl (E.2.1 0, 16, .inl (fun _ => 0))) (by simp) hn_48
  have ad_165 : alq_157 (10, 11, 0) = q_52 := by rw [halq_157, xa_ne (by simp)]; exact ((ad_147).symm).symm
  have hn_60 := xu_of (t := (10, 18, 0)) (e := .inl (E.2.1 0, 16, .inl (fun _ => 0))) (by simp) hn_60
  have ad_166 : alq_157 (10, 12, 0) = q_64 := by rw [halq_157, xa_ne (by simp)]; exact ((ad_148).symm).symm
  have hn_73 := xu_of (t := (10, 18, 0)) (e := .inl (E.2.1 0, 16, .inl (fun _ => 0))) (by simp) hn_73
  have ad_167 : alq_157 (10, 13, 0) = q_77 := by rw [halq_157, xa_ne (by simp)]; exact ((ad_149).symm).symm
  have hn_87 := xu_of (t := (10, 18, 0)) (e := .inl (E.2.1 0, 16, .inl (fun _ => 0))) (by simp) hn_87
  have ad_168 : alq_157 (10, 14, 0) = q_91 := by rw [halq_157, xa_ne (by simp)]; exact ((ad_150).symm).symm
  have hn_102 := xu_of (t := (10, 18, 0)) (e := .inl (E.2.1 0, 16, .inl (fun _ => 0))) (by simp) hn_102
  have ad_169 : alq_157 (10, 15, 0) = q_106 := by rw [halq_157, xa_ne (by simp)]; exact ((ad_151).symm).symm
  have hn_118 := xu_of (t := (10, 18, 0)) (e := .inl (E.2.1 0, 16, .inl (fun _ => 0))) (by simp) hn_118
  have ad_170 : alq_157 (10, 16, 0) = q_122 := by rw [halq_157, xa_ne (by simp)]; exact ((ad_152).symm).symm
  have hn_135 := xu_of (t := (10, 18, 0)) (e := .inl (E.2.1 0, 16, .inl (fun _ => 0))) (by simp) hn_135
  have ad_171 : alq_157 (10, 17, 0) = q_139 := by rw [halq_157, xa_ne (by simp)]; exact ((ad_154).symm).symm
  have hn_153 := xu_of (t := (10, 18, 0)) (e := .inl (E.2.1 0, 16, .inl (fun _ => 0))) (by simp) hn_153
  have ad_173 : alq_157 (10, 18, 0) = q_157 := by rw [halq_157, hq_157]
  have hn_172 : (xu w_155 (10, 18, 0) (.inl (E.2.1 0, 16, .inl (fun _ => 0)))) (10, 18, 0) = some (.inl (E.2.1 0, 16, .inl (fun _ => 0))) := xu_self _ _ _
  refine lv_adr2 (ad_158).symm ?_
  refine x_putF C hH hS (ci := 8) (T := TX7) (N := 19) (fs' := [.int 0, .int 0, .int 0, .ref q_1, .ref q_7, .int 0, .ref q_14, .ref q_22, .ref q_31, .ref q_41, .int 0, .ref q_52, .ref q_64, .ref q_77, .ref q_91, .ref q_106, .ref q_122, .ref q_139, .ref q_157]) hX rfl iWX7 tyX7 tyX7_ok nmX7 18 (by decide) qw_714 rfl rfl hin rfl rfl rfl (Nat.le_of_ble_eq_true rfl) rfl dX7_init_193 (fun H locs hH hS => ?_)
  have hn_3 := xu_of (t := (10, 0, 0)) (e := .inr (8, [.int 0, .int 0, .int 0, .ref q_1, .ref q_7, .int 0, .ref q_14, .ref q_22, .ref q_31, .ref q_41, .int 0, .ref q_52, .ref q_64, .ref q_77, .ref q_91, .ref q_106, .ref q_122, .ref q_139, .ref q_157])) (by simp) hn_3
  have hn_10 := xu_of (t := (10, 0, 0)) (e := .inr (8, [.int 0, .int 0, .int 0, .ref q_1, .ref q_7, .int 0, .ref q_14, .ref q_22, .ref q_31, .ref q_41, .int 0, .ref q_52, .ref q_64, .ref q_77, .ref q_91, .ref q_106, .ref q_122, .ref q_139, .ref q_157])) (by simp) hn_10
  have hn_18 := xu_of (t := (10, 0, 0)) (e := .inr (8, [.int 0, .int 0, .int 0, .ref q_1, .ref q_7, .int 0, .ref q_14, .ref q_22, .ref q_31, .ref q_41, .int 0, .ref q_52, .ref q_64, .ref q_77, .ref q_91, .ref q_106, .ref q_122, .ref q_139, .ref q_157])) (by simp) hn_18
  have hn_27 := xu_of (t := (10, 0, 0)) (e := .inr (8, [.int 0, .int 0, .int 0, .ref q_1, .ref q_7, .int 0, .ref q_14, .ref q_22, .ref q_31, .ref q_41, .int 0, .ref q_52, .ref q_64, .ref q_77, .ref q_91, .ref q_106, .ref q_122, .ref q_139, .ref q_157])) (by simp) hn_27
  have hn_37 := xu_of (t := (10, 0, 0)) (e := .inr (8, [.int 0, .int 0, .int 0, .ref q_1, .ref q_7, .int 0, .ref q_14, .ref q_22, .ref q_31, .ref q_41, .int 0, .ref q_52, .ref q_64, .ref q_77, .ref q_91, .ref q_106, .ref q_122, .ref q_139, .ref q_157])) (by simp) hn_37
  have hn_48 := xu_of (t := (10, 0, 0)) (e := .inr (8, [.int 0, .int 0, .int 0, .ref q_1, .ref q_7, .int 0, .ref q_14, .ref q_22, .ref q_31, .ref q_41, .int 0, .ref q_52, .ref q_64, .ref q_77, .ref q_91, .ref q_106, .ref q_122, .ref q_139, .ref q_157])) (by simp) hn_48
  have hn_60 := xu_of (t := (10, 0, 0)) (e := .inr (8, [.int 0, .int 0, .int 0, .ref q_1, .ref q_7, .int 0, .ref q_14, .ref q_22, .ref q_31, .ref q_41, .int 0, .ref q_52, .ref q_64, .ref q_77, .ref q_91, .ref q_106, .ref q_122, .ref q_139, .ref q_157])) (by simp) hn_60
  have hn_73 := xu_of (t := (10, 0, 0)) (e := .inr (8, [.int 0, .int 0, .int 0, .ref q_1, .ref q_7, .int 0, .ref q_14, .ref q_22, .ref q_31, .ref q_41, .int 0, .ref q_52, .ref q_64, .ref q_77, .ref q_91, .ref q_106, .ref q_122, .ref q_139, .ref q_157])) (by simp) hn_73
  have hn_87 := xu_of (t := (10, 0, 0)) (e := .inr (8, [.int 0, .int 0, .int 0, .ref q_1, .ref q_7, .int 0, .ref q_14, .ref q_22, .ref q_31, .ref q_41, .int 0, .ref q_52, .ref q_64, .ref q_77, .ref q_91, .ref q_106, .ref q_122, .ref q_139, .ref q_157])) (by simp) hn_87
  have hn_102 := xu_of (t := (10, 0, 0)) (e := .inr (8, [.int 0, .int 0, .int 0, .ref q_1, .ref q_7, .int 0, .ref q_14, .ref q_22, .ref q_31, .ref q_41, .int 0, .ref q_52, .ref q_64, .ref q_77, .ref q_91, .ref q_106, .ref q_122, .ref q_139, .ref q_157])) (by simp) hn_102
  have hn_118 := xu_of (t := (10, 0, 0)) (e := .inr (8, [.int 0, .int 0, .int 0, .ref q_1, .ref q_7, .int 0, .ref q_14, .ref q_22, .ref q_31, .ref q_41, .int 0, .ref q_52, .ref q_64, .ref q_77, .ref q_91, .ref q_106, .ref q_122, .ref q_139, .ref q_157])) (by simp) hn_118
  have hn_135 := xu_of (t := (10, 0, 0)) (e := .inr (8, [.int 0, .int 0, .int 0, .ref q_1, .ref q_7, .int 0, .ref q_14, .ref q_22, .ref q_31, .ref q_41, .int 0, .ref q_52, .ref q_64, .ref q_77, .ref q_91, .ref q_106, .ref q_122, .ref q_139, .ref q_157])) (by simp) hn_135
  have hn_153 := xu_of (t := (10, 0, 0)) (e := .inr (8, [.int 0, .int 0, .int 0, .ref q_1, .ref q_7, .int 0, .ref q_14, .ref q_22, .ref q_31, .ref q_41, .int 0, .ref q_52, .ref q_64, .ref q_77, .ref q_91, .ref q_106, .ref q_122, .ref q_139, .ref q_157])) (by simp) hn_153
  have hn_172 := xu_of (t := (10, 0, 0)) (e := .inr (8, [.int 0, .int 0, .int 0, .ref q_1, .ref q_7, .int 0, .ref q_14, .ref q_22, .ref q_31, .ref q_41, .int 0, .ref q_52, .ref q_64, .ref q_77, .ref q_91, .ref q_106, .ref q_122, .ref q_139, .ref q_157])) (by simp) hn_172
  have hX : (xu (xu w_155 (10, 18, 0) (.inl (E.2.1 0, 16, .inl (fun _ => 0)))) (10, 0, 0) (.inr (8, [.int 0, .int 0, .int 0, .ref q_1, .ref q_7, .int 0, .ref q_14, .ref q_22, .ref q_31, .ref q_41, .int 0, .ref q_52, .ref q_64, .ref q_77, .ref q_91, .ref q_106, .ref q_122, .ref q_139, .ref q_157]))) (10, 0, 0) = some (.inr (8, [.int 0, .int 0, .int 0, .ref q_1, .ref q_7, .int 0, .ref q_14, .ref q_22, .ref q_31, .ref q_41, .int 0, .ref q_52, .ref q_64, .ref q_77, .ref q_91, .ref q_106, .ref q_122, .ref q_139, .ref q_157])) := xu_self _ _ _
  have fr_175 : ∀ t : Tg, t.1 ≠ 10 → (xu (xu w_155 (10, 18, 0) (.inl (E.2.1 0, 16, .inl (fun _ => 0)))) (10, 0, 0) (.inr (8, [.int 0, .int 0, .int 0, .ref q_1, .ref q_7, .int 0, .ref q_14, .ref q_22, .ref q_31, .ref q_41, .int 0, .ref q_52, .ref q_64, .ref q_77, .ref q_91, .ref q_106, .ref q_122, .ref q_139, .ref q_157]))) t = w t ∧ alq_157 t = al t := fun t ht => ⟨by rw [xu_ne (fun e => ht (by rw [e])), xu_ne (fun e => ht (by rw [e]))]; exact (fr_156 t ht).1, by rw [halq_157, xa_ne (fun e => ht (by rw [e]))]; exact (fr_156 t ht).2⟩
  obtain ⟨w_174, hw_174⟩ : ∃ zz9, zz9 = (xu (xu w_155 (10, 18, 0) (.inl (E.2.1 0, 16, .inl (fun _ => 0)))) (10, 0, 0) (.inr (8, [.int 0, .int 0, .int 0, .ref q_1, .ref q_7, .int 0, .ref q_14, .ref q_22, .ref q_31, .ref q_41, .int 0, .ref q_52, .ref q_64, .ref q_77, .ref q_91, .ref q_106, .ref q_122, .ref q_139, .ref q_157]))) := ⟨_, rfl⟩
  rw [← hw_174] at hH fr_175 hX hn_3 hn_10 hn_18 hn_27 hn_37 hn_48 hn_60 hn_73 hn_87 hn_102 hn_118 hn_135 hn_153 hn_172
  rw [← xu_same hn_10] at hH
  replace hH := x_arrI (g := fun _ => -1) (fun j hj => seal_16 j hj) hH
  rw [← hQ]
  refine x_retv C hS (Nat.le_of_ble_eq_true rfl) (Nat.le_of_ble_eq_true rfl) dX7_init_196 ?_
  rw [hpost]
  refine ⟨rfl, alq_157, (xu w_174 (10, 4, 0) (.inl (E.2.1 0, 16, .inl (fun _ => -1)))), fun _ => 0, hH, ⟨?_, xu_of (by simp) hn_3, xu_self _ _ _, xu_of (by simp) hn_18, xu_of (by simp) hn_27, xu_of (by simp) hn_37, xu_of (by simp) hn_48, xu_of (by simp) hn_60, xu_of (by simp) hn_73, xu_of (by simp) hn_87, xu_of (by simp) hn_102, xu_of (by simp) hn_118, xu_of (by simp) hn_135, xu_of (by simp) hn_153, xu_of (by simp) hn_172⟩, fun t ht => ⟨by rw [xu_ne (fun e => ht (by rw [e]))]; exact (fr_175 t ht).1, (fr_175 t ht).2⟩, ((ad_158).symm).symm⟩
  rw [← ((ad_159).symm), ← ((ad_160).symm), ← ((ad_161).symm), ← ((ad_162).symm), ← ((ad_163).symm), ← ((ad_164).symm), ← ((ad_165).symm), ← ((ad_166).symm), ← ((ad_167).symm), ← ((ad_168).symm), ← ((ad_169).symm), ← ((ad_170).symm), ← ((ad_171).symm), ← ((ad_173).symm)]; exact xu_of (by simp) hX
