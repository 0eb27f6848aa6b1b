def PTi (E : xE) (al : Tg → Nat) (w : Tg → Option va_E) (p : Nat) (x : Int32) (i : Nat) : Prop :=
  w (2, p, 0) = some (.inr (5, [.int (nI p), .int x, .ref (al (2, p, 1)), .ref (al (2, p, 2)), .ref (al (2, p, 3))])) ∧
  w (2, p, 1) = some (.inl (E.2.1 4, 16, .inr (.inr (.inr (.inr (fun _ => none)))))) ∧
  w (2, p, 2) = some (.inl (E.2.1 3, 8, .inr (.inr (.inr (.inr (fun b => if b < i then some (al (4, p, b)) else none)))))) ∧
  w (2, p, 3) = some (.inl (E.2.1 0, 5, .inl (fun _ => 0))) ∧
  (∀ b, b < i → w (4, p, b) = some (.inr (3, [.ref (al (5, p, b)), .int 0]))) ∧
  ∀ b, b < i → w (5, p, b) = some (.inl (E.2.1 0, 16, .inl (fun _ => 0)))
section PTI
variable {E : xE} {base : Nat} {al : Tg → Nat} {w : Tg → Option va_E} {p i q1 q2 : Nat} {x : Int32}
theorem ka_0 : (fun b => if b < 0 then some (al (4, p, b)) else none) = fun _ => none := by funext b; exact if_neg (Nat.not_lt_zero b)
theorem pti_s {al1 : Tg → Nat} (h : PTi E al w p x i) (h1 : al1 = xa al (4, p, i) q1) : PTi E (xa al1 (5, p, i) q2) (xu (xu (xu (xu w (4, p, i) (.inr (3, [.null, .int 0]))) (5, p, i) (.inl (E.2.1 0, 16, .inl (fun _ => 0)))) (4, p, i) (.inr (3, [.ref q2, .int 0]))) (2, p, 2) (.inl (E.2.1 3, 8, .inr (.inr (.inr (.inr (va_up (fun b => if b < i then some (al (4, p, b)) else none) i (some (xa al1 (5, p, i) q2 (4, p, i)))))))))) p x (i + 1) := by
  subst h1
  obtain ⟨g0, g1, g2, g3, g4, g5⟩ := h
  refine ⟨?_, ?_, ?_, ?_, fun b hb => ?_, fun b hb => ?_⟩
  · rw [xu_ne (by simp), xu_ne (by simp), xu_ne (by simp), xu_ne (by simp), xa_ne (by simp), xa_ne (by simp), xa_ne (by simp), xa_ne (by simp), xa_ne (by simp), xa_ne (by simp)]; exact g0
  · rw [xu_ne (by simp), xu_ne (by simp), xu_ne (by simp), xu_ne (by simp)]; exact g1
  · rw [xu_self]
    have e : va_up (fun b => if b < i then some (al (4, p, b)) else none) i (some (xa (xa al (4, p, i) q1) (5, p, i) q2 (4, p, i))) = fun b => if b < i + 1 then some (xa (xa al (4, p, i) q1) (5, p, i) q2 (4, p, b)) else none := by
      funext b
      by_cases e : b = i
      · subst e; rw [va_up_self, if_pos (Nat.lt_succ_self b)]
      · rw [va_up_ne _ _ e]
        show (if b < i then _ else _) = _
        by_cases k : b < i
        · rw [if_pos k, if_pos (by omega), xa_ne (by simp), xa_ne (by simp [e])]
        · rw [if_neg k, if_neg (by omega)]
    rw [e]
  · rw [xu_ne (by simp), xu_ne (by simp), xu_ne (by simp), xu_ne (by simp)]; exact g3
  · rw [xu_ne (by simp)]
    by_cases e : b = i
    · subst e; rw [xu_self, xa_self]
    · rw [xu_ne (by simp [e]), xu_ne (by simp), xu_ne (by simp [e]), xa_ne (by simp [e]), xa_ne (by simp)]; exact g4 b (by omega)
  · rw [xu_ne (by simp), xu_ne (by simp)]
    by_cases e : b = i
    · subst e; rw [xu_self]
    · rw [xu_ne (by simp [e]), xu_ne (by simp)]; exact g5 b (by omega)
theorem PTi.fix {H : Heap} (hH : xH E base al w H) (h : PTi E al w p x 8) {rf rt : Nat → Int32} : ∃ w', xH E base al w' H ∧ PT E al w' p x (fun _ => 0) rf rt (fun _ => 0) (fun _ _ => 0) (fun _ => 0) ∧ ∀ t, t ≠ (2, p, 2) → w' t = w t := by
  obtain ⟨g0, g1, g2, g3, g4, g5⟩ := h
  rw [← xu_same g2] at hH
  refine ⟨_, x_arrQ (g := fun b => some (al (4, p, b))) (fun j hj => if_pos hj) hH, ⟨xu_of (by simp) g0, xu_of (by simp) (by rw [g1]; simp), xu_self _ _ _, xu_of (by simp) g3, fun f hf hk => absurd rfl hk, fun b hb => by rw [nI_0]; exact xu_of (by simp) (g4 b hb), fun b hb => xu_of (by simp) (g5 b hb)⟩, fun t ht => xu_ne ht⟩
end PTI
set_option maxHeartbeats 4000000 in
set_option maxRecDepth 100000 in
theorem c_Party (l : Launch) {E : xE} {base : Nat} {al : Tg → Nat} {w : Tg → Option va_E} {p : Nat} {a b x : Int32} (hp0 : w (2, p, 0) = some (.inr (5, [.int a, .int b, .null, .null, .null]))) : xMet l yX4_init cX4_init 4 none ({ frames := 2, cells := 19, slots := 173, locals := 32 } : Room) E base [.ref (al (2, p, 0)), .int (nI p), .int x] (fun H => xH E base al w H) (fun r H => r = none ∧ ∃ (al9 : Tg → Nat) (w9 : Tg → Option va_E), xH E base al9 w9 H ∧ PTi E al9 w9 p x 8 ∧ (∀ t : Tg, ¬ (2 ≤ t.1 ∧ t.1 ≤ 5 ∧ t.2.1 = p) → w9 t = w t ∧ al9 t = al t) ∧ al9 (2, p, 0) = al (2, p, 0)) := by
  refine xMet.of (by decide +kernel) "Dataroom$Party" rfl (Nat.le_of_ble_eq_true rfl) ?_
  intro p9 e9 s m9 below meth c9 ls C hin hP hS hl
  have hx := C.hx
  have hb := C.hb
  have hH := hP
  have hl : lv_has ls 4 [(0, .ref (al (2, p, 0))), (1, .int (nI p)), (2, .int x)] := hl
  obtain ⟨post, hpost⟩ : ∃ zz9 : Option Value → Heap → Prop, zz9 = (fun r H => r = none ∧ ∃ (al9 : Tg → Nat) (w9 : Tg → Option va_E), xH E base al9 w9 H ∧ PTi E al9 w9 p x 8 ∧ (∀ t : Tg, ¬ (2 ≤ t.1 ∧ t.1 ≤ 5 ∧ t.2.1 = p) → w9 t = w t ∧ al9 t = al t) ∧ al9 (2, p, 0) = al (2, p, 0)) := ⟨_, rfl⟩
  rw [← hpost]
  generalize hQ : (MQ below (xQ base post) ([.ref (al (2, p, 0)), .int (nI p), .int x] : List Value).toArray s 19 173 (xA base)) = Q
  refine lv_aload_n hx hb dX4_init_0 rfl (lv_at hl 0 rfl) ?_
  refine x_init C qw_385 qw_30 qw_31 hl.1 dX4_init_1 (Nat.le_of_ble_eq_true rfl) (Nat.le_of_ble_eq_true rfl) ?_
  refine lv_aload_n hx hb dX4_init_4 rfl (lv_at hl 0 rfl) ?_
  refine lv_bipush (v := nI 16) hx hb dX4_init_5 (by decide +kernel) ?_
  refine x_newq C hH hS (2, p, 1) 4 qw_386 C.st.2.2.2.2.1.2.1 rfl rfl (by omega) (Nat.le_of_ble_eq_true rfl) (Nat.le_of_ble_eq_true rfl) dX4_init_7 (fun G1_ hH hS => ?_)
  obtain ⟨q_1, hq_1⟩ : ∃ zz9 : Nat, zz9 = xa al (2, p, 1) s.heap.size (2, p, 1) := ⟨_, rfl⟩
  obtain ⟨alq_1, halq_1⟩ : ∃ zz9 : Tg → Nat, zz9 = xa al (2, p, 1) s.heap.size := ⟨_, rfl⟩
  rw [← halq_1] at hH
  rw [← hq_1]
  have ad_2 : alq_1 (2, p, 0) = al (2, p, 0) := by rw [halq_1, xa_ne (by simp)]
  have hp0 := xu_of (t := (2, p, 1)) (e := .inl (E.2.1 4, 16, .inr (.inr (.inr (.inr (fun _ => none)))))) (by simp) hp0
  have ad_4 : alq_1 (2, p, 1) = q_1 := by rw [halq_1, hq_1]
  have hn_3 : (xu w (2, p, 1) (.inl (E.2.1 4, 16, .inr (.inr (.inr (.inr (fun _ => none))))))) (2, p, 1) = some (.inl (E.2.1 4, 16, .inr (.inr (.inr (.inr (fun _ => none)))))) := xu_self _ _ _
  refine lv_adr2 (ad_2).symm ?_
  refine x_putF C hH hS (ci := 5) (T := TX4) (N := 5) (fs' := [.int a, .int b, .ref q_1, .null, .null]) hp0 rfl iWX4 tyX4 tyX4_ok nmX4 2 (by decide) qw_396 rfl rfl hin rfl rfl rfl (Nat.le_of_ble_eq_true rfl) rfl dX4_init_10 (fun H locs hH hS => ?_)
  have hn_3 := xu_of (t := (2, p, 0)) (e := .inr (5, [.int a, .int b, .ref q_1, .null, .null])) (by simp) hn_3
  have hp0 : (xu (xu w (2, p, 1) (.inl (E.2.1 4, 16, .inr (.inr (.inr (.inr (fun _ => none))))))) (2, p, 0) (.inr (5, [.int a, .int b, .ref q_1, .null, .null]))) (2, p, 0) = some (.inr (5, [.int a, .int b, .ref q_1, .null, .null])) := xu_self _ _ _
  refine lv_aload_n hx hb dX4_init_13 rfl (lv_at hl 0 rfl) ?_
  refine lv_bipush (v := nI 8) hx hb dX4_init_14 (by decide +kernel) ?_
  refine x_newq C hH hS (2, p, 2) 3 qw_388 C.st.2.2.2.2.1.2.2 rfl rfl (by omega) (Nat.le_of_ble_eq_true rfl) (Nat.le_of_ble_eq_true rfl) dX4_init_16 (fun G5_ hH hS => ?_)
  obtain ⟨q_5, hq_5⟩ : ∃ zz9 : Nat, zz9 = xa alq_1 (2, p, 2) H.size (2, p, 2) := ⟨_, rfl⟩
  obtain ⟨alq_5, halq_5⟩ : ∃ zz9 : Tg → Nat, zz9 = xa alq_1 (2, p, 2) H.size := ⟨_, rfl⟩
  rw [← halq_5] at hH
  rw [← hq_5]
  have ad_6 : alq_5 (2, p, 0) = al (2, p, 0) := by rw [halq_5, xa_ne (by simp)]; exact ((ad_2).symm).symm
  have hp0 := xu_of (t := (2, p, 2)) (e := .inl (E.2.1 3, 8, .inr (.inr (.inr (.inr (fun _ => none)))))) (by simp) hp0
  have ad_7 : alq_5 (2, p, 1) = q_1 := by rw [halq_5, xa_ne (by simp)]; exact ((ad_4).symm).symm
  have hn_3 := xu_of (t := (2, p, 2)) (e := .inl (E.2.1 3, 8, .inr (.inr (.inr (.inr (fun _ => none)))))) (by simp) hn_3
  have ad_9 : alq_5 (2, p, 2) = q_5 := by rw [halq_5, hq_5]
  have hn_8 : (xu (xu (xu w (2, p, 1) (.inl (E.2.1 4, 16, .inr (.inr (.inr (.inr (fun _ => none))))))) (2, p, 0) (.inr (5, [.int a, .int b, .ref q_1, .null, .null]))) (2, p, 2) (.inl (E.2.1 3, 8, .inr (.inr (.inr (.inr (fun _ => none))))))) (2, p, 2) = some (.inl (E.2.1 3, 8, .inr (.inr (.inr (.inr (fun _ => none)))))) := xu_self _ _ _
  refine lv_adr2 (ad_6).symm ?_
  refine x_putF C hH hS (ci := 5) (T := TX4) (N := 5) (fs' := [.int a, .int b, .ref q_1, .ref q_5, .null]) hp0 rfl iWX4 tyX4 tyX4_ok nmX4 3 (by decide) qw_397 rfl rfl hin rfl rfl rfl (Nat.le_of_ble_eq_true rfl) rfl dX4_init_19 (fun H locs hH hS => ?_)
  have hn_3 := xu_of (t := (2, p, 0)) (e := .inr (5, [.int a, .int b, .ref q_1, .ref q_5, .null])) (by simp) hn_3
  have hn_8 := xu_of (t := (2, p, 0)) (e := .inr (5, [.int a, .int b, .ref q_1, .ref q_5, .null])) (by simp) hn_8
  have hp0 : (xu (xu (xu (xu w (2, p, 1) (.inl (E.2.1 4, 16, .inr (.inr (.inr (.inr (fun _ => none))))))) (2, p, 0) (.inr (5, [.int a, .int b, .ref q_1, .null, .null]))) (2, p, 2) (.inl (E.2.1 3, 8, .inr (.inr (.inr (.inr (fun _ => none))))))) (2, p, 0) (.inr (5, [.int a, .int b, .ref q_1, .ref q_5, .null]))) (2, p, 0) = some (.inr (5, [.int a, .int b, .ref q_1, .ref q_5, .null])) := xu_self _ _ _
  refine lv_aload_n hx hb dX4_init_22 rfl (lv_at hl 0 rfl) ?_
  refine lv_iconst (v := nI 5) hx hb dX4_init_23 (by decide +kernel) ?_
  refine x_newa C hH hS (2, p, 3) 0 (atype := .int) qw_72 rfl rfl (fun _ h => by cases h) (a0 := (5, .inl (fun _ => 0))) (fun cA => rfl) rfl (by omega) (by decide) (by decide) (by decide) dX4_init_24 (fun G10_ hH hS => ?_)
  obtain ⟨q_10, hq_10⟩ : ∃ zz9 : Nat, zz9 = xa alq_5 (2, p, 3) H.size (2, p, 3) := ⟨_, rfl⟩
  obtain ⟨alq_10, halq_10⟩ : ∃ zz9 : Tg → Nat, zz9 = xa alq_5 (2, p, 3) H.size := ⟨_, rfl⟩
  rw [← halq_10] at hH
  rw [← hq_10]
  have ad_11 : alq_10 (2, p, 0) = al (2, p, 0) := by rw [halq_10, xa_ne (by simp)]; exact ((ad_6).symm).symm
  have hp0 := xu_of (t := (2, p, 3)) (e := .inl (E.2.1 0, 5, .inl (fun _ => 0))) (by simp) hp0
  have ad_12 : alq_10 (2, p, 1) = q_1 := by rw [halq_10, xa_ne (by simp)]; exact ((ad_7).symm).symm
  have hn_3 := xu_of (t := (2, p, 3)) (e := .inl (E.2.1 0, 5, .inl (fun _ => 0))) (by simp) hn_3
  have ad_13 : alq_10 (2, p, 2) = q_5 := by rw [halq_10, xa_ne (by simp)]; exact ((ad_9).symm).symm
  have hn_8 := xu_of (t := (2, p, 3)) (e := .inl (E.2.1 0, 5, .inl (fun _ => 0))) (by simp) hn_8
  have ad_15 : alq_10 (2, p, 3) = q_10 := by rw [halq_10, hq_10]
  have hn_14 : (xu (xu (xu (xu (xu w (2, p, 1) (.inl (E.2.1 4, 16, .inr (.inr (.inr (.inr (fun _ => none))))))) (2, p, 0) (.inr (5, [.int a, .int b, .ref q_1, .null, .null]))) (2, p, 2) (.inl (E.2.1 3, 8, .inr (.inr (.inr (.inr (fun _ => none))))))) (2, p, 0) (.inr (5, [.int a, .int b, .ref q_1, .ref q_5, .null]))) (2, p, 3) (.inl (E.2.1 0, 5, .inl (fun _ => 0)))) (2, p, 3) = some (.inl (E.2.1 0, 5, .inl (fun _ => 0))) := xu_self _ _ _
  refine lv_adr2 (ad_11).symm ?_
  refine x_putF C hH hS (ci := 5) (T := TX4) (N := 5) (fs' := [.int a, .int b, .ref q_1, .ref q_5, .ref q_10]) hp0 rfl iWX4 tyX4 tyX4_ok nmX4 4 (by decide) qw_399 rfl rfl hin rfl rfl rfl (Nat.le_of_ble_eq_true rfl) rfl dX4_init_26 (fun H locs hH hS => ?_)
  have hn_3 := xu_of (t := (2, p, 0)) (e := .inr (5, [.int a, .int b, .ref q_1, .ref q_5, .ref q_10])) (by simp) hn_3
  have hn_8 := xu_of (t := (2, p, 0)) (e := .inr (5, [.int a, .int b, .ref q_1, .ref q_5, .ref q_10])) (by simp) hn_8
  have hn_14 := xu_of (t := (2, p, 0)) (e := .inr (5, [.int a, .int b, .ref q_1, .ref q_5, .ref q_10])) (by simp) hn_14
  have hp0 : (xu (xu (xu (xu (xu (xu w (2, p, 1) (.inl (E.2.1 4, 16, .inr (.inr (.inr (.inr (fun _ => none))))))) (2, p, 0) (.inr (5, [.int a, .int b, .ref q_1, .null, .null]))) (2, p, 2) (.inl (E.2.1 3, 8, .inr (.inr (.inr (.inr (fun _ => none))))))) (2, p, 0) (.inr (5, [.int a, .int b, .ref q_1, .ref q_5, .null]))) (2, p, 3) (.inl (E.2.1 0, 5, .inl (fun _ => 0)))) (2, p, 0) (.inr (5, [.int a, .int b, .ref q_1, .ref q_5, .ref q_10]))) (2, p, 0) = some (.inr (5, [.int a, .int b, .ref q_1, .ref q_5, .ref q_10])) := xu_self _ _ _
  refine lv_aload_n hx hb dX4_init_29 rfl (lv_at hl 0 rfl) ?_
  refine lv_iload_n hx hb dX4_init_30 rfl (lv_at hl 1 rfl) ?_
  refine lv_adr2 (ad_11).symm ?_
  refine x_putF C hH hS (ci := 5) (T := TX4) (N := 5) (fs' := [.int (nI p), .int b, .ref q_1, .ref q_5, .ref q_10]) hp0 rfl iWX4 tyX4 tyX4_ok nmX4 0 (by decide) qw_391 rfl rfl hin rfl rfl rfl (Nat.le_of_ble_eq_true rfl) rfl dX4_init_31 (fun H locs hH hS => ?_)
  have hn_3 := xu_of (t := (2, p, 0)) (e := .inr (5, [.int (nI p), .int b, .ref q_1, .ref q_5, .ref q_10])) (by simp) hn_3
  have hn_8 := xu_of (t := (2, p, 0)) (e := .inr (5, [.int (nI p), .int b, .ref q_1, .ref q_5, .ref q_10])) (by simp) hn_8
  have hn_14 := xu_of (t := (2, p, 0)) (e := .inr (5, [.int (nI p), .int b, .ref q_1, .ref q_5, .ref q_10])) (by simp) hn_14
  have hp0 : (xu (xu (xu (xu (xu (xu (xu w (2, p, 1) (.inl (E.2.1 4, 16, .inr (.inr (.inr (.inr (fun _ => none))))))) (2, p, 0) (.inr (5, [.int a, .int b, .ref q_1, .null, .null]))) (2, p, 2) (.inl (E.2.1 3, 8, .inr (.inr (.inr (.inr (fun _ => none))))))) (2, p, 0) (.inr (5, [.int a, .int b, .ref q_1, .ref q_5, .null]))) (2, p, 3) (.inl (E.2.1 0, 5, .inl (fun _ => 0)))) (2, p, 0) (.inr (5, [.int a, .int b, .ref q_1, .ref q_5, .ref q_10]))) (2, p, 0) (.inr (5, [.int (nI p), .int b, .ref q_1, .ref q_5, .ref q_10]))) (2, p, 0) = some (.inr (5, [.int (nI p), .int b, .ref q_1, .ref q_5, .ref q_10])) := xu_self _ _ _
  refine lv_aload_n hx hb dX4_init_34 rfl (lv_at hl 0 rfl) ?_
  refine lv_iload_n hx hb dX4_init_35 rfl (lv_at hl 2 rfl) ?_
  refine lv_adr2 (ad_11).symm ?_
  refine x_put C hH hS (ci := 5) (T := TX4) (N := 5) (fs' := [.int (nI p), .int x, .ref q_1, .ref q_5, .ref q_10]) hp0 rfl iWX4 tyX4 tyX4_ok nmX4 1 (by decide) qw_394 rfl rfl rfl rfl (Nat.le_of_ble_eq_true rfl) rfl dX4_init_36 (fun H locs hH hS => ?_)
  have hn_3 := xu_of (t := (2, p, 0)) (e := .inr (5, [.int (nI p), .int x, .ref q_1, .ref q_5, .ref q_10])) (by simp) hn_3
  have hn_8 := xu_of (t := (2, p, 0)) (e := .inr (5, [.int (nI p), .int x, .ref q_1, .ref q_5, .ref q_10])) (by simp) hn_8
  have hn_14 := xu_of (t := (2, p, 0)) (e := .inr (5, [.int (nI p), .int x, .ref q_1, .ref q_5, .ref q_10])) (by simp) hn_14
  have hp0 : (xu (xu (xu (xu (xu (xu (xu (xu w (2, p, 1) (.inl (E.2.1 4, 16, .inr (.inr (.inr (.inr (fun _ => none))))))) (2, p, 0) (.inr (5, [.int a, .int b, .ref q_1, .null, .null]))) (2, p, 2) (.inl (E.2.1 3, 8, .inr (.inr (.inr (.inr (fun _ => none))))))) (2, p, 0) (.inr (5, [.int a, .int b, .ref q_1, .ref q_5, .null]))) (2, p, 3) (.inl (E.2.1 0, 5, .inl (fun _ => 0)))) (2, p, 0) (.inr (5, [.int a, .int b, .ref q_1, .ref q_5, .ref q_10]))) (2, p, 0) (.inr (5, [.int (nI p), .int b, .ref q_1, .ref q_5, .ref q_10]))) (2, p, 0) (.inr (5, [.int (nI p), .int x, .ref q_1, .ref q_5, .ref q_10]))) (2, p, 0) = some (.inr (5, [.int (nI p), .int x, .ref q_1, .ref q_5, .ref q_10])) := xu_self _ _ _
  refine lv_iconst (v := nI 0) hx hb dX4_init_39 (by decide +kernel) ?_
  refine lv_istore_n (lv' := [(3, .int (nI 0)), (0, .ref (al (2, p, 0))), (1, .int (nI p)), (2, .int x)]) hx hb dX4_init_40 rfl hl (by decide) rfl (fun ls hl => ?_)
  have lp41 : ∀ (i : Nat), i ≤ 8 → ∀ (al9 : Tg → Nat) (w9 : Tg → Option va_E) (H : Heap) (locs : List Loc) (ls : Array Slot), PTi E al9 w9 p x i → (∀ t : Tg, ¬ (2 ≤ t.1 ∧ t.1 ≤ 5 ∧ t.2.1 = p) → w9 t = w t ∧ al9 t = al t) → al9 (2, p, 0) = al (2, p, 0) → xH E base al9 w9 H → va_S (xA base) s.heap H locs → lv_has ls 4 [(3, .int (nI i)), (2, .int x), (1, .int (nI p)), (0, .ref (al (2, p, 0)))] → W p9 l e9 ({ frames := 2, cells := 19, slots := 173, locals := 32 } : Room) s m9 ([.ref (al (2, p, 0)), .int (nI p), .int x] : List Value).toArray below meth c9 H locs (3 + 2 * i) (29 + 18 * i) Q (F0 m9 41 ls []) := by
    refine lp_up ?_
    intro i hii ih41 al9 w9 H locs ls hp9 hfr ha9 hH hS hl
    have hp8 := hp9
    obtain ⟨g0, g1, g2, g3, g5, g6⟩ := hp8
    refine lv_iload_n hx hb dX4_init_41 rfl (lv_at hl 0 rfl) ?_
    refine lv_aload_n hx hb dX4_init_42 rfl (lv_at hl 3 rfl) ?_
    refine lv_adr ha9.symm ?_
    refine x_get C hH (ci := 5) (T := TX4) (N := 5) g0 rfl iWX4 3 (by decide) qw_397 rfl rfl dX4_init_43 ?_
    refine x_alen (v := nI 8) C hH 3 rfl g2 rfl dX4_init_46 ?_
    refine lv_icmp_ge (tgt := 69) hx hb dX4_init_47 (by decide) (fun c_16 => ?_) (fun c_16 => ?_)
    · skip
      replace c_16 := (nI_leI (by omega) (by omega)).mp c_16
      rw [← hQ]
      refine x_retv C hS (by first | exact Nat.le_of_ble_eq_true rfl | (show 3 + 2 * i + 1 + 1 ≤ 19; omega) | (show 29 + 18 * i + 2 + 16 ≤ 173; omega) | (show _ ≤ 19; omega) | (show _ ≤ 173; omega)) (by first | exact Nat.le_of_ble_eq_true rfl | (show 3 + 2 * i + 1 + 1 ≤ 19; omega) | (show 29 + 18 * i + 2 + 16 ≤ 173; omega) | (show _ ≤ 19; omega) | (show _ ≤ 173; omega)) dX4_init_69 ?_
      rw [hpost]
      have e8 : i = 8 := by omega
      subst e8
      exact ⟨rfl, al9, w9, hH, hp9, hfr, ha9⟩
    · skip
      replace c_16 := mt (nI_leI (by omega) (by omega)).mpr c_16
      refine lv_aload_n hx hb dX4_init_50 rfl (lv_at hl 3 rfl) ?_
      refine lv_adr ha9.symm ?_
      refine x_get C hH (ci := 5) (T := TX4) (N := 5) g0 rfl iWX4 3 (by decide) qw_397 rfl rfl dX4_init_51 ?_
      refine lv_iload_n hx hb dX4_init_54 rfl (lv_at hl 0 rfl) ?_
      refine x_new C hH hS (4, p, i) (ci := 3) (T := TX2) (N := 2) (fs := [.null, .int 0]) rfl iWX2 tyX2 tyX2_ok qw_388 qw_59 qw_5 (fun j hj => by rcases (show j = 0 ∨ j = 1 by omega) with rfl | rfl <;> rfl) (by first | exact Nat.le_of_ble_eq_true rfl | (show 3 + 2 * i + 1 + 1 ≤ 19; omega) | (show 29 + 18 * i + 2 + 16 ≤ 173; omega) | (show _ ≤ 19; omega) | (show _ ≤ 173; omega)) (by first | exact Nat.le_of_ble_eq_true rfl | (show 3 + 2 * i + 1 + 1 ≤ 19; omega) | (show 29 + 18 * i + 2 + 16 ≤ 173; omega) | (show _ ≤ 19; omega) | (show _ ≤ 173; omega)) dX4_init_55 (fun G17_ hH hS => ?_)
      obtain ⟨q_17, hq_17⟩ : ∃ zz9 : Nat, zz9 = xa al9 (4, p, i) H.size (4, p, i) := ⟨_, rfl⟩
      obtain ⟨alq_17, halq_17⟩ : ∃ zz9 : Tg → Nat, zz9 = xa al9 (4, p, i) H.size := ⟨_, rfl⟩
      rw [← halq_17] at hH
      rw [← hq_17]
      have ad_18 : alq_17 (2, p, 0) = al (2, p, 0) := by rw [halq_17, xa_ne (by simp)]; exact (ha9.symm).symm
      have g0 := xu_of (t := (4, p, i)) (e := .inr (3, [.null, .int 0])) (by simp) g0
      have ad_19 : alq_17 (2, p, 2) = al9 (2, p, 2) := by rw [halq_17, xa_ne (by simp)]
      have g2 := xu_of (t := (4, p, i)) (e := .inr (3, [.null, .int 0])) (by simp) g2
      have ad_21 : alq_17 (4, p, i) = q_17 := by rw [halq_17, hq_17]
      have hn_20 : (xu w9 (4, p, i) (.inr (3, [.null, .int 0]))) (4, p, i) = some (.inr (3, [.null, .int 0])) := xu_self _ _ _
      refine lv_dup hx hb dX4_init_58 rfl ?_
      refine lv_adr (ad_21).symm ?_
      refine x_callIN C hS (c_Knowledge l (E := E) (base := base) (tr := (5, p, i)) (by simp) hn_20) hH kX2_init qw_61 rfl nw_390  rfl [.ref q_17, .int (nI i), .ref (al9 (2, p, 2))] rfl hl.1 (by first | exact Nat.le_of_ble_eq_true rfl | (show 3 + 2 * i + 1 + 1 ≤ 19; omega) | (show 29 + 18 * i + 2 + 16 ≤ 173; omega) | (show _ ≤ 19; omega) | (show _ ≤ 173; omega)) ⟨(by first | exact Nat.le_of_ble_eq_true rfl | (show 3 + 2 * i + 1 + 1 ≤ 19; omega) | (show 29 + 18 * i + 2 + 16 ≤ 173; omega) | (show _ ≤ 19; omega) | (show _ ≤ 173; omega)), (by first | exact Nat.le_of_ble_eq_true rfl | (show 3 + 2 * i + 1 + 1 ≤ 19; omega) | (show 29 + 18 * i + 2 + 16 ≤ 173; omega) | (show _ ≤ 19; omega) | (show _ ≤ 173; omega))⟩ dX4_init_59 ⟨(by first | exact Nat.le_of_ble_eq_true rfl | (show 3 + 2 * i + 1 + 1 ≤ 19; omega) | (show 29 + 18 * i + 2 + 16 ≤ 173; omega) | (show _ ≤ 19; omega) | (show _ ≤ 173; omega)), (by first | exact Nat.le_of_ble_eq_true rfl | (show 3 + 2 * i + 1 + 1 ≤ 19; omega) | (show 29 + 18 * i + 2 + 16 ≤ 173; omega) | (show _ ≤ 19; omega) | (show _ ≤ 173; omega))⟩ (fun r_23 H locs hp_22 hS => ?_)
      obtain ⟨rfl, q2, hH⟩ := hp_22
      have g3 : (xu (xu (xu w9 (4, p, i) (.inr (3, [.null, .int 0]))) (5, p, i) (.inl (E.2.1 0, 16, .inl (fun _ => 0)))) (4, p, i) (.inr (3, [.ref q2, .int 0]))) (2, p, 2) = _ := xu_of (by simp) (xu_of (by simp) (xu_of (by simp) g2))
      have g4 : (xu (xu (xu w9 (4, p, i) (.inr (3, [.null, .int 0]))) (5, p, i) (.inl (E.2.1 0, 16, .inl (fun _ => 0)))) (4, p, i) (.inr (3, [.ref q2, .int 0]))) (4, p, i) = _ := xu_self _ _ _
      have ad2 : al9 (2, p, 2) = (xa alq_17 (5, p, i) q2) (2, p, 2) := by rw [xa_ne (by simp), halq_17, xa_ne (by simp)]
      have ad4 : q_17 = (xa alq_17 (5, p, i) q2) (4, p, i) := by rw [xa_ne (by simp)]; exact (ad_21).symm
      refine lv_adr3 ad2 ?_
      refine lv_adr ad4 ?_
      refine x_astq C hH hS 3 (ci := 3) rfl g3 g4 rfl (j := i) rfl (by omega) (by omega) dX4_init_62 (fun H locs hH hS => ?_)
      have g4 := xu_of (t := (2, p, 2)) (e := .inl (E.2.1 3, 8, .inr (.inr (.inr (.inr (va_up (fun b => if b < i then some (al9 (4, p, b)) else none) i (some ((xa alq_17 (5, p, i) q2) (4, p, i))))))))) (by simp) g4
      have g3 : (xu (xu (xu (xu w9 (4, p, i) (.inr (3, [.null, .int 0]))) (5, p, i) (.inl (E.2.1 0, 16, .inl (fun _ => 0)))) (4, p, i) (.inr (3, [.ref q2, .int 0]))) (2, p, 2) (.inl (E.2.1 3, 8, .inr (.inr (.inr (.inr (va_up (fun b => if b < i then some (al9 (4, p, b)) else none) i (some ((xa alq_17 (5, p, i) q2) (4, p, i)))))))))) (2, p, 2) = some (.inl (E.2.1 3, 8, .inr (.inr (.inr (.inr (va_up (fun b => if b < i then some (al9 (4, p, b)) else none) i (some ((xa alq_17 (5, p, i) q2) (4, p, i))))))))) := xu_self _ _ _
      refine lv_iinc (v := nI (i + 1)) (lv' := [(3, .int (nI (i + 1))), (2, .int x), (1, .int (nI p)), (0, .ref (al (2, p, 0)))]) hx hb dX4_init_63 hl (k := 0) rfl (nI_1 _) (by decide) rfl (fun ls hl => ?_)
      refine lv_goto (tgt := 41) hx hb dX4_init_66 (by decide) ?_
      have f9 : ∀ t : Tg, ¬ (2 ≤ t.1 ∧ t.1 ≤ 5 ∧ t.2.1 = p) → (xu (xu (xu (xu w9 (4, p, i) (.inr (3, [.null, .int 0]))) (5, p, i) (.inl (E.2.1 0, 16, .inl (fun _ => 0)))) (4, p, i) (.inr (3, [.ref q2, .int 0]))) (2, p, 2) (.inl (E.2.1 3, 8, .inr (.inr (.inr (.inr (va_up (fun b => if b < i then some (al9 (4, p, b)) else none) i (some ((xa alq_17 (5, p, i) q2) (4, p, i)))))))))) t = w t ∧ (xa alq_17 (5, p, i) q2) t = al t := fun t ht => ⟨by rw [xu_ne (fun e => by rw [e] at ht; revert ht; simp), xu_ne (fun e => by rw [e] at ht; revert ht; simp), xu_ne (fun e => by rw [e] at ht; revert ht; simp), xu_ne (fun e => by rw [e] at ht; revert ht; simp)]; exact (hfr t ht).1, by rw [xa_ne (fun e => by rw [e] at ht; revert ht; simp), halq_17, xa_ne (fun e => by rw [e] at ht; revert ht; simp)]; exact (hfr t ht).2⟩
      have z9 : (xa alq_17 (5, p, i) q2) (2, p, 0) = al (2, p, 0) := by rw [xa_ne (by simp), halq_17, xa_ne (by simp)]; exact ha9
      refine W.widen (k := 3 + 2 * (i + 1)) (n := 29 + 18 * (i + 1)) (by show 3 + 2 * i + 1 + 1 ≤ _; omega) (by show 29 + 18 * i + 2 + 16 ≤ _; omega) ?_
      exact ih41 (by omega) _ _ _ _ _ (pti_s hp9 halq_17) f9 z9 hH hS (lv_sub hl [0, 1, 2, 3] rfl)
  have z9 : alq_10 (2, p, 0) = al (2, p, 0) := by rw [halq_10, xa_ne (by simp), halq_5, xa_ne (by simp), halq_1, xa_ne (by simp)]
  have f9 : ∀ t : Tg, ¬ (2 ≤ t.1 ∧ t.1 ≤ 5 ∧ t.2.1 = p) → (xu (xu (xu (xu (xu (xu (xu (xu w (2, p, 1) (.inl (E.2.1 4, 16, .inr (.inr (.inr (.inr (fun _ => none))))))) (2, p, 0) (.inr (5, [.int a, .int b, .ref q_1, .null, .null]))) (2, p, 2) (.inl (E.2.1 3, 8, .inr (.inr (.inr (.inr (fun _ => none))))))) (2, p, 0) (.inr (5, [.int a, .int b, .ref q_1, .ref q_5, .null]))) (2, p, 3) (.inl (E.2.1 0, 5, .inl (fun _ => 0)))) (2, p, 0) (.inr (5, [.int a, .int b, .ref q_1, .ref q_5, .ref q_10]))) (2, p, 0) (.inr (5, [.int (nI p), .int b, .ref q_1, .ref q_5, .ref q_10]))) (2, p, 0) (.inr (5, [.int (nI p), .int x, .ref q_1, .ref q_5, .ref q_10]))) t = w t ∧ alq_10 t = al t := fun t ht => ⟨by rw [xu_ne (fun e => by rw [e] at ht; revert ht; simp), xu_ne (fun e => by rw [e] at ht; revert ht; simp), xu_ne (fun e => by rw [e] at ht; revert ht; simp), xu_ne (fun e => by rw [e] at ht; revert ht; simp), xu_ne (fun e => by rw [e] at ht; revert ht; simp), xu_ne (fun e => by rw [e] at ht; revert ht; simp), xu_ne (fun e => by rw [e] at ht; revert ht; simp), xu_ne (fun e => by rw [e] at ht; revert ht; simp)], by rw [halq_10, xa_ne (fun e => by rw [e] at ht; revert ht; simp), halq_5, xa_ne (fun e => by rw [e] at ht; revert ht; simp), halq_1, xa_ne (fun e => by rw [e] at ht; revert ht; simp)]⟩
  have g9 : PTi E alq_10 (xu (xu (xu (xu (xu (xu (xu (xu w (2, p, 1) (.inl (E.2.1 4, 16, .inr (.inr (.inr (.inr (fun _ => none))))))) (2, p, 0) (.inr (5, [.int a, .int b, .ref q_1, .null, .null]))) (2, p, 2) (.inl (E.2.1 3, 8, .inr (.inr (.inr (.inr (fun _ => none))))))) (2, p, 0) (.inr (5, [.int a, .int b, .ref q_1, .ref q_5, .null]))) (2, p, 3) (.inl (E.2.1 0, 5, .inl (fun _ => 0)))) (2, p, 0) (.inr (5, [.int a, .int b, .ref q_1, .ref q_5, .ref q_10]))) (2, p, 0) (.inr (5, [.int (nI p), .int b, .ref q_1, .ref q_5, .ref q_10]))) (2, p, 0) (.inr (5, [.int (nI p), .int x, .ref q_1, .ref q_5, .ref q_10]))) p x 0 := ⟨by rw [hp0]; rw [← (ad_12).symm, ← (ad_13).symm, ← (ad_15).symm], hn_3, by rw [ka_0]; exact hn_8, hn_14, fun b hb => absurd hb (Nat.not_lt_zero b), fun b hb => absurd hb (Nat.not_lt_zero b)⟩
  exact lp41 0 (Nat.zero_le _) _ _ _ _ _ g9 f9 z9 hH hS (lv_sub hl [0, 3, 2, 1] rfl)
