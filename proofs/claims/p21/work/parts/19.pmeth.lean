theorem xu_cm {w : Tg → Option va_E} {t u : Tg} {e e' : va_E} (h : t ≠ u) : xu (xu w t e) u e' = xu (xu w u e') t e := by
  funext z
  by_cases k : z = u
  · subst k; rw [xu_self, xu_ne (Ne.symm h), xu_self]
  · by_cases k2 : z = t
    · subst k2; rw [xu_ne k, xu_self, xu_self]
    · rw [xu_ne k, xu_ne k2, xu_ne k2, xu_ne k]
theorem x_forg {E : xE} {base : Nat} {al : Tg → Nat} {w : Tg → Option va_E} {H : Heap} {p b : Nat} {f : Nat → Int32} {v : va_E} (h : xH E base al (xu (xu w (5, p, b) (.inl (E.2.1 0, 16, .inl (fun j => if j < 16 then 0 else f j)))) (4, p, b) v) H) : xH E base al (xu (xu w (5, p, b) (.inl (E.2.1 0, 16, .inl (fun _ => 0)))) (4, p, b) v) H := by
  have hne : ((5, p, b) : Tg) ≠ (4, p, b) := by simp
  rw [xu_cm hne] at h ⊢
  exact x_arrI (fun j hj => if_pos hj) h
set_option maxHeartbeats 4000000 in
set_option maxRecDepth 100000 in
theorem c_rightFor0 (l : Launch) {E : xE} {base : Nat} {al : Tg → Nat} {w : Tg → Option va_E} {p : Nat} {bu : Int32} {rk rf rt fr : Nat → Int32} {KF : Nat → Nat → Int32} {KC : Nat → Nat} (hPT : PT E al w p bu rk rf rt fr KF KC) {f : Nat} (hf : f < 16) (hk : rk f = 0) : xMet l yX4_rightFor cX4_rightFor 2 (some ((.object "Dataroom$Right"))) ({ frames := 0, cells := 0, slots := 0, locals := 0 } : Room) E base [.ref (al (2, p, 0)), .int (nI f)] (fun H => xH E base al w H) (fun r H => r = some (.null) ∧ xH E base al w H) := by
  refine xMet.of (by decide +kernel) "Dataroom$Party" rfl (Nat.le_of_ble_eq_true rfl) ?_
  intro p9 e9 s m9 below meth c9 ls C hin hP hS hl
  have hx := C.hx
  have hb := C.hb
  have hH := hP
  have hl : lv_has ls 2 [(0, .ref (al (2, p, 0))), (1, .int (nI f))] := hl
  obtain ⟨post, hpost⟩ : ∃ zz9 : Option Value → Heap → Prop, zz9 = (fun r H => r = some (.null) ∧ xH E base al w H) := ⟨_, rfl⟩
  rw [← hpost]
  generalize hQ : (MQ below (xQ base post) ([.ref (al (2, p, 0)), .int (nI f)] : List Value).toArray s 0 0 (xA base)) = Q
  have hPT0 := hPT
  obtain ⟨h0, h1, h2, h3, h4, h5, h6⟩ := hPT
  refine lv_iload_n hx hb dX4_rightFor_0 rfl (lv_at hl 1 rfl) ?_
  refine lv_if_lt (tgt := 22) hx hb dX4_rightFor_1 (by decide) (fun c_1 => absurd c_1 (nI_pos (by omega))) (fun _ => ?_)
  refine lv_iload_n hx hb dX4_rightFor_4 rfl (lv_at hl 1 rfl) ?_
  refine lv_aload_n hx hb dX4_rightFor_5 rfl (lv_at hl 0 rfl) ?_
  refine x_get C hH (ci := 5) (T := TX4) (N := 5) h0 rfl iWX4 2 (by decide) qw_396 rfl rfl dX4_rightFor_6 ?_
  refine x_alen (v := nI 16) C hH 4 rfl h1 rfl dX4_rightFor_9 ?_
  refine lv_icmp_ge (tgt := 22) hx hb dX4_rightFor_10 (by decide) (fun c_2 => ?_) (fun c_2 => ?_)
  · skip
    replace c_2 := (nI_leI (by omega) (by omega)).mp c_2
    exact absurd hf (by omega)
  · skip
    replace c_2 := mt (nI_leI (by omega) (by omega)).mpr c_2
    refine lv_aload_n hx hb dX4_rightFor_13 rfl (lv_at hl 0 rfl) ?_
    refine x_get C hH (ci := 5) (T := TX4) (N := 5) h0 rfl iWX4 2 (by decide) qw_396 rfl rfl dX4_rightFor_14 ?_
    refine lv_iload_n hx hb dX4_rightFor_17 rfl (lv_at hl 1 rfl) ?_
    refine x_aldq C hH 4 rfl h1 (j := f) rfl (by omega) (by omega) (v := .null) (by rw [if_pos hk]; rfl) dX4_rightFor_18 ?_
    refine lv_goto (tgt := 23) hx hb dX4_rightFor_19 (by decide) ?_
    rw [← hQ]
    refine x_reta C (Or.inl ⟨_, rfl⟩) (Or.inl rfl) hS (Nat.le_of_ble_eq_true rfl) (Nat.le_of_ble_eq_true rfl) dX4_rightFor_23 ?_
    rw [hpost]
    exact ⟨rfl, hH⟩

set_option maxHeartbeats 4000000 in
set_option maxRecDepth 100000 in
theorem c_rightFor1 (l : Launch) {E : xE} {base : Nat} {al : Tg → Nat} {w : Tg → Option va_E} {p : Nat} {bu : Int32} {rk rf rt fr : Nat → Int32} {KF : Nat → Nat → Int32} {KC : Nat → Nat} (hPT : PT E al w p bu rk rf rt fr KF KC) {f : Nat} (hf : f < 16) (hk : ¬ rk f = 0) : xMet l yX4_rightFor cX4_rightFor 2 (some ((.object "Dataroom$Right"))) ({ frames := 0, cells := 0, slots := 0, locals := 0 } : Room) E base [.ref (al (2, p, 0)), .int (nI f)] (fun H => xH E base al w H) (fun r H => r = some (.ref (al (3, p, f))) ∧ xH E base al w H) := by
  refine xMet.of (by decide +kernel) "Dataroom$Party" rfl (Nat.le_of_ble_eq_true rfl) ?_
  intro p9 e9 s m9 below meth c9 ls C hin hP hS hl
  have hx := C.hx
  have hb := C.hb
  have hH := hP
  have hl : lv_has ls 2 [(0, .ref (al (2, p, 0))), (1, .int (nI f))] := hl
  obtain ⟨post, hpost⟩ : ∃ zz9 : Option Value → Heap → Prop, zz9 = (fun r H => r = some (.ref (al (3, p, f))) ∧ xH E base al w H) := ⟨_, rfl⟩
  rw [← hpost]
  generalize hQ : (MQ below (xQ base post) ([.ref (al (2, p, 0)), .int (nI f)] : List Value).toArray s 0 0 (xA base)) = Q
  have hPT0 := hPT
  obtain ⟨h0, h1, h2, h3, h4, h5, h6⟩ := hPT
  refine lv_iload_n hx hb dX4_rightFor_0 rfl (lv_at hl 1 rfl) ?_
  refine lv_if_lt (tgt := 22) hx hb dX4_rightFor_1 (by decide) (fun c_1 => absurd c_1 (nI_pos (by omega))) (fun _ => ?_)
  refine lv_iload_n hx hb dX4_rightFor_4 rfl (lv_at hl 1 rfl) ?_
  refine lv_aload_n hx hb dX4_rightFor_5 rfl (lv_at hl 0 rfl) ?_
  refine x_get C hH (ci := 5) (T := TX4) (N := 5) h0 rfl iWX4 2 (by decide) qw_396 rfl rfl dX4_rightFor_6 ?_
  refine x_alen (v := nI 16) C hH 4 rfl h1 rfl dX4_rightFor_9 ?_
  refine lv_icmp_ge (tgt := 22) hx hb dX4_rightFor_10 (by decide) (fun c_2 => ?_) (fun c_2 => ?_)
  · skip
    replace c_2 := (nI_leI (by omega) (by omega)).mp c_2
    exact absurd hf (by omega)
  · skip
    replace c_2 := mt (nI_leI (by omega) (by omega)).mpr c_2
    refine lv_aload_n hx hb dX4_rightFor_13 rfl (lv_at hl 0 rfl) ?_
    refine x_get C hH (ci := 5) (T := TX4) (N := 5) h0 rfl iWX4 2 (by decide) qw_396 rfl rfl dX4_rightFor_14 ?_
    refine lv_iload_n hx hb dX4_rightFor_17 rfl (lv_at hl 1 rfl) ?_
    refine x_aldq C hH 4 rfl h1 (j := f) rfl (by omega) (by omega) (v := .ref (al (3, p, f))) (by rw [if_neg hk]; rfl) dX4_rightFor_18 ?_
    refine lv_goto (tgt := 23) hx hb dX4_rightFor_19 (by decide) ?_
    rw [← hQ]
    refine x_reta C (Or.inl ⟨_, rfl⟩) (Or.inr ⟨_, rfl⟩) hS (Nat.le_of_ble_eq_true rfl) (Nat.le_of_ble_eq_true rfl) dX4_rightFor_23 ?_
    rw [hpost]
    exact ⟨rfl, hH⟩

set_option maxHeartbeats 4000000 in
set_option maxRecDepth 100000 in
theorem c_setRightN (l : Launch) {E : xE} {base : Nat} {al : Tg → Nat} {w : Tg → Option va_E} {p : Nat} {bu : Int32} {rk rf rt fr : Nat → Int32} {KF : Nat → Nat → Int32} {KC : Nat → Nat} (hPT : PT E al w p bu rk rf rt fr KF KC) {f : Nat} (hf : f < 16) : xMet l yX4_setRight cX4_setRight 3 none ({ frames := 0, cells := 0, slots := 0, locals := 0 } : Room) E base [.ref (al (2, p, 0)), .int (nI f), .null] (fun H => xH E base al w H) (fun r H => r = none ∧ xH E base al (xu w (2, p, 1) (.inl (E.2.1 4, 16, .inr (.inr (.inr (.inr (va_up (fun f => if rk f = 0 then none else some (al (3, p, f))) f none))))))) H) := by
  refine xMet.of (by decide +kernel) "Dataroom$Party" rfl (Nat.le_of_ble_eq_true rfl) ?_
  intro p9 e9 s m9 below meth c9 ls C hin hP hS hl
  have hx := C.hx
  have hb := C.hb
  have hH := hP
  have hl : lv_has ls 3 [(0, .ref (al (2, p, 0))), (1, .int (nI f)), (2, .null)] := hl
  obtain ⟨post, hpost⟩ : ∃ zz9 : Option Value → Heap → Prop, zz9 = (fun r H => r = none ∧ xH E base al (xu w (2, p, 1) (.inl (E.2.1 4, 16, .inr (.inr (.inr (.inr (va_up (fun f => if rk f = 0 then none else some (al (3, p, f))) f none))))))) H) := ⟨_, rfl⟩
  rw [← hpost]
  generalize hQ : (MQ below (xQ base post) ([.ref (al (2, p, 0)), .int (nI f), .null] : List Value).toArray s 0 0 (xA base)) = Q
  have hPT0 := hPT
  obtain ⟨h0, h1, h2, h3, h4, h5, h6⟩ := hPT
  refine lv_iload_n hx hb dX4_setRight_0 rfl (lv_at hl 1 rfl) ?_
  refine lv_if_lt (tgt := 20) hx hb dX4_setRight_1 (by decide) (fun c_1 => absurd c_1 (nI_pos (by omega))) (fun _ => ?_)
  refine lv_iload_n hx hb dX4_setRight_4 rfl (lv_at hl 1 rfl) ?_
  refine lv_aload_n hx hb dX4_setRight_5 rfl (lv_at hl 0 rfl) ?_
  refine x_get C hH (ci := 5) (T := TX4) (N := 5) h0 rfl iWX4 2 (by decide) qw_396 rfl rfl dX4_setRight_6 ?_
  refine x_alen (v := nI 16) C hH 4 rfl h1 rfl dX4_setRight_9 ?_
  refine lv_icmp_ge (tgt := 20) hx hb dX4_setRight_10 (by decide) (fun c_2 => ?_) (fun c_2 => ?_)
  · skip
    replace c_2 := (nI_leI (by omega) (by omega)).mp c_2
    exact absurd hf (by omega)
  · skip
    replace c_2 := mt (nI_leI (by omega) (by omega)).mpr c_2
    refine lv_aload_n hx hb dX4_setRight_13 rfl (lv_at hl 0 rfl) ?_
    refine x_get C hH (ci := 5) (T := TX4) (N := 5) h0 rfl iWX4 2 (by decide) qw_396 rfl rfl dX4_setRight_14 ?_
    refine lv_iload_n hx hb dX4_setRight_17 rfl (lv_at hl 1 rfl) ?_
    refine lv_aload_nN hx hb dX4_setRight_18 rfl (lv_at hl 2 rfl) ?_
    refine x_astqN C hH hS 4 rfl h1 (j := f) rfl (by omega) (by omega) dX4_setRight_19 (fun H locs hH hS => ?_)
    have h0 := xu_of (t := (2, p, 1)) (e := .inl (E.2.1 4, 16, .inr (.inr (.inr (.inr (va_up (fun f => if rk f = 0 then none else some (al (3, p, f))) f none)))))) (by simp) h0
    have h2 := xu_of (t := (2, p, 1)) (e := .inl (E.2.1 4, 16, .inr (.inr (.inr (.inr (va_up (fun f => if rk f = 0 then none else some (al (3, p, f))) f none)))))) (by simp) h2
    have h3 := xu_of (t := (2, p, 1)) (e := .inl (E.2.1 4, 16, .inr (.inr (.inr (.inr (va_up (fun f => if rk f = 0 then none else some (al (3, p, f))) f none)))))) (by simp) h3
    have h1 : (xu w (2, p, 1) (.inl (E.2.1 4, 16, .inr (.inr (.inr (.inr (va_up (fun f => if rk f = 0 then none else some (al (3, p, f))) f none))))))) (2, p, 1) = some (.inl (E.2.1 4, 16, .inr (.inr (.inr (.inr (va_up (fun f => if rk f = 0 then none else some (al (3, p, f))) f none)))))) := xu_self _ _ _
    rw [← hQ]
    refine x_retv C hS (Nat.le_of_ble_eq_true rfl) (Nat.le_of_ble_eq_true rfl) dX4_setRight_20 ?_
    rw [hpost]
    exact ⟨rfl, hH⟩

set_option maxHeartbeats 4000000 in
set_option maxRecDepth 100000 in
theorem c_setRight (l : Launch) {E : xE} {base : Nat} {al : Tg → Nat} {w : Tg → Option va_E} {p : Nat} {bu : Int32} {rk rf rt fr : Nat → Int32} {KF : Nat → Nat → Int32} {KC : Nat → Nat} (hPT : PT E al w p bu rk rf rt fr KF KC) {f : Nat} (hf : f < 16) {t : Tg} {k a b : Int32} (ht : w t = some (.inr (6, [.int k, .int a, .int b]))) : xMet l yX4_setRight cX4_setRight 3 none ({ frames := 0, cells := 0, slots := 0, locals := 0 } : Room) E base [.ref (al (2, p, 0)), .int (nI f), .ref (al t)] (fun H => xH E base al w H) (fun r H => r = none ∧ xH E base al (xu w (2, p, 1) (.inl (E.2.1 4, 16, .inr (.inr (.inr (.inr (va_up (fun f => if rk f = 0 then none else some (al (3, p, f))) f (some (al t))))))))) H) := by
  refine xMet.of (by decide +kernel) "Dataroom$Party" rfl (Nat.le_of_ble_eq_true rfl) ?_
  intro p9 e9 s m9 below meth c9 ls C hin hP hS hl
  have hx := C.hx
  have hb := C.hb
  have hH := hP
  have hl : lv_has ls 3 [(0, .ref (al (2, p, 0))), (1, .int (nI f)), (2, .ref (al t))] := hl
  obtain ⟨post, hpost⟩ : ∃ zz9 : Option Value → Heap → Prop, zz9 = (fun r H => r = none ∧ xH E base al (xu w (2, p, 1) (.inl (E.2.1 4, 16, .inr (.inr (.inr (.inr (va_up (fun f => if rk f = 0 then none else some (al (3, p, f))) f (some (al t))))))))) H) := ⟨_, rfl⟩
  rw [← hpost]
  generalize hQ : (MQ below (xQ base post) ([.ref (al (2, p, 0)), .int (nI f), .ref (al t)] : List Value).toArray s 0 0 (xA base)) = Q
  have hPT0 := hPT
  obtain ⟨h0, h1, h2, h3, h4, h5, h6⟩ := hPT
  refine lv_iload_n hx hb dX4_setRight_0 rfl (lv_at hl 1 rfl) ?_
  refine lv_if_lt (tgt := 20) hx hb dX4_setRight_1 (by decide) (fun c_1 => absurd c_1 (nI_pos (by omega))) (fun _ => ?_)
  refine lv_iload_n hx hb dX4_setRight_4 rfl (lv_at hl 1 rfl) ?_
  refine lv_aload_n hx hb dX4_setRight_5 rfl (lv_at hl 0 rfl) ?_
  refine x_get C hH (ci := 5) (T := TX4) (N := 5) h0 rfl iWX4 2 (by decide) qw_396 rfl rfl dX4_setRight_6 ?_
  refine x_alen (v := nI 16) C hH 4 rfl h1 rfl dX4_setRight_9 ?_
  refine lv_icmp_ge (tgt := 20) hx hb dX4_setRight_10 (by decide) (fun c_2 => ?_) (fun c_2 => ?_)
  · skip
    replace c_2 := (nI_leI (by omega) (by omega)).mp c_2
    exact absurd hf (by omega)
  · skip
    replace c_2 := mt (nI_leI (by omega) (by omega)).mpr c_2
    refine lv_aload_n hx hb dX4_setRight_13 rfl (lv_at hl 0 rfl) ?_
    refine x_get C hH (ci := 5) (T := TX4) (N := 5) h0 rfl iWX4 2 (by decide) qw_396 rfl rfl dX4_setRight_14 ?_
    refine lv_iload_n hx hb dX4_setRight_17 rfl (lv_at hl 1 rfl) ?_
    refine lv_aload_n hx hb dX4_setRight_18 rfl (lv_at hl 2 rfl) ?_
    refine x_astq C hH hS 4 (ci := 6) rfl h1 ht rfl (j := f) rfl (by omega) (by omega) dX4_setRight_19 (fun H locs hH hS => ?_)
    have h0 := xu_of (t := (2, p, 1)) (e := .inl (E.2.1 4, 16, .inr (.inr (.inr (.inr (va_up (fun f => if rk f = 0 then none else some (al (3, p, f))) f (some (al t)))))))) (by simp) h0
    have h2 := xu_of (t := (2, p, 1)) (e := .inl (E.2.1 4, 16, .inr (.inr (.inr (.inr (va_up (fun f => if rk f = 0 then none else some (al (3, p, f))) f (some (al t)))))))) (by simp) h2
    have h3 := xu_of (t := (2, p, 1)) (e := .inl (E.2.1 4, 16, .inr (.inr (.inr (.inr (va_up (fun f => if rk f = 0 then none else some (al (3, p, f))) f (some (al t)))))))) (by simp) h3
    have ht := xu_of (t := (2, p, 1)) (e := .inl (E.2.1 4, 16, .inr (.inr (.inr (.inr (va_up (fun f => if rk f = 0 then none else some (al (3, p, f))) f (some (al t)))))))) (tg_ne ht h1 (by nofun)) ht
    have h1 : (xu w (2, p, 1) (.inl (E.2.1 4, 16, .inr (.inr (.inr (.inr (va_up (fun f => if rk f = 0 then none else some (al (3, p, f))) f (some (al t))))))))) (2, p, 1) = some (.inl (E.2.1 4, 16, .inr (.inr (.inr (.inr (va_up (fun f => if rk f = 0 then none else some (al (3, p, f))) f (some (al t)))))))) := xu_self _ _ _
    rw [← hQ]
    refine x_retv C hS (Nat.le_of_ble_eq_true rfl) (Nat.le_of_ble_eq_true rfl) dX4_setRight_20 ?_
    rw [hpost]
    exact ⟨rfl, hH⟩

set_option maxHeartbeats 4000000 in
set_option maxRecDepth 100000 in
theorem c_rightIn0 (l : Launch) {E : xE} {base : Nat} {al : Tg → Nat} {w : Tg → Option va_E} {p : Nat} {bu : Int32} {rk rf rt fr : Nat → Int32} {KF : Nat → Nat → Int32} {KC : Nat → Nat} (hPT : PT E al w p bu rk rf rt fr KF KC) {f : Nat} {hh : Int32} (hf : f < 16) (hk : rk f = 0) : xMet l yX4_rightIn cX4_rightIn 4 (some (.int)) ({ frames := 2, cells := 0, slots := 0, locals := 60 } : Room) E base [.ref (al (2, p, 0)), .int hh, .int (nI f)] (fun H => xH E base al w H) (fun r H => r = some (.int (rIn (rk f) (rf f) (rt f) hh)) ∧ xH E base al w H) := by
  refine xMet.of (by decide +kernel) "Dataroom$Party" rfl (Nat.le_of_ble_eq_true rfl) ?_
  intro p9 e9 s m9 below meth c9 ls C hin hP hS hl
  have hx := C.hx
  have hb := C.hb
  have hH := hP
  have hl : lv_has ls 4 [(0, .ref (al (2, p, 0))), (1, .int hh), (2, .int (nI f))] := hl
  obtain ⟨post, hpost⟩ : ∃ zz9 : Option Value → Heap → Prop, zz9 = (fun r H => r = some (.int (rIn (rk f) (rf f) (rt f) hh)) ∧ xH E base al w H) := ⟨_, rfl⟩
  rw [← hpost]
  generalize hQ : (MQ below (xQ base post) ([.ref (al (2, p, 0)), .int hh, .int (nI f)] : List Value).toArray s 0 0 (xA base)) = Q
  have hPT0 := hPT
  obtain ⟨h0, h1, h2, h3, h4, h5, h6⟩ := hPT
  refine lv_aload_n hx hb dX4_rightIn_0 rfl (lv_at hl 0 rfl) ?_
  refine lv_iload_n hx hb dX4_rightIn_1 rfl (lv_at hl 2 rfl) ?_
  refine x_callV C hH hS (ci := 5) (t := (2, p, 0)) h0 rfl rfl (c_rightFor0 l (E := E) (base := base) hPT0 (f := f) hf hk) hH kX4_rightFor qw_458 qw_459 qw_500  rfl [] rfl hl.1 (Nat.le_of_ble_eq_true rfl) ⟨Nat.le_of_ble_eq_true rfl, Nat.le_of_ble_eq_true rfl⟩ dX4_rightIn_2 ⟨Nat.le_of_ble_eq_true rfl, Nat.le_of_ble_eq_true rfl⟩ (fun r_2 H locs hp_1 hS => ?_)
  obtain ⟨rfl, hH⟩ := hp_1
  refine lv_astore_nN (lv' := [(3, .null), (0, .ref (al (2, p, 0))), (1, .int hh), (2, .int (nI f))]) hx hb dX4_rightIn_5 rfl hl (by decide) rfl (fun ls hl => ?_)
  refine lv_aload_nN hx hb dX4_rightIn_6 rfl (lv_at hl 0 rfl) ?_
  refine lv_ifnonnullN hx hb dX4_rightIn_7 ?_
  refine lv_iconst (v := nI 0) hx hb dX4_rightIn_10 (by decide +kernel) ?_
  refine lv_goto (tgt := 19) hx hb dX4_rightIn_11 (by decide) ?_
  rw [← hQ]
  refine x_reti C rfl hS (Nat.le_of_ble_eq_true rfl) (Nat.le_of_ble_eq_true rfl) dX4_rightIn_19 ?_
  rw [hpost]
  exact ⟨by unfold rIn; rw [if_pos hk], hH⟩

set_option maxHeartbeats 4000000 in
set_option maxRecDepth 100000 in
theorem c_rightIn1 (l : Launch) {E : xE} {base : Nat} {al : Tg → Nat} {w : Tg → Option va_E} {p : Nat} {bu : Int32} {rk rf rt fr : Nat → Int32} {KF : Nat → Nat → Int32} {KC : Nat → Nat} (hPT : PT E al w p bu rk rf rt fr KF KC) {f : Nat} {hh : Int32} (hf : f < 16) (hk : ¬ rk f = 0) : xMet l yX4_rightIn cX4_rightIn 4 (some (.int)) ({ frames := 2, cells := 0, slots := 0, locals := 60 } : Room) E base [.ref (al (2, p, 0)), .int hh, .int (nI f)] (fun H => xH E base al w H) (fun r H => r = some (.int (rIn (rk f) (rf f) (rt f) hh)) ∧ xH E base al w H) := by
  refine xMet.of (by decide +kernel) "Dataroom$Party" rfl (Nat.le_of_ble_eq_true rfl) ?_
  intro p9 e9 s m9 below meth c9 ls C hin hP hS hl
  have hx := C.hx
  have hb := C.hb
  have hH := hP
  have hl : lv_has ls 4 [(0, .ref (al (2, p, 0))), (1, .int hh), (2, .int (nI f))] := hl
  obtain ⟨post, hpost⟩ : ∃ zz9 : Option Value → Heap → Prop, zz9 = (fun r H => r = some (.int (rIn (rk f) (rf f) (rt f) hh)) ∧ xH E base al w H) := ⟨_, rfl⟩
  rw [← hpost]
  generalize hQ : (MQ below (xQ base post) ([.ref (al (2, p, 0)), .int hh, .int (nI f)] : List Value).toArray s 0 0 (xA base)) = Q
  have hPT0 := hPT
  obtain ⟨h0, h1, h2, h3, h4, h5, h6⟩ := hPT
  refine lv_aload_n hx hb dX4_rightIn_0 rfl (lv_at hl 0 rfl) ?_
  refine lv_iload_n hx hb dX4_rightIn_1 rfl (lv_at hl 2 rfl) ?_
  refine x_callV C hH hS (ci := 5) (t := (2, p, 0)) h0 rfl rfl (c_rightFor1 l (E := E) (base := base) hPT0 (f := f) hf hk) hH kX4_rightFor qw_458 qw_459 qw_500  rfl [] rfl hl.1 (Nat.le_of_ble_eq_true rfl) ⟨Nat.le_of_ble_eq_true rfl, Nat.le_of_ble_eq_true rfl⟩ dX4_rightIn_2 ⟨Nat.le_of_ble_eq_true rfl, Nat.le_of_ble_eq_true rfl⟩ (fun r_2 H locs hp_1 hS => ?_)
  obtain ⟨rfl, hH⟩ := hp_1
  refine lv_astore_n (lv' := [(3, .ref (al (3, p, f))), (0, .ref (al (2, p, 0))), (1, .int hh), (2, .int (nI f))]) hx hb dX4_rightIn_5 rfl hl (by decide) rfl (fun ls hl => ?_)
  refine lv_aload_n hx hb dX4_rightIn_6 rfl (lv_at hl 0 rfl) ?_
  refine lv_ifnonnull (tgt := 14) hx hb dX4_rightIn_7 (by decide) ?_
  refine lv_aload_n hx hb dX4_rightIn_14 rfl (lv_at hl 0 rfl) ?_
  refine lv_iload_n hx hb dX4_rightIn_15 rfl (lv_at hl 2 rfl) ?_
  refine x_callV C hH hS (ci := 6) (t := (3, p, f)) (h4 f (by omega) hk) rfl rfl (c_in l (E := E) (base := base) (al := al) (h := hh) (h4 f hf hk)) hH kX5_in qw_502 qw_503 qw_501  rfl [] rfl hl.1 (Nat.le_of_ble_eq_true rfl) ⟨Nat.le_of_ble_eq_true rfl, Nat.le_of_ble_eq_true rfl⟩ dX4_rightIn_16 ⟨Nat.le_of_ble_eq_true rfl, Nat.le_of_ble_eq_true rfl⟩ (fun r_4 H locs hp_3 hS => ?_)
  obtain ⟨rfl, hH⟩ := hp_3
  rw [← hQ]
  refine x_reti C rfl hS (Nat.le_of_ble_eq_true rfl) (Nat.le_of_ble_eq_true rfl) dX4_rightIn_19 ?_
  rw [hpost]
  exact ⟨by unfold rIn; rw [if_neg hk], hH⟩

theorem c_rightIn (l : Launch) {E : xE} {base : Nat} {al : Tg → Nat} {w : Tg → Option va_E} {p : Nat} {bu : Int32} {rk rf rt fr : Nat → Int32} {KF : Nat → Nat → Int32} {KC : Nat → Nat} (hPT : PT E al w p bu rk rf rt fr KF KC) {f : Nat} {hh : Int32} (hf : f < 16) : xMet l yX4_rightIn cX4_rightIn 4 (some (.int)) ({ frames := 2, cells := 0, slots := 0, locals := 60 } : Room) E base [.ref (al (2, p, 0)), .int hh, .int (nI f)] (fun H => xH E base al w H) (fun r H => r = some (.int (rIn (rk f) (rf f) (rt f) hh)) ∧ xH E base al w H) := by
  by_cases hk : rk f = 0
  · exact c_rightIn0 l hPT hf hk
  · exact c_rightIn1 l hPT hf hk

set_option maxHeartbeats 4000000 in
set_option maxRecDepth 100000 in
theorem c_countQ (l : Launch) {E : xE} {base : Nat} {al : Tg → Nat} {w : Tg → Option va_E} {p : Nat} {bu : Int32} {rk rf rt fr : Nat → Int32} {KF : Nat → Nat → Int32} {KC : Nat → Nat} (hPT : PT E al w p bu rk rf rt fr KF KC) {k : Nat} (hk : k < 5) : xMet l yX4_countQuestion cX4_countQuestion 3 none ({ frames := 0, cells := 0, slots := 0, locals := 0 } : Room) E base [.ref (al (2, p, 0)), .int (-nI k)] (fun H => xH E base al w H) (fun r H => r = none ∧ xH E base al (xu w (2, p, 3) (.inl (E.2.1 0, 5, .inl (upd fr k (fr k + nI 1))))) H) := by
  refine xMet.of (by decide +kernel) "Dataroom$Party" rfl (Nat.le_of_ble_eq_true rfl) ?_
  intro p9 e9 s m9 below meth c9 ls C hin hP hS hl
  have hx := C.hx
  have hb := C.hb
  have hH := hP
  have hl : lv_has ls 3 [(0, .ref (al (2, p, 0))), (1, .int (-nI k))] := hl
  obtain ⟨post, hpost⟩ : ∃ zz9 : Option Value → Heap → Prop, zz9 = (fun r H => r = none ∧ xH E base al (xu w (2, p, 3) (.inl (E.2.1 0, 5, .inl (upd fr k (fr k + nI 1))))) H) := ⟨_, rfl⟩
  rw [← hpost]
  generalize hQ : (MQ below (xQ base post) ([.ref (al (2, p, 0)), .int (-nI k)] : List Value).toArray s 0 0 (xA base)) = Q
  have hPT0 := hPT
  obtain ⟨h0, h1, h2, h3, h4, h5, h6⟩ := hPT
  refine lv_iload_n hx hb dX4_countQuestion_0 rfl (lv_at hl 1 rfl) ?_
  refine lv_ineg hx hb dX4_countQuestion_1 ?_
  refine lv_re (y := nI k) (Int32.neg_neg) ?_
  refine lv_istore_n (lv' := [(2, .int (nI k)), (0, .ref (al (2, p, 0))), (1, .int (-nI k))]) hx hb dX4_countQuestion_2 rfl hl (by decide) rfl (fun ls hl => ?_)
  refine lv_iload_n hx hb dX4_countQuestion_3 rfl (lv_at hl 0 rfl) ?_
  refine lv_if_lt (tgt := 26) hx hb dX4_countQuestion_4 (by decide) (fun c_1 => absurd c_1 (nI_pos (by omega))) (fun _ => ?_)
  refine lv_iload_n hx hb dX4_countQuestion_7 rfl (lv_at hl 0 rfl) ?_
  refine lv_aload_n hx hb dX4_countQuestion_8 rfl (lv_at hl 1 rfl) ?_
  refine x_get C hH (ci := 5) (T := TX4) (N := 5) h0 rfl iWX4 4 (by decide) qw_399 rfl rfl dX4_countQuestion_9 ?_
  refine x_alen (v := nI 5) C hH 0 rfl h3 rfl dX4_countQuestion_12 ?_
  refine lv_icmp_ge (tgt := 26) hx hb dX4_countQuestion_13 (by decide) (fun c_2 => ?_) (fun c_2 => ?_)
  · skip
    replace c_2 := (nI_leI (by omega) (by omega)).mp c_2
    exact absurd hk (by omega)
  · skip
    replace c_2 := mt (nI_leI (by omega) (by omega)).mpr c_2
    refine lv_aload_n hx hb dX4_countQuestion_16 rfl (lv_at hl 1 rfl) ?_
    refine x_get C hH (ci := 5) (T := TX4) (N := 5) h0 rfl iWX4 4 (by decide) qw_399 rfl rfl dX4_countQuestion_17 ?_
    refine lv_iload_n hx hb dX4_countQuestion_20 rfl (lv_at hl 0 rfl) ?_
    refine lv_dup2_11 hx hb dX4_countQuestion_21 rfl rfl ?_
    refine x_iald C hH h3 (j := k) rfl (by omega) (by omega) dX4_countQuestion_22 ?_
    refine lv_iconst (v := nI 1) hx hb dX4_countQuestion_23 (by decide +kernel) ?_
    refine lv_iadd hx hb dX4_countQuestion_24 ?_
    refine x_iast C hH hS h3 (j := k) rfl (by omega) (by omega) dX4_countQuestion_25 (fun H locs hH hS => ?_)
    have h0 := xu_of (t := (2, p, 3)) (e := .inl (E.2.1 0, 5, .inl (upd fr k (fr k + nI 1)))) (by simp) h0
    have h1 := xu_of (t := (2, p, 3)) (e := .inl (E.2.1 0, 5, .inl (upd fr k (fr k + nI 1)))) (by simp) h1
    have h2 := xu_of (t := (2, p, 3)) (e := .inl (E.2.1 0, 5, .inl (upd fr k (fr k + nI 1)))) (by simp) h2
    have h3 : (xu w (2, p, 3) (.inl (E.2.1 0, 5, .inl (upd fr k (fr k + nI 1))))) (2, p, 3) = some (.inl (E.2.1 0, 5, .inl (upd fr k (fr k + nI 1)))) := xu_self _ _ _
    rw [← hQ]
    refine x_retv C hS (Nat.le_of_ble_eq_true rfl) (Nat.le_of_ble_eq_true rfl) dX4_countQuestion_26 ?_
    rw [hpost]
    exact ⟨rfl, hH⟩

set_option maxHeartbeats 4000000 in
set_option maxRecDepth 100000 in
theorem c_questions (l : Launch) {E : xE} {base : Nat} {al : Tg → Nat} {w : Tg → Option va_E} {p : Nat} {bu : Int32} {rk rf rt fr : Nat → Int32} {KF : Nat → Nat → Int32} {KC : Nat → Nat} (hPT : PT E al w p bu rk rf rt fr KF KC) {k : Nat} (hk : k < 5) : xMet l yX4_questions cX4_questions 2 (some (.int)) ({ frames := 0, cells := 0, slots := 0, locals := 0 } : Room) E base [.ref (al (2, p, 0)), .int (nI k)] (fun H => xH E base al w H) (fun r H => r = some (.int (fr k)) ∧ xH E base al w H) := by
  refine xMet.of (by decide +kernel) "Dataroom$Party" rfl (Nat.le_of_ble_eq_true rfl) ?_
  intro p9 e9 s m9 below meth c9 ls C hin hP hS hl
  have hx := C.hx
  have hb := C.hb
  have hH := hP
  have hl : lv_has ls 2 [(0, .ref (al (2, p, 0))), (1, .int (nI k))] := hl
  obtain ⟨post, hpost⟩ : ∃ zz9 : Option Value → Heap → Prop, zz9 = (fun r H => r = some (.int (fr k)) ∧ xH E base al w H) := ⟨_, rfl⟩
  rw [← hpost]
  generalize hQ : (MQ below (xQ base post) ([.ref (al (2, p, 0)), .int (nI k)] : List Value).toArray s 0 0 (xA base)) = Q
  have hPT0 := hPT
  obtain ⟨h0, h1, h2, h3, h4, h5, h6⟩ := hPT
  refine lv_iload_n hx hb dX4_questions_0 rfl (lv_at hl 1 rfl) ?_
  refine lv_if_lt (tgt := 22) hx hb dX4_questions_1 (by decide) (fun c_1 => absurd c_1 (nI_pos (by omega))) (fun _ => ?_)
  refine lv_iload_n hx hb dX4_questions_4 rfl (lv_at hl 1 rfl) ?_
  refine lv_aload_n hx hb dX4_questions_5 rfl (lv_at hl 0 rfl) ?_
  refine x_get C hH (ci := 5) (T := TX4) (N := 5) h0 rfl iWX4 4 (by decide) qw_399 rfl rfl dX4_questions_6 ?_
  refine x_alen (v := nI 5) C hH 0 rfl h3 rfl dX4_questions_9 ?_
  refine lv_icmp_ge (tgt := 22) hx hb dX4_questions_10 (by decide) (fun c_2 => ?_) (fun c_2 => ?_)
  · skip
    replace c_2 := (nI_leI (by omega) (by omega)).mp c_2
    exact absurd hk (by omega)
  · skip
    replace c_2 := mt (nI_leI (by omega) (by omega)).mpr c_2
    refine lv_aload_n hx hb dX4_questions_13 rfl (lv_at hl 0 rfl) ?_
    refine x_get C hH (ci := 5) (T := TX4) (N := 5) h0 rfl iWX4 4 (by decide) qw_399 rfl rfl dX4_questions_14 ?_
    refine lv_iload_n hx hb dX4_questions_17 rfl (lv_at hl 1 rfl) ?_
    refine x_iald C hH h3 (j := k) rfl (by omega) (by omega) dX4_questions_18 ?_
    refine lv_goto (tgt := 23) hx hb dX4_questions_19 (by decide) ?_
    rw [← hQ]
    refine x_reti C rfl hS (Nat.le_of_ble_eq_true rfl) (Nat.le_of_ble_eq_true rfl) dX4_questions_23 ?_
    rw [hpost]
    exact ⟨rfl, hH⟩

set_option maxHeartbeats 4000000 in
set_option maxRecDepth 100000 in
theorem c_learned (l : Launch) {E : xE} {base : Nat} {al : Tg → Nat} {w : Tg → Option va_E} {p : Nat} {bu : Int32} {rk rf rt fr : Nat → Int32} {KF : Nat → Nat → Int32} {KC : Nat → Nat} (hPT : PT E al w p bu rk rf rt fr KF KC)  : xMet l yX4_learnedInAll cX4_learnedInAll 3 (some (.int)) ({ frames := 0, cells := 0, slots := 0, locals := 0 } : Room) E base [.ref (al (2, p, 0))] (fun H => xH E base al w H) (fun r H => r = some (.int (nI (sC KC 8))) ∧ xH E base al w H) := by
  refine xMet.of (by decide +kernel) "Dataroom$Party" rfl (Nat.le_of_ble_eq_true rfl) ?_
  intro p9 e9 s m9 below meth c9 ls C hin hP hS hl
  have hx := C.hx
  have hb := C.hb
  have hH := hP
  have hl : lv_has ls 3 [(0, .ref (al (2, p, 0)))] := hl
  obtain ⟨post, hpost⟩ : ∃ zz9 : Option Value → Heap → Prop, zz9 = (fun r H => r = some (.int (nI (sC KC 8))) ∧ xH E base al w H) := ⟨_, rfl⟩
  rw [← hpost]
  generalize hQ : (MQ below (xQ base post) ([.ref (al (2, p, 0))] : List Value).toArray s 0 0 (xA base)) = Q
  have hPT0 := hPT
  obtain ⟨h0, h1, h2, h3, h4, h5, h6⟩ := hPT
  refine lv_iconst (v := nI 0) hx hb dX4_learnedInAll_0 (by decide +kernel) ?_
  refine lv_istore_n (lv' := [(1, .int (nI 0)), (0, .ref (al (2, p, 0)))]) hx hb dX4_learnedInAll_1 rfl hl (by decide) rfl (fun ls hl => ?_)
  refine lv_iconst (v := nI 0) hx hb dX4_learnedInAll_2 (by decide +kernel) ?_
  refine lv_istore_n (lv' := [(2, .int (nI 0)), (1, .int (nI 0)), (0, .ref (al (2, p, 0)))]) hx hb dX4_learnedInAll_3 rfl hl (by decide) rfl (fun ls hl => ?_)
  have lp4 : ∀ (i : Nat), i ≤ 8 → ∀  (H : Heap) (locs : List Loc) (ls : Array Slot), xH E base al w H → va_S (xA base) s.heap H locs → lv_has ls 3 [(2, .int (nI i)), (1, .int (nI (sC KC i))), (0, .ref (al (2, p, 0)))] → W p9 l e9 ({ frames := 0, cells := 0, slots := 0, locals := 0 } : Room) s m9 ([.ref (al (2, p, 0))] : List Value).toArray below meth c9 H locs 0 0 Q (F0 m9 4 ls []) := by
    refine lp_up ?_
    intro i hii ih4  H locs ls hH hS hl
    refine lv_iload_n hx hb dX4_learnedInAll_4 rfl (lv_at hl 0 rfl) ?_
    refine lv_aload_n hx hb dX4_learnedInAll_5 rfl (lv_at hl 2 rfl) ?_
    refine x_get C hH (ci := 5) (T := TX4) (N := 5) h0 rfl iWX4 3 (by decide) qw_397 rfl rfl dX4_learnedInAll_6 ?_
    refine x_alen (v := nI 8) C hH 3 rfl h2 rfl dX4_learnedInAll_9 ?_
    refine lv_icmp_ge (tgt := 31) hx hb dX4_learnedInAll_10 (by decide) (fun c_1 => ?_) (fun c_1 => ?_)
    · skip
      replace c_1 := (nI_leI (by omega) (by omega)).mp c_1
      refine lv_iload_n hx hb dX4_learnedInAll_31 rfl (lv_at hl 1 rfl) ?_
      rw [← hQ]
      refine x_reti C rfl hS (Nat.le_of_ble_eq_true rfl) (Nat.le_of_ble_eq_true rfl) dX4_learnedInAll_32 ?_
      rw [hpost]
      have e8 : i = 8 := by omega
      subst e8
      exact ⟨rfl, hH⟩
    · skip
      replace c_1 := mt (nI_leI (by omega) (by omega)).mpr c_1
      refine lv_iload_n hx hb dX4_learnedInAll_13 rfl (lv_at hl 1 rfl) ?_
      refine lv_aload_n hx hb dX4_learnedInAll_14 rfl (lv_at hl 2 rfl) ?_
      refine x_get C hH (ci := 5) (T := TX4) (N := 5) h0 rfl iWX4 3 (by decide) qw_397 rfl rfl dX4_learnedInAll_15 ?_
      refine lv_iload_n hx hb dX4_learnedInAll_18 rfl (lv_at hl 0 rfl) ?_
      refine x_aldq C hH 3 rfl h2 (j := i) rfl (by omega) (by omega) (v := .ref (al (4, p, i))) (rfl) dX4_learnedInAll_19 ?_
      refine x_getN C hH (ci := 3) (T := TX2) (N := 2) (h5 i (by omega)) rfl iWX2 1 (by decide) nw_66 rfl rfl dX4_learnedInAll_20 ?_
      refine lv_iadd hx hb dX4_learnedInAll_23 ?_
      refine lv_re (nI_add _ _) ?_
      refine lv_istore_n (lv' := [(1, .int (nI (sC KC i + KC i))), (2, .int (nI i)), (0, .ref (al (2, p, 0)))]) hx hb dX4_learnedInAll_24 rfl hl (by decide) rfl (fun ls hl => ?_)
      refine lv_iinc (v := nI (i + 1)) (lv' := [(2, .int (nI (i + 1))), (1, .int (nI (sC KC i + KC i))), (0, .ref (al (2, p, 0)))]) hx hb dX4_learnedInAll_25 hl (k := 1) rfl (nI_1 _) (by decide) rfl (fun ls hl => ?_)
      refine lv_goto (tgt := 4) hx hb dX4_learnedInAll_28 (by decide) ?_
      exact ih4 (by omega)  _ _ _  hH hS (lv_sub hl [0, 1, 2] rfl)
  exact lp4 0 (by omega)  _ _ _  hH hS (lv_sub hl [0, 1, 2] rfl)

set_option maxHeartbeats 4000000 in
set_option maxRecDepth 100000 in
theorem c_costOf (l : Launch) {E : xE} {base : Nat} {al : Tg → Nat} {w : Tg → Option va_E} {p : Nat} {bu : Int32} {rk rf rt fr : Nat → Int32} {KF : Nat → Nat → Int32} {KC : Nat → Nat} (hPT : PT E al w p bu rk rf rt fr KF KC) {x bit : Int32} : xMet l yX4_costOf cX4_costOf 5 (some (.int)) ({ frames := 2, cells := 0, slots := 0, locals := 44 } : Room) E base [.ref (al (2, p, 0)), .int x, .int bit] (fun H => xH E base al w H) (fun r H => r = some (.int (nI (cC KF bit x 8))) ∧ xH E base al w H) := by
  refine xMet.of (by decide +kernel) "Dataroom$Party" rfl (Nat.le_of_ble_eq_true rfl) ?_
  intro p9 e9 s m9 below meth c9 ls C hin hP hS hl
  have hx := C.hx
  have hb := C.hb
  have hH := hP
  have hl : lv_has ls 5 [(0, .ref (al (2, p, 0))), (1, .int x), (2, .int bit)] := hl
  obtain ⟨post, hpost⟩ : ∃ zz9 : Option Value → Heap → Prop, zz9 = (fun r H => r = some (.int (nI (cC KF bit x 8))) ∧ xH E base al w H) := ⟨_, rfl⟩
  rw [← hpost]
  generalize hQ : (MQ below (xQ base post) ([.ref (al (2, p, 0)), .int x, .int bit] : List Value).toArray s 0 0 (xA base)) = Q
  have hPT0 := hPT
  obtain ⟨h0, h1, h2, h3, h4, h5, h6⟩ := hPT
  refine lv_iconst (v := nI 0) hx hb dX4_costOf_0 (by decide +kernel) ?_
  refine lv_istore_n (lv' := [(3, .int (nI 0)), (0, .ref (al (2, p, 0))), (1, .int x), (2, .int bit)]) hx hb dX4_costOf_1 rfl hl (by decide) rfl (fun ls hl => ?_)
  refine lv_iconst (v := nI 0) hx hb dX4_costOf_2 (by decide +kernel) ?_
  refine lv_istore (lv' := [(4, .int (nI 0)), (3, .int (nI 0)), (0, .ref (al (2, p, 0))), (1, .int x), (2, .int bit)]) hx hb dX4_costOf_3 hl (by decide) rfl (fun ls hl => ?_)
  have lp5 : ∀ (i : Nat), i ≤ 8 → ∀ (y : Nat) (H : Heap) (locs : List Loc) (ls : Array Slot), y = cC KF bit x i → xH E base al w H → va_S (xA base) s.heap H locs → lv_has ls 5 [(4, .int (nI i)), (3, .int (nI y)), (2, .int bit), (1, .int x), (0, .ref (al (2, p, 0)))] → W p9 l e9 ({ frames := 2, cells := 0, slots := 0, locals := 44 } : Room) s m9 ([.ref (al (2, p, 0)), .int x, .int bit] : List Value).toArray below meth c9 H locs 0 0 Q (F0 m9 5 ls []) := by
    refine lp_up ?_
    intro i hii ih5 y H locs ls hy hH hS hl
    have hy8 : y ≤ 8 := by have := cC_le (KF := KF) (bit := bit) (x := x) i; omega
    refine lv_iload hx hb dX4_costOf_5 (lv_at hl 0 rfl) ?_
    refine lv_aload_n hx hb dX4_costOf_7 rfl (lv_at hl 4 rfl) ?_
    refine x_get C hH (ci := 5) (T := TX4) (N := 5) h0 rfl iWX4 3 (by decide) qw_397 rfl rfl dX4_costOf_8 ?_
    refine x_alen (v := nI 8) C hH 3 rfl h2 rfl dX4_costOf_11 ?_
    refine lv_icmp_ge (tgt := 47) hx hb dX4_costOf_12 (by decide) (fun c_1 => ?_) (fun c_1 => ?_)
    · skip
      replace c_1 := (nI_leI (by omega) (by omega)).mp c_1
      refine lv_iload_n hx hb dX4_costOf_47 rfl (lv_at hl 1 rfl) ?_
      rw [← hQ]
      refine x_reti C rfl hS (Nat.le_of_ble_eq_true rfl) (Nat.le_of_ble_eq_true rfl) dX4_costOf_48 ?_
      rw [hpost]
      have e8 : i = 8 := by omega
      subst e8
      exact ⟨by rw [hy], hH⟩
    · skip
      replace c_1 := mt (nI_leI (by omega) (by omega)).mpr c_1
      refine lv_iload_n hx hb dX4_costOf_15 rfl (lv_at hl 2 rfl) ?_
      refine lv_iload hx hb dX4_costOf_16 (lv_at hl 0 rfl) ?_
      refine x_callSN C hS (c_covers l (E := E) (base := base) (al := al) (w := w) (x := bit) (k := i)) hH kX6_covers qw_366 nw_365  rfl [] rfl hl.1 (Nat.le_of_ble_eq_true rfl) ⟨Nat.le_of_ble_eq_true rfl, Nat.le_of_ble_eq_true rfl⟩ dX4_costOf_18 ⟨Nat.le_of_ble_eq_true rfl, Nat.le_of_ble_eq_true rfl⟩ (fun r_3 H locs hp_2 hS => ?_)
      obtain ⟨rfl, hH⟩ := hp_2
      refine lv_if_eq (tgt := 41) hx hb dX4_costOf_21 (by decide) (fun c_4 => ?_) (fun c_4 => ?_)
      · skip
        replace c_4 := ob_0.mp c_4
        refine lv_iinc (v := nI (i + 1)) (lv' := [(4, .int (nI (i + 1))), (3, .int (nI y)), (2, .int bit), (1, .int x), (0, .ref (al (2, p, 0)))]) hx hb dX4_costOf_41 hl (k := 0) rfl (nI_1 _) (by decide) rfl (fun ls hl => ?_)
        refine lv_goto (tgt := 5) hx hb dX4_costOf_44 (by decide) ?_
        exact ih5 (by omega) y _ _ _ (by simp [cC, ← hy, c_4]) hH hS (lv_sub hl [0, 1, 2, 3, 4] rfl)
      · skip
        replace c_4 := ob_n.mp c_4
        refine lv_aload_n hx hb dX4_costOf_24 rfl (lv_at hl 4 rfl) ?_
        refine x_get C hH (ci := 5) (T := TX4) (N := 5) h0 rfl iWX4 3 (by decide) qw_397 rfl rfl dX4_costOf_25 ?_
        refine lv_iload hx hb dX4_costOf_28 (lv_at hl 0 rfl) ?_
        refine x_aldq C hH 3 rfl h2 (j := i) rfl (by omega) (by omega) (v := .ref (al (4, p, i))) (rfl) dX4_costOf_30 ?_
        refine lv_iload_n hx hb dX4_costOf_31 rfl (lv_at hl 3 rfl) ?_
        refine x_callV C hH hS (ci := 3) (t := (4, p, i)) (h5 i (by omega)) rfl rfl (c_knows l (E := E) (base := base) (x := x) (h5 i (by omega)) (h6 i (by omega))) hH kX2_knows qw_527 qw_528 qw_538  rfl [] rfl hl.1 (Nat.le_of_ble_eq_true rfl) ⟨Nat.le_of_ble_eq_true rfl, Nat.le_of_ble_eq_true rfl⟩ dX4_costOf_32 ⟨Nat.le_of_ble_eq_true rfl, Nat.le_of_ble_eq_true rfl⟩ (fun r_6 H locs hp_5 hS => ?_)
        obtain ⟨rfl, hH⟩ := hp_5
        refine lv_if_ne (tgt := 41) hx hb dX4_costOf_35 (by decide) (fun c_7 => ?_) (fun c_7 => ?_)
        · skip
          replace c_7 := ob_n.mp c_7
          refine lv_iinc (v := nI (i + 1)) (lv' := [(4, .int (nI (i + 1))), (3, .int (nI y)), (2, .int bit), (1, .int x), (0, .ref (al (2, p, 0)))]) hx hb dX4_costOf_41 hl (k := 0) rfl (nI_1 _) (by decide) rfl (fun ls hl => ?_)
          refine lv_goto (tgt := 5) hx hb dX4_costOf_44 (by decide) ?_
          exact ih5 (by omega) y _ _ _ (by simp [cC, ← hy, c_4, c_7]) hH hS (lv_sub hl [0, 1, 2, 3, 4] rfl)
        · skip
          replace c_7 := ob_0.mp c_7
          refine lv_iinc (v := nI (y + 1)) (lv' := [(3, .int (nI (y + 1))), (4, .int (nI i)), (2, .int bit), (1, .int x), (0, .ref (al (2, p, 0)))]) hx hb dX4_costOf_38 hl (k := 1) rfl (nI_1 _) (by decide) rfl (fun ls hl => ?_)
          refine lv_iinc (v := nI (i + 1)) (lv' := [(4, .int (nI (i + 1))), (3, .int (nI (y + 1))), (2, .int bit), (1, .int x), (0, .ref (al (2, p, 0)))]) hx hb dX4_costOf_41 hl (k := 1) rfl (nI_1 _) (by decide) rfl (fun ls hl => ?_)
          refine lv_goto (tgt := 5) hx hb dX4_costOf_44 (by decide) ?_
          exact ih5 (by omega) (y + 1) _ _ _ (by simp [cC, ← hy, c_4, c_7]) hH hS (lv_sub hl [0, 1, 2, 3, 4] rfl)
  exact lp5 0 (by omega) 0 _ _ _ rfl hH hS (lv_sub hl [0, 1, 4, 3, 2] rfl)

set_option maxHeartbeats 4000000 in
set_option maxRecDepth 100000 in
theorem c_wouldFind (l : Launch) {E : xE} {base : Nat} {al : Tg → Nat} {w : Tg → Option va_E} {p : Nat} {bu : Int32} {rk rf rt fr : Nat → Int32} {KF : Nat → Nat → Int32} {KC : Nat → Nat} (hPT : PT E al w p bu rk rf rt fr KF KC) {x bit : Int32} {f : Nat} (hf : f < 16) : xMet l yX4_wouldFind cX4_wouldFind 5 (some (.boolean)) ({ frames := 3, cells := 0, slots := 0, locals := 66 } : Room) E base [.ref (al (2, p, 0)), .int (nI f), .int x, .int bit] (fun H => xH E base al w H) (fun r H => r = some (.int (ob (anyB (fun b => cov bit b && wre (KF b) (nI 1 <<< (nI f &&& 31)) x) 8))) ∧ xH E base al w H) := by
  refine xMet.of (by decide +kernel) "Dataroom$Party" rfl (Nat.le_of_ble_eq_true rfl) ?_
  intro p9 e9 s m9 below meth c9 ls C hin hP hS hl
  have hx := C.hx
  have hb := C.hb
  have hH := hP
  have hl : lv_has ls 5 [(0, .ref (al (2, p, 0))), (1, .int (nI f)), (2, .int x), (3, .int bit)] := hl
  obtain ⟨post, hpost⟩ : ∃ zz9 : Option Value → Heap → Prop, zz9 = (fun r H => r = some (.int (ob (anyB (fun b => cov bit b && wre (KF b) (nI 1 <<< (nI f &&& 31)) x) 8))) ∧ xH E base al w H) := ⟨_, rfl⟩
  rw [← hpost]
  generalize hQ : (MQ below (xQ base post) ([.ref (al (2, p, 0)), .int (nI f), .int x, .int bit] : List Value).toArray s 0 0 (xA base)) = Q
  have hPT0 := hPT
  obtain ⟨h0, h1, h2, h3, h4, h5, h6⟩ := hPT
  refine lv_iconst (v := nI 0) hx hb dX4_wouldFind_0 (by decide +kernel) ?_
  refine lv_istore (lv' := [(4, .int (nI 0)), (0, .ref (al (2, p, 0))), (1, .int (nI f)), (2, .int x), (3, .int bit)]) hx hb dX4_wouldFind_1 hl (by decide) rfl (fun ls hl => ?_)
  have lp3 : ∀ (i : Nat), i ≤ 8 → ∀  (H : Heap) (locs : List Loc) (ls : Array Slot), anyB (fun b => cov bit b && wre (KF b) (nI 1 <<< (nI f &&& 31)) x) i = false → xH E base al w H → va_S (xA base) s.heap H locs → lv_has ls 5 [(4, .int (nI i)), (3, .int bit), (2, .int x), (1, .int (nI f)), (0, .ref (al (2, p, 0)))] → W p9 l e9 ({ frames := 3, cells := 0, slots := 0, locals := 66 } : Room) s m9 ([.ref (al (2, p, 0)), .int (nI f), .int x, .int bit] : List Value).toArray below meth c9 H locs 0 0 Q (F0 m9 3 ls []) := by
    refine lp_up ?_
    intro i hii ih3  H locs ls hy hH hS hl
    refine lv_iload hx hb dX4_wouldFind_3 (lv_at hl 0 rfl) ?_
    refine lv_aload_n hx hb dX4_wouldFind_5 rfl (lv_at hl 4 rfl) ?_
    refine x_get C hH (ci := 5) (T := TX4) (N := 5) h0 rfl iWX4 3 (by decide) qw_397 rfl rfl dX4_wouldFind_6 ?_
    refine x_alen (v := nI 8) C hH 3 rfl h2 rfl dX4_wouldFind_9 ?_
    refine lv_icmp_ge (tgt := 47) hx hb dX4_wouldFind_10 (by decide) (fun c_1 => ?_) (fun c_1 => ?_)
    · skip
      replace c_1 := (nI_leI (by omega) (by omega)).mp c_1
      refine lv_iconst (v := nI 0) hx hb dX4_wouldFind_47 (by decide +kernel) ?_
      rw [← hQ]
      refine x_reti C rfl hS (Nat.le_of_ble_eq_true rfl) (Nat.le_of_ble_eq_true rfl) dX4_wouldFind_48 ?_
      rw [hpost]
      have e8 : i = 8 := by omega
      subst e8
      exact ⟨by rw [hy]; rfl, hH⟩
    · skip
      replace c_1 := mt (nI_leI (by omega) (by omega)).mpr c_1
      refine lv_iload_n hx hb dX4_wouldFind_13 rfl (lv_at hl 1 rfl) ?_
      refine lv_iload hx hb dX4_wouldFind_14 (lv_at hl 0 rfl) ?_
      refine x_callSN C hS (c_covers l (E := E) (base := base) (al := al) (w := w) (x := bit) (k := i)) hH kX6_covers qw_366 nw_365  rfl [] rfl hl.1 (Nat.le_of_ble_eq_true rfl) ⟨Nat.le_of_ble_eq_true rfl, Nat.le_of_ble_eq_true rfl⟩ dX4_wouldFind_16 ⟨Nat.le_of_ble_eq_true rfl, Nat.le_of_ble_eq_true rfl⟩ (fun r_3 H locs hp_2 hS => ?_)
      obtain ⟨rfl, hH⟩ := hp_2
      refine lv_if_eq (tgt := 41) hx hb dX4_wouldFind_19 (by decide) (fun c_4 => ?_) (fun c_4 => ?_)
      · skip
        replace c_4 := ob_0.mp c_4
        refine lv_iinc (v := nI (i + 1)) (lv' := [(4, .int (nI (i + 1))), (3, .int bit), (2, .int x), (1, .int (nI f)), (0, .ref (al (2, p, 0)))]) hx hb dX4_wouldFind_41 hl (k := 0) rfl (nI_1 _) (by decide) rfl (fun ls hl => ?_)
        refine lv_goto (tgt := 3) hx hb dX4_wouldFind_44 (by decide) ?_
        exact ih3 (by omega)  _ _ _ (by show (_ || _) = false; rw [hy]; simp [c_4]) hH hS (lv_sub hl [0, 1, 2, 3, 4] rfl)
      · skip
        replace c_4 := ob_n.mp c_4
        refine lv_aload_n hx hb dX4_wouldFind_22 rfl (lv_at hl 4 rfl) ?_
        refine x_get C hH (ci := 5) (T := TX4) (N := 5) h0 rfl iWX4 3 (by decide) qw_397 rfl rfl dX4_wouldFind_23 ?_
        refine lv_iload hx hb dX4_wouldFind_26 (lv_at hl 0 rfl) ?_
        refine x_aldq C hH 3 rfl h2 (j := i) rfl (by omega) (by omega) (v := .ref (al (4, p, i))) (rfl) dX4_wouldFind_28 ?_
        refine lv_iconst (v := nI 1) hx hb dX4_wouldFind_29 (by decide +kernel) ?_
        refine lv_iload_n hx hb dX4_wouldFind_30 rfl (lv_at hl 3 rfl) ?_
        refine lv_ishl hx hb dX4_wouldFind_31 ?_
        refine lv_iload_n hx hb dX4_wouldFind_32 rfl (lv_at hl 2 rfl) ?_
        refine x_callV C hH hS (ci := 3) (t := (4, p, i)) (h5 i (by omega)) rfl rfl (c_wouldReach l (E := E) (base := base) (x := (nI 1 <<< (nI f &&& 31))) (z := x) (h5 i (by omega)) (h6 i (by omega))) hH kX2_wouldReach qw_523 qw_524 qw_522  rfl [] rfl hl.1 (Nat.le_of_ble_eq_true rfl) ⟨Nat.le_of_ble_eq_true rfl, Nat.le_of_ble_eq_true rfl⟩ dX4_wouldFind_33 ⟨Nat.le_of_ble_eq_true rfl, Nat.le_of_ble_eq_true rfl⟩ (fun r_6 H locs hp_5 hS => ?_)
        obtain ⟨rfl, hH⟩ := hp_5
        refine lv_if_eq (tgt := 41) hx hb dX4_wouldFind_36 (by decide) (fun c_7 => ?_) (fun c_7 => ?_)
        · skip
          replace c_7 := ob_0.mp c_7
          refine lv_iinc (v := nI (i + 1)) (lv' := [(4, .int (nI (i + 1))), (3, .int bit), (2, .int x), (1, .int (nI f)), (0, .ref (al (2, p, 0)))]) hx hb dX4_wouldFind_41 hl (k := 0) rfl (nI_1 _) (by decide) rfl (fun ls hl => ?_)
          refine lv_goto (tgt := 3) hx hb dX4_wouldFind_44 (by decide) ?_
          exact ih3 (by omega)  _ _ _ (by show (_ || _) = false; rw [hy]; simp [c_4, c_7]) hH hS (lv_sub hl [0, 1, 2, 3, 4] rfl)
        · skip
          replace c_7 := ob_n.mp c_7
          refine lv_iconst (v := nI 1) hx hb dX4_wouldFind_39 (by decide +kernel) ?_
          rw [← hQ]
          refine x_reti C rfl hS (Nat.le_of_ble_eq_true rfl) (Nat.le_of_ble_eq_true rfl) dX4_wouldFind_40 ?_
          rw [hpost]
          exact ⟨by rw [anyB_t (P := (fun b => cov bit b && wre (KF b) (nI 1 <<< (nI f &&& 31)) x)) (i := i) (by simp [c_4, c_7]) 8 (by omega)]; rfl, hH⟩
  exact lp3 0 (by omega)  _ _ _ rfl hH hS (lv_sub hl [0, 4, 3, 2, 1] rfl)

set_option maxHeartbeats 4000000 in
set_option maxRecDepth 100000 in
theorem c_unread (l : Launch) {E : xE} {base : Nat} {al : Tg → Nat} {w : Tg → Option va_E} {p : Nat} {bu : Int32} {rk rf rt fr : Nat → Int32} {KF : Nat → Nat → Int32} {KC : Nat → Nat} (hPT : PT E al w p bu rk rf rt fr KF KC) {x bit hh : Int32} : xMet l yX4_wouldFindUnread cX4_wouldFindUnread 5 (some (.boolean)) ({ frames := 4, cells := 0, slots := 0, locals := 90 } : Room) E base [.ref (al (2, p, 0)), .int x, .int bit, .int hh] (fun H => xH E base al w H) (fun r H => r = some (.int (ob (anyB (fun f => !decide (rIn (rk f) (rf f) (rt f) hh = nI 2) && anyB (fun b => cov bit b && wre (KF b) (nI 1 <<< (nI f &&& 31)) x) 8) 16))) ∧ xH E base al w H) := by
  refine xMet.of (by decide +kernel) "Dataroom$Party" rfl (Nat.le_of_ble_eq_true rfl) ?_
  intro p9 e9 s m9 below meth c9 ls C hin hP hS hl
  have hx := C.hx
  have hb := C.hb
  have hH := hP
  have hl : lv_has ls 5 [(0, .ref (al (2, p, 0))), (1, .int x), (2, .int bit), (3, .int hh)] := hl
  obtain ⟨post, hpost⟩ : ∃ zz9 : Option Value → Heap → Prop, zz9 = (fun r H => r = some (.int (ob (anyB (fun f => !decide (rIn (rk f) (rf f) (rt f) hh = nI 2) && anyB (fun b => cov bit b && wre (KF b) (nI 1 <<< (nI f &&& 31)) x) 8) 16))) ∧ xH E base al w H) := ⟨_, rfl⟩
  rw [← hpost]
  generalize hQ : (MQ below (xQ base post) ([.ref (al (2, p, 0)), .int x, .int bit, .int hh] : List Value).toArray s 0 0 (xA base)) = Q
  have hPT0 := hPT
  obtain ⟨h0, h1, h2, h3, h4, h5, h6⟩ := hPT
  refine lv_iconst (v := nI 0) hx hb dX4_wouldFindUnread_0 (by decide +kernel) ?_
  refine lv_istore (lv' := [(4, .int (nI 0)), (0, .ref (al (2, p, 0))), (1, .int x), (2, .int bit), (3, .int hh)]) hx hb dX4_wouldFindUnread_1 hl (by decide) rfl (fun ls hl => ?_)
  have lp3 : ∀ (i : Nat), i ≤ 16 → ∀  (H : Heap) (locs : List Loc) (ls : Array Slot), anyB (fun f => !decide (rIn (rk f) (rf f) (rt f) hh = nI 2) && anyB (fun b => cov bit b && wre (KF b) (nI 1 <<< (nI f &&& 31)) x) 8) i = false → xH E base al w H → va_S (xA base) s.heap H locs → lv_has ls 5 [(4, .int (nI i)), (3, .int hh), (2, .int bit), (1, .int x), (0, .ref (al (2, p, 0)))] → W p9 l e9 ({ frames := 4, cells := 0, slots := 0, locals := 90 } : Room) s m9 ([.ref (al (2, p, 0)), .int x, .int bit, .int hh] : List Value).toArray below meth c9 H locs 0 0 Q (F0 m9 3 ls []) := by
    refine lp_up ?_
    intro i hii ih3  H locs ls hy hH hS hl
    refine lv_iload hx hb dX4_wouldFindUnread_3 (lv_at hl 0 rfl) ?_
    refine lv_aload_n hx hb dX4_wouldFindUnread_5 rfl (lv_at hl 4 rfl) ?_
    refine x_get C hH (ci := 5) (T := TX4) (N := 5) h0 rfl iWX4 2 (by decide) qw_396 rfl rfl dX4_wouldFindUnread_6 ?_
    refine x_alen (v := nI 16) C hH 4 rfl h1 rfl dX4_wouldFindUnread_9 ?_
    refine lv_icmp_ge (tgt := 43) hx hb dX4_wouldFindUnread_10 (by decide) (fun c_1 => ?_) (fun c_1 => ?_)
    · skip
      replace c_1 := (nI_leI (by omega) (by omega)).mp c_1
      refine lv_iconst (v := nI 0) hx hb dX4_wouldFindUnread_43 (by decide +kernel) ?_
      rw [← hQ]
      refine x_reti C rfl hS (Nat.le_of_ble_eq_true rfl) (Nat.le_of_ble_eq_true rfl) dX4_wouldFindUnread_44 ?_
      rw [hpost]
      have e8 : i = 16 := by omega
      subst e8
      exact ⟨by rw [hy]; rfl, hH⟩
    · skip
      replace c_1 := mt (nI_leI (by omega) (by omega)).mpr c_1
      refine lv_aload_n hx hb dX4_wouldFindUnread_13 rfl (lv_at hl 4 rfl) ?_
      refine lv_iload_n hx hb dX4_wouldFindUnread_14 rfl (lv_at hl 1 rfl) ?_
      refine lv_iload hx hb dX4_wouldFindUnread_15 (lv_at hl 0 rfl) ?_
      refine x_callV C hH hS (ci := 5) (t := (2, p, 0)) h0 rfl rfl (c_rightIn l (E := E) (base := base) hPT0 (f := i) (hh := hh) (by omega)) hH kX4_rightIn qw_497 qw_498 qw_517  rfl [] rfl hl.1 (Nat.le_of_ble_eq_true rfl) ⟨Nat.le_of_ble_eq_true rfl, Nat.le_of_ble_eq_true rfl⟩ dX4_wouldFindUnread_17 ⟨Nat.le_of_ble_eq_true rfl, Nat.le_of_ble_eq_true rfl⟩ (fun r_3 H locs hp_2 hS => ?_)
      obtain ⟨rfl, hH⟩ := hp_2
      refine lv_iconst (v := nI 2) hx hb dX4_wouldFindUnread_20 (by decide +kernel) ?_
      refine lv_icmp_eq (tgt := 37) hx hb dX4_wouldFindUnread_21 (by decide) (fun c_4 => ?_) (fun c_4 => ?_)
      · skip
        refine lv_iinc (v := nI (i + 1)) (lv' := [(4, .int (nI (i + 1))), (3, .int hh), (2, .int bit), (1, .int x), (0, .ref (al (2, p, 0)))]) hx hb dX4_wouldFindUnread_37 hl (k := 0) rfl (nI_1 _) (by decide) rfl (fun ls hl => ?_)
        refine lv_goto (tgt := 3) hx hb dX4_wouldFindUnread_40 (by decide) ?_
        exact ih3 (by omega)  _ _ _ (by show (_ || _) = false; rw [hy]; simp [c_4]) hH hS (lv_sub hl [0, 1, 2, 3, 4] rfl)
      · skip
        refine lv_aload_n hx hb dX4_wouldFindUnread_24 rfl (lv_at hl 4 rfl) ?_
        refine lv_iload hx hb dX4_wouldFindUnread_25 (lv_at hl 0 rfl) ?_
        refine lv_iload_n hx hb dX4_wouldFindUnread_27 rfl (lv_at hl 3 rfl) ?_
        refine lv_iload_n hx hb dX4_wouldFindUnread_28 rfl (lv_at hl 2 rfl) ?_
        refine x_callV C hH hS (ci := 5) (t := (2, p, 0)) h0 rfl rfl (c_wouldFind l (E := E) (base := base) hPT0 (x := x) (bit := bit) (f := i) (by omega)) hH kX4_wouldFind qw_520 (ws_p (List.mem_of_getElem? (i := 13) rfl) rfl) qw_518  rfl [] rfl hl.1 (Nat.le_of_ble_eq_true rfl) ⟨Nat.le_of_ble_eq_true rfl, Nat.le_of_ble_eq_true rfl⟩ dX4_wouldFindUnread_29 ⟨Nat.le_of_ble_eq_true rfl, Nat.le_of_ble_eq_true rfl⟩ (fun r_6 H locs hp_5 hS => ?_)
        obtain ⟨rfl, hH⟩ := hp_5
        refine lv_if_eq (tgt := 37) hx hb dX4_wouldFindUnread_32 (by decide) (fun c_7 => ?_) (fun c_7 => ?_)
        · skip
          replace c_7 := ob_0.mp c_7
          refine lv_iinc (v := nI (i + 1)) (lv' := [(4, .int (nI (i + 1))), (3, .int hh), (2, .int bit), (1, .int x), (0, .ref (al (2, p, 0)))]) hx hb dX4_wouldFindUnread_37 hl (k := 0) rfl (nI_1 _) (by decide) rfl (fun ls hl => ?_)
          refine lv_goto (tgt := 3) hx hb dX4_wouldFindUnread_40 (by decide) ?_
          exact ih3 (by omega)  _ _ _ (by show (_ || _) = false; rw [hy]; simp [c_4, c_7]) hH hS (lv_sub hl [0, 1, 2, 3, 4] rfl)
        · skip
          replace c_7 := ob_n.mp c_7
          refine lv_iconst (v := nI 1) hx hb dX4_wouldFindUnread_35 (by decide +kernel) ?_
          rw [← hQ]
          refine x_reti C rfl hS (Nat.le_of_ble_eq_true rfl) (Nat.le_of_ble_eq_true rfl) dX4_wouldFindUnread_36 ?_
          rw [hpost]
          exact ⟨by rw [anyB_t (P := (fun f => !decide (rIn (rk f) (rf f) (rt f) hh = nI 2) && anyB (fun b => cov bit b && wre (KF b) (nI 1 <<< (nI f &&& 31)) x) 8)) (i := i) (by simp [c_4, c_7]) 16 (by omega)]; rfl, hH⟩
  exact lp3 0 (by omega)  _ _ _ rfl hH hS (lv_sub hl [0, 4, 3, 2, 1] rfl)

set_option maxHeartbeats 4000000 in
set_option maxRecDepth 100000 in
theorem c_plearn (l : Launch) {E : xE} {base : Nat} {al : Tg → Nat} {w : Tg → Option va_E} {p : Nat} {bu : Int32} {rk rf rt fr : Nat → Int32} {KF : Nat → Nat → Int32} {KC : Nat → Nat} (hPT : PT E al w p bu rk rf rt fr KF KC) {x bit : Int32} : xMet l yX4_learn cX4_learn 4 none ({ frames := 2, cells := 0, slots := 0, locals := 44 } : Room) E base [.ref (al (2, p, 0)), .int x, .int bit] (fun H => xH E base al w H) (fun r H => r = none ∧ xH E base al (kw E al w p (lK KF bit x 8) (lC KF KC bit x 8)) H) := by
  refine xMet.of (by decide +kernel) "Dataroom$Party" rfl (Nat.le_of_ble_eq_true rfl) ?_
  intro p9 e9 s m9 below meth c9 ls C hin hP hS hl
  have hx := C.hx
  have hb := C.hb
  have hH := hP
  have hl : lv_has ls 4 [(0, .ref (al (2, p, 0))), (1, .int x), (2, .int bit)] := hl
  obtain ⟨post, hpost⟩ : ∃ zz9 : Option Value → Heap → Prop, zz9 = (fun r H => r = none ∧ xH E base al (kw E al w p (lK KF bit x 8) (lC KF KC bit x 8)) H) := ⟨_, rfl⟩
  rw [← hpost]
  generalize hQ : (MQ below (xQ base post) ([.ref (al (2, p, 0)), .int x, .int bit] : List Value).toArray s 0 0 (xA base)) = Q
  have hPT0 := hPT
  obtain ⟨h0, h1, h2, h3, h4, h5, h6⟩ := hPT
  refine lv_iconst (v := nI 0) hx hb dX4_learn_0 (by decide +kernel) ?_
  refine lv_istore_n (lv' := [(3, .int (nI 0)), (0, .ref (al (2, p, 0))), (1, .int x), (2, .int bit)]) hx hb dX4_learn_1 rfl hl (by decide) rfl (fun ls hl => ?_)
  have lp2 : ∀ (i : Nat), i ≤ 8 → ∀  (H : Heap) (locs : List Loc) (ls : Array Slot), xH E base al (kw E al w p (lK KF bit x i) (lC KF KC bit x i)) H → va_S (xA base) s.heap H locs → lv_has ls 4 [(3, .int (nI i)), (2, .int bit), (1, .int x), (0, .ref (al (2, p, 0)))] → W p9 l e9 ({ frames := 2, cells := 0, slots := 0, locals := 44 } : Room) s m9 ([.ref (al (2, p, 0)), .int x, .int bit] : List Value).toArray below meth c9 H locs 0 0 Q (F0 m9 2 ls []) := by
    refine lp_up ?_
    intro i hii ih2  H locs ls hH hS hl
    obtain ⟨g0, g1, g2, g3, g4, g5, g6⟩ := kw_PT hPT0 (lK KF bit x i) (lC KF KC bit x i)
    refine lv_iload_n hx hb dX4_learn_2 rfl (lv_at hl 0 rfl) ?_
    refine lv_aload_n hx hb dX4_learn_3 rfl (lv_at hl 3 rfl) ?_
    refine x_get C hH (ci := 5) (T := TX4) (N := 5) g0 rfl iWX4 3 (by decide) qw_397 rfl rfl dX4_learn_4 ?_
    refine x_alen (v := nI 8) C hH 3 rfl g2 rfl dX4_learn_7 ?_
    refine lv_icmp_ge (tgt := 35) hx hb dX4_learn_8 (by decide) (fun c_1 => ?_) (fun c_1 => ?_)
    · skip
      replace c_1 := (nI_leI (by omega) (by omega)).mp c_1
      rw [← hQ]
      refine x_retv C hS (Nat.le_of_ble_eq_true rfl) (Nat.le_of_ble_eq_true rfl) dX4_learn_35 ?_
      rw [hpost]
      have e8 : i = 8 := by omega
      subst e8
      exact ⟨rfl, hH⟩
    · skip
      replace c_1 := mt (nI_leI (by omega) (by omega)).mpr c_1
      refine lv_iload_n hx hb dX4_learn_11 rfl (lv_at hl 1 rfl) ?_
      refine lv_iload_n hx hb dX4_learn_12 rfl (lv_at hl 0 rfl) ?_
      refine x_callSN C hS (c_covers l (E := E) (base := base) (al := al) (w := (kw E al w p (lK KF bit x i) (lC KF KC bit x i))) (x := bit) (k := i)) hH kX6_covers qw_366 nw_365  rfl [] rfl hl.1 (Nat.le_of_ble_eq_true rfl) ⟨Nat.le_of_ble_eq_true rfl, Nat.le_of_ble_eq_true rfl⟩ dX4_learn_13 ⟨Nat.le_of_ble_eq_true rfl, Nat.le_of_ble_eq_true rfl⟩ (fun r_3 H locs hp_2 hS => ?_)
      obtain ⟨rfl, hH⟩ := hp_2
      refine lv_if_eq (tgt := 29) hx hb dX4_learn_16 (by decide) (fun c_4 => ?_) (fun c_4 => ?_)
      · skip
        replace c_4 := ob_0.mp c_4
        refine lv_iinc (v := nI (i + 1)) (lv' := [(3, .int (nI (i + 1))), (2, .int bit), (1, .int x), (0, .ref (al (2, p, 0)))]) hx hb dX4_learn_29 hl (k := 0) rfl (nI_1 _) (by decide) rfl (fun ls hl => ?_)
        refine lv_goto (tgt := 2) hx hb dX4_learn_32 (by decide) ?_
        exact ih2 (by omega)  _ _ _  (by rw [lK_n c_4, lC_n c_4] at hH; exact hH) hS (lv_sub hl [0, 1, 2, 3] rfl)
      · skip
        replace c_4 := ob_n.mp c_4
        refine lv_aload_n hx hb dX4_learn_19 rfl (lv_at hl 3 rfl) ?_
        refine x_get C hH (ci := 5) (T := TX4) (N := 5) g0 rfl iWX4 3 (by decide) qw_397 rfl rfl dX4_learn_20 ?_
        refine lv_iload_n hx hb dX4_learn_23 rfl (lv_at hl 0 rfl) ?_
        refine x_aldq C hH 3 rfl g2 (j := i) rfl (by omega) (by omega) (v := .ref (al (4, p, i))) (rfl) dX4_learn_24 ?_
        refine lv_iload_n hx hb dX4_learn_25 rfl (lv_at hl 2 rfl) ?_
        refine x_callV C hH hS (ci := 3) (t := (4, p, i)) (g5 i (by omega)) rfl rfl (c_learn l (E := E) (base := base) (x := x) (g5 i (by omega)) (g6 i (by omega))) hH kX2_learn qw_369 qw_370 qw_368  rfl [] rfl hl.1 (Nat.le_of_ble_eq_true rfl) ⟨Nat.le_of_ble_eq_true rfl, Nat.le_of_ble_eq_true rfl⟩ dX4_learn_26 ⟨Nat.le_of_ble_eq_true rfl, Nat.le_of_ble_eq_true rfl⟩ (fun r_6 H locs hp_5 hS => ?_)
        obtain ⟨rfl, hH⟩ := hp_5
        rw [nI_add, kw_step (by omega), lK_s c_4, lC_s c_4] at hH
        refine lv_iinc (v := nI (i + 1)) (lv' := [(3, .int (nI (i + 1))), (2, .int bit), (1, .int x), (0, .ref (al (2, p, 0)))]) hx hb dX4_learn_29 hl (k := 0) rfl (nI_1 _) (by decide) rfl (fun ls hl => ?_)
        refine lv_goto (tgt := 2) hx hb dX4_learn_32 (by decide) ?_
        exact ih2 (by omega)  _ _ _  hH hS (lv_sub hl [0, 1, 2, 3] rfl)
  exact lp2 0 (by omega)  _ _ _  (by rw [lK_0, lC_0, kw_self hPT0]; exact hH) hS (lv_sub hl [0, 3, 2, 1] rfl)

set_option maxHeartbeats 4000000 in
set_option maxRecDepth 100000 in
theorem c_pforget (l : Launch) {E : xE} {base : Nat} {al : Tg → Nat} {w : Tg → Option va_E} {p : Nat} {bu : Int32} {rk rf rt fr : Nat → Int32} {KF : Nat → Nat → Int32} {KC : Nat → Nat} (hPT : PT E al w p bu rk rf rt fr KF KC)  : xMet l yX4_forget cX4_forget 2 none ({ frames := 1, cells := 0, slots := 0, locals := 21 } : Room) E base [.ref (al (2, p, 0))] (fun H => xH E base al w H) (fun r H => r = none ∧ xH E base al (kw E al w p (gK KF 8) (gC KC 8)) H) := by
  refine xMet.of (by decide +kernel) "Dataroom$Party" rfl (Nat.le_of_ble_eq_true rfl) ?_
  intro p9 e9 s m9 below meth c9 ls C hin hP hS hl
  have hx := C.hx
  have hb := C.hb
  have hH := hP
  have hl : lv_has ls 2 [(0, .ref (al (2, p, 0)))] := hl
  obtain ⟨post, hpost⟩ : ∃ zz9 : Option Value → Heap → Prop, zz9 = (fun r H => r = none ∧ xH E base al (kw E al w p (gK KF 8) (gC KC 8)) H) := ⟨_, rfl⟩
  rw [← hpost]
  generalize hQ : (MQ below (xQ base post) ([.ref (al (2, p, 0))] : List Value).toArray s 0 0 (xA base)) = Q
  have hPT0 := hPT
  obtain ⟨h0, h1, h2, h3, h4, h5, h6⟩ := hPT
  refine lv_iconst (v := nI 0) hx hb dX4_forget_0 (by decide +kernel) ?_
  refine lv_istore_n (lv' := [(1, .int (nI 0)), (0, .ref (al (2, p, 0)))]) hx hb dX4_forget_1 rfl hl (by decide) rfl (fun ls hl => ?_)
  have lp2 : ∀ (i : Nat), i ≤ 8 → ∀  (H : Heap) (locs : List Loc) (ls : Array Slot), xH E base al (kw E al w p (gK KF i) (gC KC i)) H → va_S (xA base) s.heap H locs → lv_has ls 2 [(1, .int (nI i)), (0, .ref (al (2, p, 0)))] → W p9 l e9 ({ frames := 1, cells := 0, slots := 0, locals := 21 } : Room) s m9 ([.ref (al (2, p, 0))] : List Value).toArray below meth c9 H locs 0 0 Q (F0 m9 2 ls []) := by
    refine lp_up ?_
    intro i hii ih2  H locs ls hH hS hl
    obtain ⟨g0, g1, g2, g3, g4, g5, g6⟩ := kw_PT hPT0 (gK KF i) (gC KC i)
    refine lv_iload_n hx hb dX4_forget_2 rfl (lv_at hl 0 rfl) ?_
    refine lv_aload_n hx hb dX4_forget_3 rfl (lv_at hl 1 rfl) ?_
    refine x_get C hH (ci := 5) (T := TX4) (N := 5) g0 rfl iWX4 3 (by decide) qw_397 rfl rfl dX4_forget_4 ?_
    refine x_alen (v := nI 8) C hH 3 rfl g2 rfl dX4_forget_7 ?_
    refine lv_icmp_ge (tgt := 26) hx hb dX4_forget_8 (by decide) (fun c_1 => ?_) (fun c_1 => ?_)
    · skip
      replace c_1 := (nI_leI (by omega) (by omega)).mp c_1
      rw [← hQ]
      refine x_retv C hS (Nat.le_of_ble_eq_true rfl) (Nat.le_of_ble_eq_true rfl) dX4_forget_26 ?_
      rw [hpost]
      have e8 : i = 8 := by omega
      subst e8
      exact ⟨rfl, hH⟩
    · skip
      replace c_1 := mt (nI_leI (by omega) (by omega)).mpr c_1
      refine lv_aload_n hx hb dX4_forget_11 rfl (lv_at hl 1 rfl) ?_
      refine x_get C hH (ci := 5) (T := TX4) (N := 5) g0 rfl iWX4 3 (by decide) qw_397 rfl rfl dX4_forget_12 ?_
      refine lv_iload_n hx hb dX4_forget_15 rfl (lv_at hl 0 rfl) ?_
      refine x_aldq C hH 3 rfl g2 (j := i) rfl (by omega) (by omega) (v := .ref (al (4, p, i))) (rfl) dX4_forget_16 ?_
      refine x_callV C hH hS (ci := 3) (t := (4, p, i)) (g5 i (by omega)) rfl rfl (c_forget l (E := E) (base := base) (g5 i (by omega)) (g6 i (by omega))) hH kX2_forget qw_358 qw_359 qw_357  rfl [] rfl hl.1 (Nat.le_of_ble_eq_true rfl) ⟨Nat.le_of_ble_eq_true rfl, Nat.le_of_ble_eq_true rfl⟩ dX4_forget_17 ⟨Nat.le_of_ble_eq_true rfl, Nat.le_of_ble_eq_true rfl⟩ (fun r_3 H locs hp_2 hS => ?_)
      obtain ⟨rfl, hH⟩ := hp_2
      replace hH := x_forg hH
      rw [kw_step (by omega), gK_s, gC_s] at hH
      refine lv_iinc (v := nI (i + 1)) (lv' := [(1, .int (nI (i + 1))), (0, .ref (al (2, p, 0)))]) hx hb dX4_forget_20 hl (k := 0) rfl (nI_1 _) (by decide) rfl (fun ls hl => ?_)
      refine lv_goto (tgt := 2) hx hb dX4_forget_23 (by decide) ?_
      exact ih2 (by omega)  _ _ _  hH hS (lv_sub hl [0, 1] rfl)
  exact lp2 0 (by omega)  _ _ _  (by rw [gK_0, gC_0, kw_self hPT0]; exact hH) hS (lv_sub hl [0, 1] rfl)
