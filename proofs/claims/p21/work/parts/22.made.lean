set_option maxHeartbeats 4000000 in
set_option maxRecDepth 100000 in
theorem c_Card (l : Launch) {E : xE} {base : Nat} {al : Tg → Nat} {w : Tg → Option va_E} {t : Tg} {a : Int32} {b : Int32} {x : Int32} (ht : w t = some (.inr (2, [.int a, .int b]))) : xMet l yX1_init cX1_init 2 none ({ frames := 1, cells := 0, slots := 0, locals := 12 } : Room) E base [.ref (al t), .int x] (fun H => xH E base al w H) (fun r H => r = none ∧ xH E base al (xu w t (.inr (2, [.int x, .int (-1)]))) H) := by
  refine xMet.of (by decide +kernel) "Dataroom$Card" rfl (Nat.le_of_ble_eq_true rfl) ?_
  intro p9 e9 s m9 below meth c9 ls C hin hP hS hl
  have hx := C.hx
  have hb := C.hb
  have hH := hP
  have hl : lv_has ls 2 [(0, .ref (al t)), (1, .int x)] := hl
  obtain ⟨post, hpost⟩ : ∃ zz9 : Option Value → Heap → Prop, zz9 = (fun r H => r = none ∧ xH E base al (xu w t (.inr (2, [.int x, .int (-1)]))) H) := ⟨_, rfl⟩
  rw [← hpost]
  generalize hQ : (MQ below (xQ base post) ([.ref (al t), .int x] : List Value).toArray s 0 0 (xA base)) = Q
  refine lv_aload_n hx hb dX1_init_0 rfl (lv_at hl 0 rfl) ?_
  refine x_init C qw_221 qw_30 qw_31 hl.1 dX1_init_1 (Nat.le_of_ble_eq_true rfl) (Nat.le_of_ble_eq_true rfl) ?_
  refine lv_aload_n hx hb dX1_init_4 rfl (lv_at hl 0 rfl) ?_
  refine lv_iconst (v := (-1)) hx hb dX1_init_5 (by decide +kernel) ?_
  refine x_put C hH hS (ci := 2) (T := TX1) (N := 2) (fs' := [.int a, .int (-1)]) ht rfl iWX1 tyX1 tyX1_ok nmX1 1 (by decide) qw_224 rfl rfl rfl rfl (Nat.le_of_ble_eq_true rfl) rfl dX1_init_6 (fun H locs hH hS => ?_)
  have ht : (xu w t (.inr (2, [.int a, .int (-1)]))) t = some (.inr (2, [.int a, .int (-1)])) := xu_self _ _ _
  refine lv_aload_n hx hb dX1_init_9 rfl (lv_at hl 0 rfl) ?_
  refine lv_iload_n hx hb dX1_init_10 rfl (lv_at hl 1 rfl) ?_
  refine x_put C hH hS (ci := 2) (T := TX1) (N := 2) (fs' := [.int x, .int (-1)]) ht rfl iWX1 tyX1 tyX1_ok nmX1 0 (by decide) qw_222 rfl rfl rfl rfl (Nat.le_of_ble_eq_true rfl) rfl dX1_init_11 (fun H locs hH hS => ?_)
  have ht : (xu (xu w t (.inr (2, [.int a, .int (-1)]))) t (.inr (2, [.int x, .int (-1)]))) t = some (.inr (2, [.int x, .int (-1)])) := xu_self _ _ _
  rw [← hQ]
  refine x_retv C hS (Nat.le_of_ble_eq_true rfl) (Nat.le_of_ble_eq_true rfl) dX1_init_14 ?_
  rw [hpost]
  exact ⟨rfl, by simpa only [xu_uu] using hH⟩

set_option maxHeartbeats 4000000 in
set_option maxRecDepth 100000 in
theorem c_Right (l : Launch) {E : xE} {base : Nat} {al : Tg → Nat} {w : Tg → Option va_E} {t : Tg} {a : Int32} {b : Int32} {c : Int32} {x : Int32} {y : Int32} {z : Int32} (ht : w t = some (.inr (6, [.int a, .int b, .int c]))) : xMet l yX5_init cX5_init 4 none ({ frames := 1, cells := 0, slots := 0, locals := 12 } : Room) E base [.ref (al t), .int x, .int y, .int z] (fun H => xH E base al w H) (fun r H => r = none ∧ xH E base al (xu w t (.inr (6, [.int x, .int y, .int z]))) H) := by
  refine xMet.of (by decide +kernel) "Dataroom$Right" rfl (Nat.le_of_ble_eq_true rfl) ?_
  intro p9 e9 s m9 below meth c9 ls C hin hP hS hl
  have hx := C.hx
  have hb := C.hb
  have hH := hP
  have hl : lv_has ls 4 [(0, .ref (al t)), (1, .int x), (2, .int y), (3, .int z)] := hl
  obtain ⟨post, hpost⟩ : ∃ zz9 : Option Value → Heap → Prop, zz9 = (fun r H => r = none ∧ xH E base al (xu w t (.inr (6, [.int x, .int y, .int z]))) H) := ⟨_, rfl⟩
  rw [← hpost]
  generalize hQ : (MQ below (xQ base post) ([.ref (al t), .int x, .int y, .int z] : List Value).toArray s 0 0 (xA base)) = Q
  refine lv_aload_n hx hb dX5_init_0 rfl (lv_at hl 0 rfl) ?_
  refine x_init C qw_435 qw_30 qw_31 hl.1 dX5_init_1 (Nat.le_of_ble_eq_true rfl) (Nat.le_of_ble_eq_true rfl) ?_
  refine lv_aload_n hx hb dX5_init_4 rfl (lv_at hl 0 rfl) ?_
  refine lv_iload_n hx hb dX5_init_5 rfl (lv_at hl 1 rfl) ?_
  refine x_putF C hH hS (ci := 6) (T := TX5) (N := 3) (fs' := [.int x, .int b, .int c]) ht rfl iWX5 tyX5 tyX5_ok nmX5 0 (by decide) qw_436 rfl rfl hin rfl rfl rfl (Nat.le_of_ble_eq_true rfl) rfl dX5_init_6 (fun H locs hH hS => ?_)
  have ht : (xu w t (.inr (6, [.int x, .int b, .int c]))) t = some (.inr (6, [.int x, .int b, .int c])) := xu_self _ _ _
  refine lv_aload_n hx hb dX5_init_9 rfl (lv_at hl 0 rfl) ?_
  refine lv_iload_n hx hb dX5_init_10 rfl (lv_at hl 2 rfl) ?_
  refine x_putF C hH hS (ci := 6) (T := TX5) (N := 3) (fs' := [.int x, .int y, .int c]) ht rfl iWX5 tyX5 tyX5_ok nmX5 1 (by decide) qw_437 rfl rfl hin rfl rfl rfl (Nat.le_of_ble_eq_true rfl) rfl dX5_init_11 (fun H locs hH hS => ?_)
  have ht : (xu (xu w t (.inr (6, [.int x, .int b, .int c]))) t (.inr (6, [.int x, .int y, .int c]))) t = some (.inr (6, [.int x, .int y, .int c])) := xu_self _ _ _
  refine lv_aload_n hx hb dX5_init_14 rfl (lv_at hl 0 rfl) ?_
  refine lv_iload_n hx hb dX5_init_15 rfl (lv_at hl 3 rfl) ?_
  refine x_putF C hH hS (ci := 6) (T := TX5) (N := 3) (fs' := [.int x, .int y, .int z]) ht rfl iWX5 tyX5 tyX5_ok nmX5 2 (by decide) qw_438 rfl rfl hin rfl rfl rfl (Nat.le_of_ble_eq_true rfl) rfl dX5_init_16 (fun H locs hH hS => ?_)
  have ht : (xu (xu (xu w t (.inr (6, [.int x, .int b, .int c]))) t (.inr (6, [.int x, .int y, .int c]))) t (.inr (6, [.int x, .int y, .int z]))) t = some (.inr (6, [.int x, .int y, .int z])) := xu_self _ _ _
  rw [← hQ]
  refine x_retv C hS (Nat.le_of_ble_eq_true rfl) (Nat.le_of_ble_eq_true rfl) dX5_init_19 ?_
  rw [hpost]
  exact ⟨rfl, by simpa only [xu_uu] using hH⟩

set_option maxHeartbeats 4000000 in
set_option maxRecDepth 100000 in
theorem c_Answer (l : Launch) {E : xE} {base : Nat} {al : Tg → Nat} {w : Tg → Option va_E} {t : Tg} {a : Int32} {b : Int32} {c : Int32} {d : Int32} {f : Int32} {g : Int32} {x : Int32} {y : Int32} {z : Int32} {u : Int32} {v : Int32} (ht : w t = some (.inr (1, [.int a, .int b, .int c, .int d, .int f, .int g]))) : xMet l yX0_init cX0_init 6 none ({ frames := 1, cells := 0, slots := 0, locals := 12 } : Room) E base [.ref (al t), .int x, .int y, .int z, .int u, .int v] (fun H => xH E base al w H) (fun r H => r = none ∧ xH E base al (xu w t (.inr (1, [.int x, .int y, .int z, .int u, .int v, .int g]))) H) := by
  refine xMet.of (by decide +kernel) "Dataroom$Answer" rfl (Nat.le_of_ble_eq_true rfl) ?_
  intro p9 e9 s m9 below meth c9 ls C hin hP hS hl
  have hx := C.hx
  have hb := C.hb
  have hH := hP
  have hl : lv_has ls 6 [(0, .ref (al t)), (1, .int x), (2, .int y), (3, .int z), (4, .int u), (5, .int v)] := hl
  obtain ⟨post, hpost⟩ : ∃ zz9 : Option Value → Heap → Prop, zz9 = (fun r H => r = none ∧ xH E base al (xu w t (.inr (1, [.int x, .int y, .int z, .int u, .int v, .int g]))) H) := ⟨_, rfl⟩
  rw [← hpost]
  generalize hQ : (MQ below (xQ base post) ([.ref (al t), .int x, .int y, .int z, .int u, .int v] : List Value).toArray s 0 0 (xA base)) = Q
  refine lv_aload_n hx hb dX0_init_0 rfl (lv_at hl 0 rfl) ?_
  refine x_init C qw_551 qw_30 qw_31 hl.1 dX0_init_1 (Nat.le_of_ble_eq_true rfl) (Nat.le_of_ble_eq_true rfl) ?_
  refine lv_aload_n hx hb dX0_init_4 rfl (lv_at hl 0 rfl) ?_
  refine lv_iload_n hx hb dX0_init_5 rfl (lv_at hl 1 rfl) ?_
  refine x_putF C hH hS (ci := 1) (T := TX0) (N := 6) (fs' := [.int x, .int b, .int c, .int d, .int f, .int g]) ht rfl iWX0 tyX0 tyX0_ok nmX0 0 (by decide) qw_552 rfl rfl hin rfl rfl rfl (Nat.le_of_ble_eq_true rfl) rfl dX0_init_6 (fun H locs hH hS => ?_)
  have ht : (xu w t (.inr (1, [.int x, .int b, .int c, .int d, .int f, .int g]))) t = some (.inr (1, [.int x, .int b, .int c, .int d, .int f, .int g])) := xu_self _ _ _
  refine lv_aload_n hx hb dX0_init_9 rfl (lv_at hl 0 rfl) ?_
  refine lv_iload_n hx hb dX0_init_10 rfl (lv_at hl 2 rfl) ?_
  refine x_putF C hH hS (ci := 1) (T := TX0) (N := 6) (fs' := [.int x, .int y, .int c, .int d, .int f, .int g]) ht rfl iWX0 tyX0 tyX0_ok nmX0 1 (by decide) qw_553 rfl rfl hin rfl rfl rfl (Nat.le_of_ble_eq_true rfl) rfl dX0_init_11 (fun H locs hH hS => ?_)
  have ht : (xu (xu w t (.inr (1, [.int x, .int b, .int c, .int d, .int f, .int g]))) t (.inr (1, [.int x, .int y, .int c, .int d, .int f, .int g]))) t = some (.inr (1, [.int x, .int y, .int c, .int d, .int f, .int g])) := xu_self _ _ _
  refine lv_aload_n hx hb dX0_init_14 rfl (lv_at hl 0 rfl) ?_
  refine lv_iload_n hx hb dX0_init_15 rfl (lv_at hl 3 rfl) ?_
  refine x_putF C hH hS (ci := 1) (T := TX0) (N := 6) (fs' := [.int x, .int y, .int z, .int d, .int f, .int g]) ht rfl iWX0 tyX0 tyX0_ok nmX0 2 (by decide) qw_555 rfl rfl hin rfl rfl rfl (Nat.le_of_ble_eq_true rfl) rfl dX0_init_16 (fun H locs hH hS => ?_)
  have ht : (xu (xu (xu w t (.inr (1, [.int x, .int b, .int c, .int d, .int f, .int g]))) t (.inr (1, [.int x, .int y, .int c, .int d, .int f, .int g]))) t (.inr (1, [.int x, .int y, .int z, .int d, .int f, .int g]))) t = some (.inr (1, [.int x, .int y, .int z, .int d, .int f, .int g])) := xu_self _ _ _
  refine lv_aload_n hx hb dX0_init_19 rfl (lv_at hl 0 rfl) ?_
  refine lv_iload hx hb dX0_init_20 (lv_at hl 4 rfl) ?_
  refine x_putF C hH hS (ci := 1) (T := TX0) (N := 6) (fs' := [.int x, .int y, .int z, .int u, .int f, .int g]) ht rfl iWX0 tyX0 tyX0_ok nmX0 3 (by decide) qw_557 rfl rfl hin rfl rfl rfl (Nat.le_of_ble_eq_true rfl) rfl dX0_init_22 (fun H locs hH hS => ?_)
  have ht : (xu (xu (xu (xu w t (.inr (1, [.int x, .int b, .int c, .int d, .int f, .int g]))) t (.inr (1, [.int x, .int y, .int c, .int d, .int f, .int g]))) t (.inr (1, [.int x, .int y, .int z, .int d, .int f, .int g]))) t (.inr (1, [.int x, .int y, .int z, .int u, .int f, .int g]))) t = some (.inr (1, [.int x, .int y, .int z, .int u, .int f, .int g])) := xu_self _ _ _
  refine lv_aload_n hx hb dX0_init_25 rfl (lv_at hl 0 rfl) ?_
  refine lv_iload hx hb dX0_init_26 (lv_at hl 5 rfl) ?_
  refine x_putF C hH hS (ci := 1) (T := TX0) (N := 6) (fs' := [.int x, .int y, .int z, .int u, .int v, .int g]) ht rfl iWX0 tyX0 tyX0_ok nmX0 4 (by decide) qw_558 rfl rfl hin rfl rfl rfl (Nat.le_of_ble_eq_true rfl) rfl dX0_init_28 (fun H locs hH hS => ?_)
  have ht : (xu (xu (xu (xu (xu w t (.inr (1, [.int x, .int b, .int c, .int d, .int f, .int g]))) t (.inr (1, [.int x, .int y, .int c, .int d, .int f, .int g]))) t (.inr (1, [.int x, .int y, .int z, .int d, .int f, .int g]))) t (.inr (1, [.int x, .int y, .int z, .int u, .int f, .int g]))) t (.inr (1, [.int x, .int y, .int z, .int u, .int v, .int g]))) t = some (.inr (1, [.int x, .int y, .int z, .int u, .int v, .int g])) := xu_self _ _ _
  rw [← hQ]
  refine x_retv C hS (Nat.le_of_ble_eq_true rfl) (Nat.le_of_ble_eq_true rfl) dX0_init_31 ?_
  rw [hpost]
  exact ⟨rfl, by simpa only [xu_uu] using hH⟩

set_option maxHeartbeats 4000000 in
set_option maxRecDepth 100000 in
theorem c_Knowledge (l : Launch) {E : xE} {base : Nat} {al : Tg → Nat} {w : Tg → Option va_E} {t tr : Tg} {n : Int32} (hne : t ≠ tr) (ht : w t = some (.inr (3, [.null, .int n]))) : xMet l yX2_init cX2_init 1 none ({ frames := 1, cells := 1, slots := 16, locals := 12 } : Room) E base [.ref (al t)] (fun H => xH E base al w H) (fun r H => r = none ∧ ∃ q : Nat, xH E base (xa al tr q) (xu (xu w tr (.inl (E.2.1 0, 16, .inl (fun _ => 0)))) t (.inr (3, [.ref q, .int n]))) H) := by
  refine xMet.of (by decide +kernel) "Dataroom$Knowledge" rfl (Nat.le_of_ble_eq_true rfl) ?_
  intro p9 e9 s m9 below meth c9 ls C hin hP hS hl
  have hx := C.hx
  have hb := C.hb
  have hH := hP
  have hl : lv_has ls 1 [(0, .ref (al t))] := hl
  obtain ⟨post, hpost⟩ : ∃ zz9 : Option Value → Heap → Prop, zz9 = (fun r H => r = none ∧ ∃ q : Nat, xH E base (xa al tr q) (xu (xu w tr (.inl (E.2.1 0, 16, .inl (fun _ => 0)))) t (.inr (3, [.ref q, .int n]))) H) := ⟨_, rfl⟩
  rw [← hpost]
  generalize hQ : (MQ below (xQ base post) ([.ref (al t)] : List Value).toArray s 1 16 (xA base)) = Q
  refine lv_aload_n hx hb dX2_init_0 rfl (lv_at hl 0 rfl) ?_
  refine x_init C qw_63 qw_30 qw_31 hl.1 dX2_init_1 (Nat.le_of_ble_eq_true rfl) (Nat.le_of_ble_eq_true rfl) ?_
  refine lv_aload_n hx hb dX2_init_4 rfl (lv_at hl 0 rfl) ?_
  refine lv_bipush (v := nI 16) hx hb dX2_init_5 (by decide +kernel) ?_
  refine x_newa C hH hS tr 0 (atype := .int) qw_72 rfl rfl (fun _ h => by cases h) (a0 := (16, .inl (fun _ => 0))) (fun cA => rfl) rfl (by omega) (by decide) (by decide) (by decide) dX2_init_7 (fun G1_ hH hS => ?_)
  obtain ⟨q_1, hq_1⟩ : ∃ zz9 : Nat, zz9 = xa al tr s.heap.size tr := ⟨_, rfl⟩
  obtain ⟨alq_1, halq_1⟩ : ∃ zz9 : Tg → Nat, zz9 = xa al tr s.heap.size := ⟨_, rfl⟩
  rw [← halq_1] at hH
  rw [← hq_1]
  have ad_2 : alq_1 t = al t := by rw [halq_1, xa_ne hne]
  have ht := xu_of (t := tr) (e := .inl (E.2.1 0, 16, .inl (fun _ => 0))) hne ht
  have ad_4 : alq_1 tr = q_1 := by rw [halq_1, hq_1]
  have hn_3 : (xu w tr (.inl (E.2.1 0, 16, .inl (fun _ => 0)))) tr = some (.inl (E.2.1 0, 16, .inl (fun _ => 0))) := xu_self _ _ _
  refine lv_adr2 (ad_2).symm ?_
  refine x_putF C hH hS (ci := 3) (T := TX2) (N := 2) (fs' := [.ref q_1, .int n]) ht rfl iWX2 tyX2 tyX2_ok nmX2 0 (by decide) qw_64 rfl rfl hin rfl rfl rfl (Nat.le_of_ble_eq_true rfl) rfl dX2_init_9 (fun H locs hH hS => ?_)
  have hn_3 := xu_of (t := t) (e := .inr (3, [.ref q_1, .int n])) (Ne.symm hne) hn_3
  have ht : (xu (xu w tr (.inl (E.2.1 0, 16, .inl (fun _ => 0)))) t (.inr (3, [.ref q_1, .int n]))) t = some (.inr (3, [.ref q_1, .int n])) := xu_self _ _ _
  rw [← hQ]
  refine x_retv C hS (Nat.le_of_ble_eq_true rfl) (Nat.le_of_ble_eq_true rfl) dX2_init_12 ?_
  rw [hpost]
  have hq9 : s.heap.size = q_1 := by rw [hq_1, xa_self]
  rw [halq_1, hq9] at hH
  exact ⟨rfl, q_1, hH⟩

set_option maxHeartbeats 4000000 in
set_option maxRecDepth 100000 in
theorem c_AbsC (l : Launch) {E : xE} {base : Nat} {al : Tg → Nat} {w : Tg → Option va_E} {t : Tg} {a b : Int32} (ht : w t = some (.inr (0, [.int a, .null, .int b]))) : xMet l yJxa1e45_init_da8c8 cJxa1e45_init_da8c8 1 none ({ frames := 1, cells := 0, slots := 0, locals := 12 } : Room) E base [.ref (al t)] (fun H => xH E base al w H) (fun r H => r = none ∧ xH E base al w H) := by
  refine xMet.of (by decide +kernel) "java/util/AbstractCollection" rfl (Nat.le_of_ble_eq_true rfl) ?_
  intro p9 e9 s m9 below meth c9 ls C hin hP hS hl
  have hx := C.hx
  have hb := C.hb
  have hH := hP
  have hl : lv_has ls 1 [(0, .ref (al t))] := hl
  obtain ⟨post, hpost⟩ : ∃ zz9 : Option Value → Heap → Prop, zz9 = (fun r H => r = none ∧ xH E base al w H) := ⟨_, rfl⟩
  rw [← hpost]
  generalize hQ : (MQ below (xQ base post) ([.ref (al t)] : List Value).toArray s 0 0 (xA base)) = Q
  refine lv_aload_n hx hb dJxa1e45_init_da8c8_0 rfl (lv_at hl 0 rfl) ?_
  refine x_init C qw_43 qw_30 qw_31 hl.1 dJxa1e45_init_da8c8_1 (Nat.le_of_ble_eq_true rfl) (Nat.le_of_ble_eq_true rfl) ?_
  rw [← hQ]
  refine x_retv C hS (Nat.le_of_ble_eq_true rfl) (Nat.le_of_ble_eq_true rfl) dJxa1e45_init_da8c8_4 ?_
  rw [hpost]
  exact ⟨rfl, hH⟩

set_option maxHeartbeats 4000000 in
set_option maxRecDepth 100000 in
theorem c_AbsL (l : Launch) {E : xE} {base : Nat} {al : Tg → Nat} {w : Tg → Option va_E} {t : Tg} {a b : Int32} (ht : w t = some (.inr (0, [.int a, .null, .int b]))) : xMet l yJxc12de_init_da8c8 cJxc12de_init_da8c8 1 none ({ frames := 2, cells := 0, slots := 0, locals := 32 } : Room) E base [.ref (al t)] (fun H => xH E base al w H) (fun r H => r = none ∧ xH E base al (xu w t (.inr (0, [.int (nI 0), .null, .int b]))) H) := by
  refine xMet.of (by decide +kernel) "java/util/AbstractList" rfl (Nat.le_of_ble_eq_true rfl) ?_
  intro p9 e9 s m9 below meth c9 ls C hin hP hS hl
  have hx := C.hx
  have hb := C.hb
  have hH := hP
  have hl : lv_has ls 1 [(0, .ref (al t))] := hl
  obtain ⟨post, hpost⟩ : ∃ zz9 : Option Value → Heap → Prop, zz9 = (fun r H => r = none ∧ xH E base al (xu w t (.inr (0, [.int (nI 0), .null, .int b]))) H) := ⟨_, rfl⟩
  rw [← hpost]
  generalize hQ : (MQ below (xQ base post) ([.ref (al t)] : List Value).toArray s 0 0 (xA base)) = Q
  refine lv_aload_n hx hb dJxc12de_init_da8c8_0 rfl (lv_at hl 0 rfl) ?_
  refine x_callI C hS (c_AbsC l (E := E) (base := base) ht) hH kJxa1e45_init_da8c8 qw_41 rfl qw_40  rfl [] rfl hl.1 (Nat.le_of_ble_eq_true rfl) ⟨Nat.le_of_ble_eq_true rfl, Nat.le_of_ble_eq_true rfl⟩ dJxc12de_init_da8c8_1 ⟨Nat.le_of_ble_eq_true rfl, Nat.le_of_ble_eq_true rfl⟩ (fun r_2 H locs hp_1 hS => ?_)
  obtain ⟨rfl, hH⟩ := hp_1
  refine lv_aload_n hx hb dJxc12de_init_da8c8_4 rfl (lv_at hl 0 rfl) ?_
  refine lv_iconst (v := nI 0) hx hb dJxc12de_init_da8c8_5 (by decide +kernel) ?_
  refine x_put C hH hS (ci := 0) (T := TJx4a65c) (N := 3) (fs' := [.int (nI 0), .null, .int b]) ht rfl iWJx4a65c tyJx4a65c tyJx4a65c_ok nmJx4a65c 0 (by decide) qw_48 rfl rfl rfl rfl (Nat.le_of_ble_eq_true rfl) rfl dJxc12de_init_da8c8_6 (fun H locs hH hS => ?_)
  have ht : (xu w t (.inr (0, [.int (nI 0), .null, .int b]))) t = some (.inr (0, [.int (nI 0), .null, .int b])) := xu_self _ _ _
  rw [← hQ]
  refine x_retv C hS (Nat.le_of_ble_eq_true rfl) (Nat.le_of_ble_eq_true rfl) dJxc12de_init_da8c8_9 ?_
  rw [hpost]
  exact ⟨rfl, hH⟩

set_option maxHeartbeats 4000000 in
set_option maxRecDepth 100000 in
theorem c_List (l : Launch) {E : xE} {base : Nat} {al : Tg → Nat} {w : Tg → Option va_E} {t : Tg} {a b : Int32} (ht : w t = some (.inr (0, [.int a, .null, .int b]))) : xMet l yJx4a65c_init_da8c8 cJx4a65c_init_da8c8 1 none ({ frames := 3, cells := 0, slots := 0, locals := 52 } : Room) E base [.ref (al t)] (fun H => xH E base al w H) (fun r H => r = none ∧ xH E base al (xu w t (.inr (0, [.int (nI 0), .ref (E.2.2 1), .int b]))) H) := by
  refine xMet.of (by decide +kernel) "java/util/ArrayList" rfl (Nat.le_of_ble_eq_true rfl) ?_
  intro p9 e9 s m9 below meth c9 ls C hin hP hS hl
  have hx := C.hx
  have hb := C.hb
  have hH := hP
  have hl : lv_has ls 1 [(0, .ref (al t))] := hl
  obtain ⟨post, hpost⟩ : ∃ zz9 : Option Value → Heap → Prop, zz9 = (fun r H => r = none ∧ xH E base al (xu w t (.inr (0, [.int (nI 0), .ref (E.2.2 1), .int b]))) H) := ⟨_, rfl⟩
  rw [← hpost]
  generalize hQ : (MQ below (xQ base post) ([.ref (al t)] : List Value).toArray s 0 0 (xA base)) = Q
  refine lv_aload_n hx hb dJx4a65c_init_da8c8_0 rfl (lv_at hl 0 rfl) ?_
  refine x_callI C hS (c_AbsL l (E := E) (base := base) ht) hH kJxc12de_init_da8c8 qw_38 rfl qw_37  rfl [] rfl hl.1 (Nat.le_of_ble_eq_true rfl) ⟨Nat.le_of_ble_eq_true rfl, Nat.le_of_ble_eq_true rfl⟩ dJx4a65c_init_da8c8_1 ⟨Nat.le_of_ble_eq_true rfl, Nat.le_of_ble_eq_true rfl⟩ (fun r_2 H locs hp_1 hS => ?_)
  obtain ⟨rfl, hH⟩ := hp_1
  have ht := xu_self w t (.inr (0, [.int (nI 0), .null, .int b]))
  refine lv_aload_n hx hb dJx4a65c_init_da8c8_4 rfl (lv_at hl 0 rfl) ?_
  refine x_getsE C hS qw_44 dJx4a65c_init_da8c8_5 ?_
  refine x_put C hH hS (ci := 0) (T := TJx4a65c) (N := 3) (fs' := [.int (nI 0), .ref (E.2.2 1), .int b]) ht rfl iWJx4a65c tyJx4a65c tyJx4a65c_ok nmJx4a65c 1 (by decide) qw_46 rfl rfl rfl rfl (Nat.le_of_ble_eq_true rfl) rfl dJx4a65c_init_da8c8_8 (fun H locs hH hS => ?_)
  have ht : (xu (xu w t (.inr (0, [.int (nI 0), .null, .int b]))) t (.inr (0, [.int (nI 0), .ref (E.2.2 1), .int b]))) t = some (.inr (0, [.int (nI 0), .ref (E.2.2 1), .int b])) := xu_self _ _ _
  rw [← hQ]
  refine x_retv C hS (Nat.le_of_ble_eq_true rfl) (Nat.le_of_ble_eq_true rfl) dJx4a65c_init_da8c8_11 ?_
  rw [hpost]
  exact ⟨rfl, by rw [xu_uu] at hH; exact hH⟩

set_option maxHeartbeats 4000000 in
set_option maxRecDepth 100000 in
theorem c_Marks (l : Launch) {E : xE} {base : Nat} {al : Tg → Nat} {w : Tg → Option va_E} {t tr : Tg} {n : Int32} (hne : t ≠ tr) (ht : w t = some (.inr (4, [.null, .int n]))) : xMet l yX3_init cX3_init 1 none ({ frames := 1, cells := 1, slots := 1024, locals := 12 } : Room) E base [.ref (al t)] (fun H => xH E base al w H) (fun r H => r = none ∧ ∃ q : Nat, xH E base (xa al tr q) (xu (xu w tr (.inl (E.2.1 1, 1024, .inr (.inl (fun _ => 0))))) t (.inr (4, [.ref q, .int n]))) H) := by
  refine xMet.of (by decide +kernel) "Dataroom$Marks" rfl (Nat.le_of_ble_eq_true rfl) ?_
  intro p9 e9 s m9 below meth c9 ls C hin hP hS hl
  have hx := C.hx
  have hb := C.hb
  have hH := hP
  have hl : lv_has ls 1 [(0, .ref (al t))] := hl
  obtain ⟨post, hpost⟩ : ∃ zz9 : Option Value → Heap → Prop, zz9 = (fun r H => r = none ∧ ∃ q : Nat, xH E base (xa al tr q) (xu (xu w tr (.inl (E.2.1 1, 1024, .inr (.inl (fun _ => 0))))) t (.inr (4, [.ref q, .int n]))) H) := ⟨_, rfl⟩
  rw [← hpost]
  generalize hQ : (MQ below (xQ base post) ([.ref (al t)] : List Value).toArray s 1 1024 (xA base)) = Q
  refine lv_aload_n hx hb dX3_init_0 rfl (lv_at hl 0 rfl) ?_
  refine x_init C qw_78 qw_30 qw_31 hl.1 dX3_init_1 (Nat.le_of_ble_eq_true rfl) (Nat.le_of_ble_eq_true rfl) ?_
  refine lv_aload_n hx hb dX3_init_4 rfl (lv_at hl 0 rfl) ?_
  refine lv_sipush (v := nI 1024) hx hb dX3_init_5 (by decide +kernel) ?_
  refine x_newa C hH hS tr 1 (atype := .long) qw_86 rfl rfl (fun _ h => by cases h) (a0 := (1024, .inr (.inl (fun _ => 0)))) (fun cA => rfl) rfl (by omega) (by decide) (by decide) (by decide) dX3_init_8 (fun G1_ hH hS => ?_)
  obtain ⟨q_1, hq_1⟩ : ∃ zz9 : Nat, zz9 = xa al tr s.heap.size tr := ⟨_, rfl⟩
  obtain ⟨alq_1, halq_1⟩ : ∃ zz9 : Tg → Nat, zz9 = xa al tr s.heap.size := ⟨_, rfl⟩
  rw [← halq_1] at hH
  rw [← hq_1]
  have ad_2 : alq_1 t = al t := by rw [halq_1, xa_ne hne]
  have ht := xu_of (t := tr) (e := .inl (E.2.1 1, 1024, .inr (.inl (fun _ => 0)))) hne ht
  have ad_4 : alq_1 tr = q_1 := by rw [halq_1, hq_1]
  have hn_3 : (xu w tr (.inl (E.2.1 1, 1024, .inr (.inl (fun _ => 0))))) tr = some (.inl (E.2.1 1, 1024, .inr (.inl (fun _ => 0)))) := xu_self _ _ _
  refine lv_adr2 (ad_2).symm ?_
  refine x_putF C hH hS (ci := 4) (T := TX3) (N := 2) (fs' := [.ref q_1, .int n]) ht rfl iWX3 tyX3 tyX3_ok nmX3 0 (by decide) qw_79 rfl rfl hin rfl rfl rfl (Nat.le_of_ble_eq_true rfl) rfl dX3_init_10 (fun H locs hH hS => ?_)
  have hn_3 := xu_of (t := t) (e := .inr (4, [.ref q_1, .int n])) (Ne.symm hne) hn_3
  have ht : (xu (xu w tr (.inl (E.2.1 1, 1024, .inr (.inl (fun _ => 0))))) t (.inr (4, [.ref q_1, .int n]))) t = some (.inr (4, [.ref q_1, .int n])) := xu_self _ _ _
  rw [← hQ]
  refine x_retv C hS (Nat.le_of_ble_eq_true rfl) (Nat.le_of_ble_eq_true rfl) dX3_init_13 ?_
  rw [hpost]
  have hq9 : s.heap.size = q_1 := by rw [hq_1, xa_self]
  rw [halq_1, hq9] at hH
  exact ⟨rfl, q_1, hH⟩
