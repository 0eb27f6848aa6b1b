section LAD5
variable {p : Program} {l : Launch} {e : Env} {R : Room} {s : State} {m : MethodId} {args : Array Value} {below : List Frame} {meth : Method} {c : Code} {H : Heap} {locs : List Loc} {cells slots : Nat} {Q : State → Prop} {pc : Nat} {ls : Array Slot} {rest : List Value}
theorem lv_adr5 {a b : Nat} {v u x z : Value} (h : a = b) (k : W p l e R s m args below meth c H locs cells slots Q (F0 m pc ls (v :: u :: x :: z :: .ref b :: rest))) : W p l e R s m args below meth c H locs cells slots Q (F0 m pc ls (v :: u :: x :: z :: .ref a :: rest)) := h ▸ k
end LAD5
set_option maxHeartbeats 4000000 in
set_option maxRecDepth 100000 in
theorem c_newLen (l : Launch) {E : xE} {base : Nat} {al : Tg → Nat} {w : Tg → Option va_E} {n : Nat} (h1 : 10 ≤ n) (h2 : n ≤ 240) : xMet l yJ8_newLength_cabcc cJ8_newLength_cabcc 4 (some (.int)) ({ frames := 1, cells := 0, slots := 0, locals := 17 } : Room) E base [.int (nI n), .int (nI 1), .int (nI (n / 2))] (fun H => xH E base al w H) (fun r H => r = some (.int (nI (n + n / 2))) ∧ xH E base al w H) := by
  refine xMet.of (by decide +kernel) "jdk/internal/util/ArraysSupport" rfl (Nat.le_of_ble_eq_true rfl) ?_
  intro p9 e9 s m9 below meth c9 ls C hin hP hS hl
  have hx := C.hx
  have hb := C.hb
  have hH := hP
  have hl : lv_has ls 4 [(0, .int (nI n)), (1, .int (nI 1)), (2, .int (nI (n / 2)))] := hl
  obtain ⟨post, hpost⟩ : ∃ zz9 : Option Value → Heap → Prop, zz9 = (fun r H => r = some (.int (nI (n + n / 2))) ∧ xH E base al w H) := ⟨_, rfl⟩
  rw [← hpost]
  generalize hQ : (MQ below (xQ base post) ([.int (nI n), .int (nI 1), .int (nI (n / 2))] : List Value).toArray s 0 0 (xA base)) = Q
  refine lv_iload_n hx hb dJ8_newLength_cabcc_0 rfl (lv_at hl 0 rfl) ?_
  refine lv_iload_n hx hb dJ8_newLength_cabcc_1 rfl (lv_at hl 1 rfl) ?_
  refine lv_iload_n hx hb dJ8_newLength_cabcc_2 rfl (lv_at hl 2 rfl) ?_
  refine x_mmax C qw_250 qw_251 qw_14 qw_252 hl.1 (Nat.le_of_ble_eq_true rfl) (Nat.le_of_ble_eq_true rfl) (Nat.le_of_ble_eq_true rfl) (Nat.le_of_ble_eq_true rfl) dJ8_newLength_cabcc_3 (v := nI (n / 2)) (if_pos (nI_lt (by omega) (by omega))) ?_
  refine lv_iadd hx hb dJ8_newLength_cabcc_6 ?_
  refine lv_re (nI_add _ _) ?_
  refine lv_istore_n (lv' := [(3, .int (nI (n + n / 2))), (0, .int (nI n)), (1, .int (nI 1)), (2, .int (nI (n / 2)))]) hx hb dJ8_newLength_cabcc_7 rfl hl (by decide) rfl (fun ls hl => ?_)
  refine lv_iconst (v := nI 0) hx hb dJ8_newLength_cabcc_8 (by decide +kernel) ?_
  refine lv_iload_n hx hb dJ8_newLength_cabcc_9 rfl (lv_at hl 0 rfl) ?_
  refine lv_icmp_ge (tgt := 21) hx hb dJ8_newLength_cabcc_10 (by decide) (fun c_1 => ?_) (fun c_1 => ?_)
  · skip
    replace c_1 := (nI_leI (by omega) (by omega)).mp c_1
    exfalso; omega
  · skip
    replace c_1 := mt (nI_leI (by omega) (by omega)).mpr c_1
    refine lv_iload_n hx hb dJ8_newLength_cabcc_13 rfl (lv_at hl 0 rfl) ?_
    refine lv_ldc (v := nI 2147483639) hx hb C.hown (C.ws _ qw_253) dJ8_newLength_cabcc_14 ?_
    refine lv_icmp_gt (tgt := 21) hx hb dJ8_newLength_cabcc_16 (by decide) (fun c_2 => ?_) (fun c_2 => ?_)
    · skip
      replace c_2 := (nI_ltI (by omega) (by omega)).mp c_2
      exfalso; omega
    · skip
      replace c_2 := mt (nI_ltI (by omega) (by omega)).mpr c_2
      refine lv_iload_n hx hb dJ8_newLength_cabcc_19 rfl (lv_at hl 0 rfl) ?_
      rw [← hQ]
      refine x_reti C rfl hS (Nat.le_of_ble_eq_true rfl) (Nat.le_of_ble_eq_true rfl) dJ8_newLength_cabcc_20 ?_
      rw [hpost]
      exact ⟨rfl, hH⟩

set_option maxHeartbeats 4000000 in
set_option maxRecDepth 100000 in
theorem c_copy3 (l : Launch) {E : xE} {base : Nat} {al : Tg → Nat} {w : Tg → Option va_E} {tA : Tg} {n : Nat} {g : Nat → Option Nat} (hA : w tA = some (.inl (E.2.1 5, n, .inr (.inr (.inr (.inr g)))))) (h1 : 10 ≤ n) (h2 : n ≤ 240) (hne : tA ≠ (9, 9, 9)) {ci : Nat} {r : vw_C} (hc : vwCl[ci]? = some r) (hca : Cond.castable r.1 "java/lang/Object" ∈ NB) (hel : ∀ i : Nat, i < n → ∀ y : Nat, g i = some y → ∃ tv vs, tv ≠ (9, 9, 9) ∧ al tv = y ∧ w tv = some (.inr (ci, vs))) : xMet l yJ7_copyOf_6403c cJ7_copyOf_6403c 4 (some ((.array (.object "java/lang/Object")))) ({ frames := 1, cells := 1, slots := 360, locals := 60 } : Room) E base [.ref (al tA), .int (nI (n + n / 2)), .ref (E.2.2 2)] (fun H => xH E base al w H) (fun r H => ∃ q : Nat, r = some (.ref q) ∧ xH E base (xa al (9, 9, 9) q) (xu w (9, 9, 9) (.inl (E.2.1 5, n + n / 2, .inr (.inr (.inr (.inr (fun i => if i < n then g i else none))))))) H) := by
  refine xMet.of (by decide +kernel) "java/util/Arrays" rfl (Nat.le_of_ble_eq_true rfl) ?_
  intro p9 e9 s m9 below meth c9 ls C hin hP hS hl
  have hx := C.hx
  have hb := C.hb
  have hH := hP
  have hl : lv_has ls 4 [(0, .ref (al tA)), (1, .int (nI (n + n / 2))), (2, .ref (E.2.2 2))] := hl
  obtain ⟨post, hpost⟩ : ∃ zz9 : Option Value → Heap → Prop, zz9 = (fun r H => ∃ q : Nat, r = some (.ref q) ∧ xH E base (xa al (9, 9, 9) q) (xu w (9, 9, 9) (.inl (E.2.1 5, n + n / 2, .inr (.inr (.inr (.inr (fun i => if i < n then g i else none))))))) H) := ⟨_, rfl⟩
  rw [← hpost]
  generalize hQ : (MQ below (xQ base post) ([.ref (al tA), .int (nI (n + n / 2)), .ref (E.2.2 2)] : List Value).toArray s 1 360 (xA base)) = Q
  refine lv_aload_n hx hb dJ7_copyOf_6403c_0 rfl (lv_at hl 2 rfl) ?_
  refine x_ldcM C qw_278 dJ7_copyOf_6403c_1 ?_
  refine lv_acmp_ne (rx := some (E.2.2 2)) (ry := some (E.2.2 2)) (tgt := 13) hx hb dJ7_copyOf_6403c_3 (by decide) (fun c => absurd rfl c) (fun _ => ?_)
  refine lv_iload_n hx hb dJ7_copyOf_6403c_6 rfl (lv_at hl 1 rfl) ?_
  refine x_newq C hH hS (9, 9, 9) 5 qw_280 C.st.2.2.2.2.1.1 rfl rfl (by omega) (Nat.le_of_ble_eq_true rfl) (by show 0 + _ ≤ 360; omega) dJ7_copyOf_6403c_7 (fun G1_ hH hS => ?_)
  obtain ⟨q_1, hq_1⟩ : ∃ zz9 : Nat, zz9 = xa al (9, 9, 9) s.heap.size (9, 9, 9) := ⟨_, rfl⟩
  obtain ⟨alq_1, halq_1⟩ : ∃ zz9 : Tg → Nat, zz9 = xa al (9, 9, 9) s.heap.size := ⟨_, rfl⟩
  rw [← halq_1] at hH
  rw [← hq_1]
  have ad_2 : alq_1 tA = al tA := by rw [halq_1, xa_ne hne]
  have hA := xu_of (t := (9, 9, 9)) (e := .inl (E.2.1 5, n + n / 2, .inr (.inr (.inr (.inr (fun _ => none)))))) hne hA
  have ad_4 : alq_1 (9, 9, 9) = q_1 := by rw [halq_1, hq_1]
  have hn_3 : (xu w (9, 9, 9) (.inl (E.2.1 5, n + n / 2, .inr (.inr (.inr (.inr (fun _ => none))))))) (9, 9, 9) = some (.inl (E.2.1 5, n + n / 2, .inr (.inr (.inr (.inr (fun _ => none)))))) := xu_self _ _ _
  refine W.widen (k := 1) (n := 360) (Nat.le_of_ble_eq_true rfl) (by omega) ?_
  refine lv_goto (tgt := 24) hx hb dJ7_copyOf_6403c_10 (by decide) ?_
  refine lv_astore_n (lv' := [(3, .ref q_1), (0, .ref (al tA)), (1, .int (nI (n + n / 2))), (2, .ref (E.2.2 2))]) hx hb dJ7_copyOf_6403c_24 rfl hl (by decide) rfl (fun ls hl => ?_)
  refine lv_aload_n hx hb dJ7_copyOf_6403c_25 rfl (lv_at hl 1 rfl) ?_
  refine lv_iconst (v := nI 0) hx hb dJ7_copyOf_6403c_26 (by decide +kernel) ?_
  refine lv_aload_n hx hb dJ7_copyOf_6403c_27 rfl (lv_at hl 0 rfl) ?_
  refine lv_iconst (v := nI 0) hx hb dJ7_copyOf_6403c_28 (by decide +kernel) ?_
  refine lv_aload_n hx hb dJ7_copyOf_6403c_29 rfl (lv_at hl 1 rfl) ?_
  refine lv_adr (ad_2).symm ?_
  refine x_alen (v := nI n) C hH 5 rfl hA rfl dJ7_copyOf_6403c_30 ?_
  refine lv_iload_n hx hb dJ7_copyOf_6403c_31 rfl (lv_at hl 2 rfl) ?_
  refine x_mmin C qw_281 qw_282 qw_14 qw_283 hl.1 (Nat.le_of_ble_eq_true rfl) (Nat.le_of_ble_eq_true rfl) (Nat.le_of_ble_eq_true rfl) (Nat.le_of_ble_eq_true rfl) dJ7_copyOf_6403c_32 (v := nI n) (if_neg (nI_nlt (by omega) (by omega))) ?_
  refine lv_adr3 (ad_4).symm ?_
  refine lv_adr5 (ad_2).symm ?_
  refine x_copyq C hH hS (k := n) (ci := ci) qw_284 nw_286 qw_285 qw_16 hl.1 hA hn_3 (by omega) (by omega) (by omega) hc hca ?_ (Nat.le_of_ble_eq_true rfl) (by decide +kernel) dJ7_copyOf_6403c_35 (fun H locs hH hS => ?_)
  · intro i hi y hy
    obtain ⟨tv, vs, k1, k2, k3⟩ := hel i hi y hy
    exact ⟨tv, vs, by rw [halq_1, xa_ne k1]; exact k2, xu_of k1 k3⟩
  rw [xu_uu] at hH
  refine lv_aload_n hx hb dJ7_copyOf_6403c_38 rfl (lv_at hl 0 rfl) ?_
  rw [← hQ]
  refine x_reta C (Or.inr ⟨_, rfl⟩) (Or.inr ⟨_, rfl⟩) hS (Nat.le_of_ble_eq_true rfl) (Nat.le_of_ble_eq_true rfl) dJ7_copyOf_6403c_39 ?_
  rw [hpost]
  have hq9 : s.heap.size = q_1 := by rw [hq_1, xa_self]
  rw [halq_1, hq9] at hH
  exact ⟨q_1, rfl, hH⟩

set_option maxHeartbeats 4000000 in
set_option maxRecDepth 100000 in
theorem c_copy2 (l : Launch) {E : xE} {base : Nat} {al : Tg → Nat} {w : Tg → Option va_E} {tA : Tg} {n : Nat} {g : Nat → Option Nat} (hA : w tA = some (.inl (E.2.1 5, n, .inr (.inr (.inr (.inr g)))))) (h1 : 10 ≤ n) (h2 : n ≤ 240) (hne : tA ≠ (9, 9, 9)) {ci : Nat} {r : vw_C} (hc : vwCl[ci]? = some r) (hca : Cond.castable r.1 "java/lang/Object" ∈ NB) (hel : ∀ i : Nat, i < n → ∀ y : Nat, g i = some y → ∃ tv vs, tv ≠ (9, 9, 9) ∧ al tv = y ∧ w tv = some (.inr (ci, vs))) : xMet l yJ7_copyOf_1904c cJ7_copyOf_1904c 2 (some ((.array (.object "java/lang/Object")))) ({ frames := 2, cells := 1, slots := 360, locals := 83 } : Room) E base [.ref (al tA), .int (nI (n + n / 2))] (fun H => xH E base al w H) (fun r H => ∃ q : Nat, r = some (.ref q) ∧ xH E base (xa al (9, 9, 9) q) (xu w (9, 9, 9) (.inl (E.2.1 5, n + n / 2, .inr (.inr (.inr (.inr (fun i => if i < n then g i else none))))))) H) := by
  refine xMet.of (by decide +kernel) "java/util/Arrays" rfl (Nat.le_of_ble_eq_true rfl) ?_
  intro p9 e9 s m9 below meth c9 ls C hin hP hS hl
  have hx := C.hx
  have hb := C.hb
  have hH := hP
  have hl : lv_has ls 2 [(0, .ref (al tA)), (1, .int (nI (n + n / 2)))] := hl
  obtain ⟨post, hpost⟩ : ∃ zz9 : Option Value → Heap → Prop, zz9 = (fun r H => ∃ q : Nat, r = some (.ref q) ∧ xH E base (xa al (9, 9, 9) q) (xu w (9, 9, 9) (.inl (E.2.1 5, n + n / 2, .inr (.inr (.inr (.inr (fun i => if i < n then g i else none))))))) H) := ⟨_, rfl⟩
  rw [← hpost]
  generalize hQ : (MQ below (xQ base post) ([.ref (al tA), .int (nI (n + n / 2))] : List Value).toArray s 1 360 (xA base)) = Q
  refine lv_aload_n hx hb dJ7_copyOf_1904c_0 rfl (lv_at hl 0 rfl) ?_
  refine lv_iload_n hx hb dJ7_copyOf_1904c_1 rfl (lv_at hl 1 rfl) ?_
  refine lv_aload_n hx hb dJ7_copyOf_1904c_2 rfl (lv_at hl 0 rfl) ?_
  refine x_getC C hH hA qw_260 nw_718 qw_717 qw_261 nw_274 hl.1 (Nat.le_of_ble_eq_true rfl) (Nat.le_of_ble_eq_true rfl) dJ7_copyOf_1904c_3 ?_
  refine x_callS C hS (c_copy3 l (E := E) (base := base) hA h1 h2 hne hc hca hel) hH kJ7_copyOf_6403c qw_276 qw_275  rfl [] rfl hl.1 (Nat.le_of_ble_eq_true rfl) ⟨Nat.le_of_ble_eq_true rfl, Nat.le_of_ble_eq_true rfl⟩ dJ7_copyOf_1904c_6 ⟨Nat.le_of_ble_eq_true rfl, Nat.le_of_ble_eq_true rfl⟩ (fun r_2 H locs hp_1 hS => ?_)
  obtain ⟨qq_3, rfl, hH⟩ := hp_1
  rw [← hQ]
  refine x_reta C (Or.inr ⟨_, rfl⟩) (Or.inr ⟨_, rfl⟩) hS (Nat.le_of_ble_eq_true rfl) (Nat.le_of_ble_eq_true rfl) dJ7_copyOf_1904c_9 ?_
  rw [hpost]
  exact ⟨qq_3, rfl, hH⟩

set_option maxHeartbeats 4000000 in
set_option maxRecDepth 100000 in
theorem c_growI (l : Launch) {E : xE} {base : Nat} {al : Tg → Nat} {w : Tg → Option va_E} {tL tA : Tg} {n : Nat} {g : Nat → Option Nat} {mc : Int32} (hL : w tL = some (.inr (0, [.int mc, .ref (al tA), .int (nI n)]))) (hLA : tL ≠ tA) (hL9 : tL ≠ (9, 9, 9)) (hA : w tA = some (.inl (E.2.1 5, n, .inr (.inr (.inr (.inr g)))))) (h1 : 10 ≤ n) (h2 : n ≤ 240) (hne : tA ≠ (9, 9, 9)) {ci : Nat} {r : vw_C} (hc : vwCl[ci]? = some r) (hca : Cond.castable r.1 "java/lang/Object" ∈ NB) (hel : ∀ i : Nat, i < n → ∀ y : Nat, g i = some y → ∃ tv vs, tv ≠ (9, 9, 9) ∧ al tv = y ∧ w tv = some (.inr (ci, vs))) : xMet l yJx4a65c_grow_92f84 cJx4a65c_grow_92f84 4 (some ((.array (.object "java/lang/Object")))) ({ frames := 3, cells := 1, slots := 360, locals := 104 } : Room) E base [.ref (al tL), .int (nI (n + 1))] (fun H => xH E base al w H) (fun r H => ∃ q : Nat, r = some (.ref q) ∧ xH E base (xa (xa al (9, 9, 9) q) tA q) (xu (xmv (xu w (9, 9, 9) (.inl (E.2.1 5, n + n / 2, .inr (.inr (.inr (.inr (fun i => if i < n then g i else none))))))) tA (9, 9, 9)) tL (.inr (0, [.int mc, .ref q, .int (nI n)]))) H) := by
  refine xMet.of (by decide +kernel) "java/util/ArrayList" rfl (Nat.le_of_ble_eq_true rfl) ?_
  intro p9 e9 s m9 below meth c9 ls C hin hP hS hl
  have hx := C.hx
  have hb := C.hb
  have hH := hP
  have hl : lv_has ls 4 [(0, .ref (al tL)), (1, .int (nI (n + 1)))] := hl
  obtain ⟨post, hpost⟩ : ∃ zz9 : Option Value → Heap → Prop, zz9 = (fun r H => ∃ q : Nat, r = some (.ref q) ∧ xH E base (xa (xa al (9, 9, 9) q) tA q) (xu (xmv (xu w (9, 9, 9) (.inl (E.2.1 5, n + n / 2, .inr (.inr (.inr (.inr (fun i => if i < n then g i else none))))))) tA (9, 9, 9)) tL (.inr (0, [.int mc, .ref q, .int (nI n)]))) H) := ⟨_, rfl⟩
  rw [← hpost]
  generalize hQ : (MQ below (xQ base post) ([.ref (al tL), .int (nI (n + 1))] : List Value).toArray s 1 360 (xA base)) = Q
  refine lv_aload_n hx hb dJx4a65c_grow_92f84_0 rfl (lv_at hl 0 rfl) ?_
  refine x_get C hH (ci := 0) (T := TJx4a65c) (N := 3) hL rfl iWJx4a65c 1 (by decide) qw_46 rfl rfl dJx4a65c_grow_92f84_1 ?_
  refine x_alen (v := nI n) C hH 5 rfl hA rfl dJx4a65c_grow_92f84_4 ?_
  refine lv_istore_n (lv' := [(2, .int (nI n)), (0, .ref (al tL)), (1, .int (nI (n + 1)))]) hx hb dJx4a65c_grow_92f84_5 rfl hl (by decide) rfl (fun ls hl => ?_)
  refine lv_iload_n hx hb dJx4a65c_grow_92f84_6 rfl (lv_at hl 0 rfl) ?_
  refine lv_if_gt (tgt := 20) hx hb dJx4a65c_grow_92f84_7 (by decide) (fun _ => ?_) (fun c => absurd ((nI_gt0 (by omega)).mpr (by omega)) c)
  refine lv_iload_n hx hb dJx4a65c_grow_92f84_20 rfl (lv_at hl 0 rfl) ?_
  refine lv_iload_n hx hb dJx4a65c_grow_92f84_21 rfl (lv_at hl 2 rfl) ?_
  refine lv_iload_n hx hb dJx4a65c_grow_92f84_22 rfl (lv_at hl 0 rfl) ?_
  refine lv_isub hx hb dJx4a65c_grow_92f84_23 ?_
  refine lv_re (y := nI 1) (by rw [pk_sub (by omega), Nat.add_sub_cancel_left]) ?_
  refine lv_iload_n hx hb dJx4a65c_grow_92f84_24 rfl (lv_at hl 0 rfl) ?_
  refine lv_iconst (v := nI 1) hx hb dJx4a65c_grow_92f84_25 (by decide +kernel) ?_
  refine lv_ishr hx hb dJx4a65c_grow_92f84_26 ?_
  refine lv_re (y := nI (n / 2)) (by have k := pk_shrN (n := n) (by omega) ((1 : Int32) &&& 31) 1 (by decide); rw [Nat.pow_one] at k; exact k) ?_
  refine x_callS C hS (c_newLen l (E := E) (base := base) (al := al) (w := w) h1 h2) hH kJ8_newLength_cabcc qw_248 qw_247  rfl [] rfl hl.1 (Nat.le_of_ble_eq_true rfl) ⟨Nat.le_of_ble_eq_true rfl, Nat.le_of_ble_eq_true rfl⟩ dJx4a65c_grow_92f84_27 ⟨Nat.le_of_ble_eq_true rfl, Nat.le_of_ble_eq_true rfl⟩ (fun r_2 H locs hp_1 hS => ?_)
  obtain ⟨rfl, hH⟩ := hp_1
  refine lv_istore_n (lv' := [(3, .int (nI (n + n / 2))), (2, .int (nI n)), (0, .ref (al tL)), (1, .int (nI (n + 1)))]) hx hb dJx4a65c_grow_92f84_30 rfl hl (by decide) rfl (fun ls hl => ?_)
  refine lv_aload_n hx hb dJx4a65c_grow_92f84_31 rfl (lv_at hl 2 rfl) ?_
  refine lv_aload_n hx hb dJx4a65c_grow_92f84_32 rfl (lv_at hl 2 rfl) ?_
  refine x_get C hH (ci := 0) (T := TJx4a65c) (N := 3) hL rfl iWJx4a65c 1 (by decide) qw_46 rfl rfl dJx4a65c_grow_92f84_33 ?_
  refine lv_iload_n hx hb dJx4a65c_grow_92f84_36 rfl (lv_at hl 0 rfl) ?_
  refine x_callS C hS (c_copy2 l (E := E) (base := base) hA h1 h2 hne hc hca hel) hH kJ7_copyOf_1904c qw_258 qw_257  rfl [.ref (al tL)] rfl hl.1 (Nat.le_of_ble_eq_true rfl) ⟨Nat.le_of_ble_eq_true rfl, Nat.le_of_ble_eq_true rfl⟩ dJx4a65c_grow_92f84_37 ⟨Nat.le_of_ble_eq_true rfl, Nat.le_of_ble_eq_true rfl⟩ (fun r_4 H locs hp_3 hS => ?_)
  obtain ⟨qq, rfl, hH⟩ := hp_3
  replace hH := hH.ren tA (9, 9, 9)
  rw [xa_self] at hH
  have hL2 : (xmv (xu w (9, 9, 9) (.inl (E.2.1 5, n + n / 2, .inr (.inr (.inr (.inr (fun i => if i < n then g i else none))))))) tA (9, 9, 9)) tL = some (.inr (0, [.int mc, .ref (al tA), .int (nI n)])) := by unfold xmv; rw [if_neg hLA, if_neg hL9, xu_ne hL9]; exact hL
  have aL2 : (xa (xa al (9, 9, 9) qq) tA qq) tL = al tL := by rw [xa_ne hLA, xa_ne hL9]
  refine lv_dup_x1 hx hb dJx4a65c_grow_92f84_40 rfl rfl ?_
  refine lv_adr2 aL2.symm ?_
  refine x_put C hH hS (ci := 0) (T := TJx4a65c) (N := 3) (fs' := [.int mc, .ref qq, .int (nI n)]) hL2 rfl iWJx4a65c tyJx4a65c tyJx4a65c_ok nmJx4a65c 1 (by decide) qw_46 rfl rfl rfl rfl (Nat.le_of_ble_eq_true rfl) rfl dJx4a65c_grow_92f84_41 (fun H locs hH hS => ?_)
  have hL2 : (xu (xmv (xu w (9, 9, 9) (.inl (E.2.1 5, n + n / 2, .inr (.inr (.inr (.inr (fun i => if i < n then g i else none))))))) tA (9, 9, 9)) tL (.inr (0, [.int mc, .ref qq, .int (nI n)]))) tL = some (.inr (0, [.int mc, .ref qq, .int (nI n)])) := xu_self _ _ _
  rw [← hQ]
  refine x_reta C (Or.inr ⟨_, rfl⟩) (Or.inr ⟨_, rfl⟩) hS (Nat.le_of_ble_eq_true rfl) (Nat.le_of_ble_eq_true rfl) dJx4a65c_grow_92f84_44 ?_
  rw [hpost]
  exact ⟨qq, rfl, hH⟩

set_option maxHeartbeats 4000000 in
set_option maxRecDepth 100000 in
theorem c_grow (l : Launch) {E : xE} {base : Nat} {al : Tg → Nat} {w : Tg → Option va_E} {tL tA : Tg} {n : Nat} {g : Nat → Option Nat} {mc : Int32} (hL : w tL = some (.inr (0, [.int mc, .ref (al tA), .int (nI n)]))) (hLA : tL ≠ tA) (hL9 : tL ≠ (9, 9, 9)) (hA : w tA = some (.inl (E.2.1 5, n, .inr (.inr (.inr (.inr g)))))) (h1 : 10 ≤ n) (h2 : n ≤ 240) (hne : tA ≠ (9, 9, 9)) {ci : Nat} {r : vw_C} (hc : vwCl[ci]? = some r) (hca : Cond.castable r.1 "java/lang/Object" ∈ NB) (hel : ∀ i : Nat, i < n → ∀ y : Nat, g i = some y → ∃ tv vs, tv ≠ (9, 9, 9) ∧ al tv = y ∧ w tv = some (.inr (ci, vs))) : xMet l yJx4a65c_grow_d5877 cJx4a65c_grow_d5877 1 (some ((.array (.object "java/lang/Object")))) ({ frames := 4, cells := 1, slots := 360, locals := 127 } : Room) E base [.ref (al tL)] (fun H => xH E base al w H) (fun r H => ∃ q : Nat, r = some (.ref q) ∧ xH E base (xa (xa al (9, 9, 9) q) tA q) (xu (xmv (xu w (9, 9, 9) (.inl (E.2.1 5, n + n / 2, .inr (.inr (.inr (.inr (fun i => if i < n then g i else none))))))) tA (9, 9, 9)) tL (.inr (0, [.int mc, .ref q, .int (nI n)]))) H) := by
  refine xMet.of (by decide +kernel) "java/util/ArrayList" rfl (Nat.le_of_ble_eq_true rfl) ?_
  intro p9 e9 s m9 below meth c9 ls C hin hP hS hl
  have hx := C.hx
  have hb := C.hb
  have hH := hP
  have hl : lv_has ls 1 [(0, .ref (al tL))] := hl
  obtain ⟨post, hpost⟩ : ∃ zz9 : Option Value → Heap → Prop, zz9 = (fun r H => ∃ q : Nat, r = some (.ref q) ∧ xH E base (xa (xa al (9, 9, 9) q) tA q) (xu (xmv (xu w (9, 9, 9) (.inl (E.2.1 5, n + n / 2, .inr (.inr (.inr (.inr (fun i => if i < n then g i else none))))))) tA (9, 9, 9)) tL (.inr (0, [.int mc, .ref q, .int (nI n)]))) H) := ⟨_, rfl⟩
  rw [← hpost]
  generalize hQ : (MQ below (xQ base post) ([.ref (al tL)] : List Value).toArray s 1 360 (xA base)) = Q
  refine lv_aload_n hx hb dJx4a65c_grow_d5877_0 rfl (lv_at hl 0 rfl) ?_
  refine lv_aload_n hx hb dJx4a65c_grow_d5877_1 rfl (lv_at hl 0 rfl) ?_
  refine x_get C hH (ci := 0) (T := TJx4a65c) (N := 3) hL rfl iWJx4a65c 2 (by decide) qw_47 rfl rfl dJx4a65c_grow_d5877_2 ?_
  refine lv_iconst (v := nI 1) hx hb dJx4a65c_grow_d5877_5 (by decide +kernel) ?_
  refine lv_iadd hx hb dJx4a65c_grow_d5877_6 ?_
  refine lv_re (nI_add _ _) ?_
  refine x_callV C hH hS (ci := 0) (t := tL) hL rfl rfl (c_growI l (E := E) (base := base) hL hLA hL9 hA h1 h2 hne hc hca hel) hH kJx4a65c_grow_92f84 qw_245 (ws_p (List.mem_of_getElem? (i := 3) rfl) rfl) qw_243  rfl [] rfl hl.1 (Nat.le_of_ble_eq_true rfl) ⟨Nat.le_of_ble_eq_true rfl, Nat.le_of_ble_eq_true rfl⟩ dJx4a65c_grow_d5877_7 ⟨Nat.le_of_ble_eq_true rfl, Nat.le_of_ble_eq_true rfl⟩ (fun r_2 H locs hp_1 hS => ?_)
  obtain ⟨qq_3, rfl, hH⟩ := hp_1
  rw [← hQ]
  refine x_reta C (Or.inr ⟨_, rfl⟩) (Or.inr ⟨_, rfl⟩) hS (Nat.le_of_ble_eq_true rfl) (Nat.le_of_ble_eq_true rfl) dJx4a65c_grow_d5877_10 ?_
  rw [hpost]
  exact ⟨qq_3, rfl, hH⟩

set_option maxHeartbeats 4000000 in
set_option maxRecDepth 100000 in
theorem c_growIE (l : Launch) {E : xE} {base : Nat} {al : Tg → Nat} {w : Tg → Option va_E} {tL tA : Tg} {mc : Int32} (hL : w tL = some (.inr (0, [.int mc, .ref (E.2.2 1), .int (nI 0)]))) (hLA : tL ≠ tA)  : xMet l yJx4a65c_grow_92f84 cJx4a65c_grow_92f84 4 (some ((.array (.object "java/lang/Object")))) ({ frames := 3, cells := 1, slots := 360, locals := 104 } : Room) E base [.ref (al tL), .int (nI 1)] (fun H => xH E base al w H) (fun r H => ∃ q : Nat, r = some (.ref q) ∧ xH E base (xa al tA q) (xu (xu w tA (.inl (E.2.1 5, 10, .inr (.inr (.inr (.inr (fun _ => none))))))) tL (.inr (0, [.int mc, .ref q, .int (nI 0)]))) H) := by
  refine xMet.of (by decide +kernel) "java/util/ArrayList" rfl (Nat.le_of_ble_eq_true rfl) ?_
  intro p9 e9 s m9 below meth c9 ls C hin hP hS hl
  have hx := C.hx
  have hb := C.hb
  have hH := hP
  have hl : lv_has ls 4 [(0, .ref (al tL)), (1, .int (nI 1))] := hl
  obtain ⟨post, hpost⟩ : ∃ zz9 : Option Value → Heap → Prop, zz9 = (fun r H => ∃ q : Nat, r = some (.ref q) ∧ xH E base (xa al tA q) (xu (xu w tA (.inl (E.2.1 5, 10, .inr (.inr (.inr (.inr (fun _ => none))))))) tL (.inr (0, [.int mc, .ref q, .int (nI 0)]))) H) := ⟨_, rfl⟩
  rw [← hpost]
  generalize hQ : (MQ below (xQ base post) ([.ref (al tL), .int (nI 1)] : List Value).toArray s 1 360 (xA base)) = Q
  refine lv_aload_n hx hb dJx4a65c_grow_92f84_0 rfl (lv_at hl 0 rfl) ?_
  refine x_get C hH (ci := 0) (T := TJx4a65c) (N := 3) hL rfl iWJx4a65c 1 (by decide) qw_46 rfl rfl dJx4a65c_grow_92f84_1 ?_
  refine x_lenE C hS dJx4a65c_grow_92f84_4 ?_
  refine lv_istore_n (lv' := [(2, .int (nI 0)), (0, .ref (al tL)), (1, .int (nI 1))]) hx hb dJx4a65c_grow_92f84_5 rfl hl (by decide) rfl (fun ls hl => ?_)
  refine lv_iload_n hx hb dJx4a65c_grow_92f84_6 rfl (lv_at hl 0 rfl) ?_
  refine lv_if_gt (tgt := 20) hx hb dJx4a65c_grow_92f84_7 (by decide) (fun c_1 => absurd c_1 (by decide +kernel)) (fun c_1 => ?_)
  clear c_1
  refine lv_aload_n hx hb dJx4a65c_grow_92f84_10 rfl (lv_at hl 1 rfl) ?_
  refine x_get C hH (ci := 0) (T := TJx4a65c) (N := 3) hL rfl iWJx4a65c 1 (by decide) qw_46 rfl rfl dJx4a65c_grow_92f84_11 ?_
  refine x_getsE C hS qw_44 dJx4a65c_grow_92f84_14 ?_
  refine lv_acmp_eq (rx := some (E.2.2 1)) (ry := some (E.2.2 1)) (tgt := 45) hx hb dJx4a65c_grow_92f84_17 (by decide) (fun _ => ?_) (fun c => absurd rfl c)
  refine lv_aload_n hx hb dJx4a65c_grow_92f84_45 rfl (lv_at hl 1 rfl) ?_
  refine lv_bipush (v := nI 10) hx hb dJx4a65c_grow_92f84_46 (by decide +kernel) ?_
  refine lv_iload_n hx hb dJx4a65c_grow_92f84_48 rfl (lv_at hl 2 rfl) ?_
  refine x_mmax C qw_287 qw_251 qw_14 qw_252 hl.1 (Nat.le_of_ble_eq_true rfl) (Nat.le_of_ble_eq_true rfl) (Nat.le_of_ble_eq_true rfl) (Nat.le_of_ble_eq_true rfl) dJx4a65c_grow_92f84_49 (v := nI 10) (by decide +kernel) ?_
  refine x_newq C hH hS tA 5 qw_288 C.st.2.2.2.2.1.1 rfl rfl (by omega) (Nat.le_of_ble_eq_true rfl) (Nat.le_of_ble_eq_true rfl) dJx4a65c_grow_92f84_52 (fun G2_ hH hS => ?_)
  obtain ⟨q_2, hq_2⟩ : ∃ zz9 : Nat, zz9 = xa al tA s.heap.size tA := ⟨_, rfl⟩
  obtain ⟨alq_2, halq_2⟩ : ∃ zz9 : Tg → Nat, zz9 = xa al tA s.heap.size := ⟨_, rfl⟩
  rw [← halq_2] at hH
  rw [← hq_2]
  have ad_3 : alq_2 tL = al tL := by rw [halq_2, xa_ne hLA]
  have hL := xu_of (t := tA) (e := .inl (E.2.1 5, 10, .inr (.inr (.inr (.inr (fun _ => none)))))) hLA hL
  have ad_5 : alq_2 tA = q_2 := by rw [halq_2, hq_2]
  have hn_4 : (xu w tA (.inl (E.2.1 5, 10, .inr (.inr (.inr (.inr (fun _ => none))))))) tA = some (.inl (E.2.1 5, 10, .inr (.inr (.inr (.inr (fun _ => none)))))) := xu_self _ _ _
  refine lv_dup_x1 hx hb dJx4a65c_grow_92f84_55 rfl rfl ?_
  refine lv_adr2 (ad_3).symm ?_
  refine x_put C hH hS (ci := 0) (T := TJx4a65c) (N := 3) (fs' := [.int mc, .ref q_2, .int (nI 0)]) hL rfl iWJx4a65c tyJx4a65c tyJx4a65c_ok nmJx4a65c 1 (by decide) qw_46 rfl rfl rfl rfl (Nat.le_of_ble_eq_true rfl) rfl dJx4a65c_grow_92f84_56 (fun H locs hH hS => ?_)
  have hn_4 := xu_of (t := tL) (e := .inr (0, [.int mc, .ref q_2, .int (nI 0)])) (Ne.symm hLA) hn_4
  have hL : (xu (xu w tA (.inl (E.2.1 5, 10, .inr (.inr (.inr (.inr (fun _ => none))))))) tL (.inr (0, [.int mc, .ref q_2, .int (nI 0)]))) tL = some (.inr (0, [.int mc, .ref q_2, .int (nI 0)])) := xu_self _ _ _
  rw [← hQ]
  refine x_reta C (Or.inr ⟨_, rfl⟩) (Or.inr ⟨_, rfl⟩) hS (Nat.le_of_ble_eq_true rfl) (Nat.le_of_ble_eq_true rfl) dJx4a65c_grow_92f84_59 ?_
  rw [hpost]
  have hq9 : s.heap.size = q_2 := by rw [hq_2, xa_self]
  rw [halq_2, hq9] at hH
  exact ⟨q_2, rfl, hH⟩

set_option maxHeartbeats 4000000 in
set_option maxRecDepth 100000 in
theorem c_growE (l : Launch) {E : xE} {base : Nat} {al : Tg → Nat} {w : Tg → Option va_E} {tL tA : Tg} {mc : Int32} (hL : w tL = some (.inr (0, [.int mc, .ref (E.2.2 1), .int (nI 0)]))) (hLA : tL ≠ tA)  : xMet l yJx4a65c_grow_d5877 cJx4a65c_grow_d5877 1 (some ((.array (.object "java/lang/Object")))) ({ frames := 4, cells := 1, slots := 360, locals := 127 } : Room) E base [.ref (al tL)] (fun H => xH E base al w H) (fun r H => ∃ q : Nat, r = some (.ref q) ∧ xH E base (xa al tA q) (xu (xu w tA (.inl (E.2.1 5, 10, .inr (.inr (.inr (.inr (fun _ => none))))))) tL (.inr (0, [.int mc, .ref q, .int (nI 0)]))) H) := by
  refine xMet.of (by decide +kernel) "java/util/ArrayList" rfl (Nat.le_of_ble_eq_true rfl) ?_
  intro p9 e9 s m9 below meth c9 ls C hin hP hS hl
  have hx := C.hx
  have hb := C.hb
  have hH := hP
  have hl : lv_has ls 1 [(0, .ref (al tL))] := hl
  obtain ⟨post, hpost⟩ : ∃ zz9 : Option Value → Heap → Prop, zz9 = (fun r H => ∃ q : Nat, r = some (.ref q) ∧ xH E base (xa al tA q) (xu (xu w tA (.inl (E.2.1 5, 10, .inr (.inr (.inr (.inr (fun _ => none))))))) tL (.inr (0, [.int mc, .ref q, .int (nI 0)]))) H) := ⟨_, rfl⟩
  rw [← hpost]
  generalize hQ : (MQ below (xQ base post) ([.ref (al tL)] : List Value).toArray s 1 360 (xA base)) = Q
  refine lv_aload_n hx hb dJx4a65c_grow_d5877_0 rfl (lv_at hl 0 rfl) ?_
  refine lv_aload_n hx hb dJx4a65c_grow_d5877_1 rfl (lv_at hl 0 rfl) ?_
  refine x_get C hH (ci := 0) (T := TJx4a65c) (N := 3) hL rfl iWJx4a65c 2 (by decide) qw_47 rfl rfl dJx4a65c_grow_d5877_2 ?_
  refine lv_iconst (v := nI 1) hx hb dJx4a65c_grow_d5877_5 (by decide +kernel) ?_
  refine lv_iadd hx hb dJx4a65c_grow_d5877_6 ?_
  refine lv_re (y := nI 1) (by decide +kernel) ?_
  refine x_callV C hH hS (ci := 0) (t := tL) hL rfl rfl (c_growIE l (E := E) (base := base) hL hLA) hH kJx4a65c_grow_92f84 qw_245 (ws_p (List.mem_of_getElem? (i := 3) rfl) rfl) qw_243  rfl [] rfl hl.1 (Nat.le_of_ble_eq_true rfl) ⟨Nat.le_of_ble_eq_true rfl, Nat.le_of_ble_eq_true rfl⟩ dJx4a65c_grow_d5877_7 ⟨Nat.le_of_ble_eq_true rfl, Nat.le_of_ble_eq_true rfl⟩ (fun r_2 H locs hp_1 hS => ?_)
  obtain ⟨qq_3, rfl, hH⟩ := hp_1
  rw [← hQ]
  refine x_reta C (Or.inr ⟨_, rfl⟩) (Or.inr ⟨_, rfl⟩) hS (Nat.le_of_ble_eq_true rfl) (Nat.le_of_ble_eq_true rfl) dJx4a65c_grow_d5877_10 ?_
  rw [hpost]
  exact ⟨qq_3, rfl, hH⟩
