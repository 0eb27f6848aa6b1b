set_option maxHeartbeats 4000000 in
set_option maxRecDepth 100000 in
theorem c_size (l : Launch) {E : xE} {base : Nat} {al : Tg → Nat} {w : Tg → Option va_E} {tL : Tg} {mc : Int32} {a n : Nat} (hL : w tL = some (.inr (0, [.int mc, .ref a, .int (nI n)]))) : xMet l yJx4a65c_size_8abf5 cJx4a65c_size_8abf5 1 (some (.int)) ({ frames := 0, cells := 0, slots := 0, locals := 0 } : Room) E base [.ref (al tL)] (fun H => xH E base al w H) (fun r H => r = some (.int (nI n)) ∧ xH E base al w H) := by
  refine xMet.of (by decide +kernel) "java/util/ArrayList" rfl (Nat.le_of_ble_eq_true rfl) ?_
  intro p9 e9 s m9 below meth c9 ls C hin hP hS hl
  have hx := C.hx
  have hb := C.hb
  have hH := hP
  have hl : lv_has ls 1 [(0, .ref (al tL))] := hl
  obtain ⟨post, hpost⟩ : ∃ zz9 : Option Value → Heap → Prop, zz9 = (fun r H => r = some (.int (nI n)) ∧ xH E base al w H) := ⟨_, rfl⟩
  rw [← hpost]
  generalize hQ : (MQ below (xQ base post) ([.ref (al tL)] : List Value).toArray s 0 0 (xA base)) = Q
  refine lv_aload_n hx hb dJx4a65c_size_8abf5_0 rfl (lv_at hl 0 rfl) ?_
  refine x_get C hH (ci := 0) (T := TJx4a65c) (N := 3) hL rfl iWJx4a65c 2 (by decide) qw_47 rfl rfl dJx4a65c_size_8abf5_1 ?_
  rw [← hQ]
  refine x_reti C rfl hS (Nat.le_of_ble_eq_true rfl) (Nat.le_of_ble_eq_true rfl) dJx4a65c_size_8abf5_4 ?_
  rw [hpost]
  exact ⟨rfl, hH⟩

set_option maxHeartbeats 4000000 in
set_option maxRecDepth 100000 in
theorem c_pidx (l : Launch) {E : xE} {base : Nat} {al : Tg → Nat} {w : Tg → Option va_E} {i n : Nat} (hi : i < n) (hn : n < 2 ^ 31) : xMet l yJ3_checkIndex_8e157 cJ3_checkIndex_8e157 3 (some (.int)) ({ frames := 0, cells := 0, slots := 0, locals := 0 } : Room) E base [.int (nI i), .int (nI n), .null] (fun H => xH E base al w H) (fun r H => r = some (.int (nI i)) ∧ xH E base al w H) := by
  refine xMet.of (by decide +kernel) "jdk/internal/util/Preconditions" rfl (Nat.le_of_ble_eq_true rfl) ?_
  intro p9 e9 s m9 below meth c9 ls C hin hP hS hl
  have hx := C.hx
  have hb := C.hb
  have hH := hP
  have hl : lv_has ls 3 [(0, .int (nI i)), (1, .int (nI n)), (2, .null)] := hl
  obtain ⟨post, hpost⟩ : ∃ zz9 : Option Value → Heap → Prop, zz9 = (fun r H => r = some (.int (nI i)) ∧ xH E base al w H) := ⟨_, rfl⟩
  rw [← hpost]
  generalize hQ : (MQ below (xQ base post) ([.int (nI i), .int (nI n), .null] : List Value).toArray s 0 0 (xA base)) = Q
  refine lv_iload_n hx hb dJ3_checkIndex_8e157_0 rfl (lv_at hl 0 rfl) ?_
  refine lv_if_lt (tgt := 9) hx hb dJ3_checkIndex_8e157_1 (by decide) (fun c_1 => absurd c_1 (nI_pos (by omega))) (fun _ => ?_)
  refine lv_iload_n hx hb dJ3_checkIndex_8e157_4 rfl (lv_at hl 0 rfl) ?_
  refine lv_iload_n hx hb dJ3_checkIndex_8e157_5 rfl (lv_at hl 1 rfl) ?_
  refine lv_icmp_lt (tgt := 16) hx hb dJ3_checkIndex_8e157_6 (by decide) (fun c_2 => ?_) (fun c_2 => ?_)
  · skip
    replace c_2 := (nI_ltI (by omega) (by omega)).mp c_2
    refine lv_iload_n hx hb dJ3_checkIndex_8e157_16 rfl (lv_at hl 0 rfl) ?_
    rw [← hQ]
    refine x_reti C rfl hS (Nat.le_of_ble_eq_true rfl) (Nat.le_of_ble_eq_true rfl) dJ3_checkIndex_8e157_17 ?_
    rw [hpost]
    exact ⟨rfl, hH⟩
  · skip
    replace c_2 := mt (nI_ltI (by omega) (by omega)).mpr c_2
    exact absurd hi (by omega)

set_option maxHeartbeats 4000000 in
set_option maxRecDepth 100000 in
theorem c_cidx (l : Launch) {E : xE} {base : Nat} {al : Tg → Nat} {w : Tg → Option va_E} {i n : Nat} (hi : i < n) (hn : n < 2 ^ 31) : xMet l yJ15_checkIndex_7cf53 cJ15_checkIndex_7cf53 2 (some (.int)) ({ frames := 1, cells := 0, slots := 0, locals := 22 } : Room) E base [.int (nI i), .int (nI n)] (fun H => xH E base al w H) (fun r H => r = some (.int (nI i)) ∧ xH E base al w H) := by
  refine xMet.of (by decide +kernel) "java/util/Objects" rfl (Nat.le_of_ble_eq_true rfl) ?_
  intro p9 e9 s m9 below meth c9 ls C hin hP hS hl
  have hx := C.hx
  have hb := C.hb
  have hH := hP
  have hl : lv_has ls 2 [(0, .int (nI i)), (1, .int (nI n))] := hl
  obtain ⟨post, hpost⟩ : ∃ zz9 : Option Value → Heap → Prop, zz9 = (fun r H => r = some (.int (nI i)) ∧ xH E base al w H) := ⟨_, rfl⟩
  rw [← hpost]
  generalize hQ : (MQ below (xQ base post) ([.int (nI i), .int (nI n)] : List Value).toArray s 0 0 (xA base)) = Q
  refine lv_iload_n hx hb dJ15_checkIndex_7cf53_0 rfl (lv_at hl 0 rfl) ?_
  refine lv_iload_n hx hb dJ15_checkIndex_7cf53_1 rfl (lv_at hl 1 rfl) ?_
  refine lv_null hx hb dJ15_checkIndex_7cf53_2 ?_
  refine x_callS C hS (c_pidx l (E := E) (base := base) (al := al) (w := w) hi hn) hH kJ3_checkIndex_8e157 qw_330 qw_329  rfl [] rfl hl.1 (Nat.le_of_ble_eq_true rfl) ⟨Nat.le_of_ble_eq_true rfl, Nat.le_of_ble_eq_true rfl⟩ dJ15_checkIndex_7cf53_3 ⟨Nat.le_of_ble_eq_true rfl, Nat.le_of_ble_eq_true rfl⟩ (fun r_2 H locs hp_1 hS => ?_)
  obtain ⟨rfl, hH⟩ := hp_1
  rw [← hQ]
  refine x_reti C rfl hS (Nat.le_of_ble_eq_true rfl) (Nat.le_of_ble_eq_true rfl) dJ15_checkIndex_7cf53_6 ?_
  rw [hpost]
  exact ⟨rfl, hH⟩

set_option maxHeartbeats 4000000 in
set_option maxRecDepth 100000 in
theorem c_edat (l : Launch) {E : xE} {base : Nat} {al : Tg → Nat} {w : Tg → Option va_E} {tL tA : Tg} {mc : Int32} {n cap i v : Nat} {g : Nat → Option Nat} (hL : w tL = some (.inr (0, [.int mc, .ref (al tA), .int (nI n)]))) (hA : w tA = some (.inl (E.2.1 5, cap, .inr (.inr (.inr (.inr g)))))) (hi : i < n) (hc : n ≤ cap) (hn : cap < 1000) (hg : g i = some v) : xMet l yJx4a65c_elementData_915e3 cJx4a65c_elementData_915e3 2 (some ((.object "java/lang/Object"))) ({ frames := 0, cells := 0, slots := 0, locals := 0 } : Room) E base [.ref (al tL), .int (nI i)] (fun H => xH E base al w H) (fun r H => r = some (.ref v) ∧ xH E base al w H) := by
  refine xMet.of (by decide +kernel) "java/util/ArrayList" rfl (Nat.le_of_ble_eq_true rfl) ?_
  intro p9 e9 s m9 below meth c9 ls C hin hP hS hl
  have hx := C.hx
  have hb := C.hb
  have hH := hP
  have hl : lv_has ls 2 [(0, .ref (al tL)), (1, .int (nI i))] := hl
  obtain ⟨post, hpost⟩ : ∃ zz9 : Option Value → Heap → Prop, zz9 = (fun r H => r = some (.ref v) ∧ xH E base al w H) := ⟨_, rfl⟩
  rw [← hpost]
  generalize hQ : (MQ below (xQ base post) ([.ref (al tL), .int (nI i)] : List Value).toArray s 0 0 (xA base)) = Q
  refine lv_aload_n hx hb dJx4a65c_elementData_915e3_0 rfl (lv_at hl 0 rfl) ?_
  refine x_get C hH (ci := 0) (T := TJx4a65c) (N := 3) hL rfl iWJx4a65c 1 (by decide) qw_46 rfl rfl dJx4a65c_elementData_915e3_1 ?_
  refine lv_iload_n hx hb dJx4a65c_elementData_915e3_4 rfl (lv_at hl 1 rfl) ?_
  refine x_aldq C hH 5 rfl hA (j := i) rfl (by omega) (by omega) (v := .ref v) (by rw [hg]; rfl) dJx4a65c_elementData_915e3_5 ?_
  rw [← hQ]
  refine x_reta C (Or.inl ⟨_, rfl⟩) (Or.inr ⟨_, rfl⟩) hS (Nat.le_of_ble_eq_true rfl) (Nat.le_of_ble_eq_true rfl) dJx4a65c_elementData_915e3_6 ?_
  rw [hpost]
  exact ⟨rfl, hH⟩

set_option maxHeartbeats 4000000 in
set_option maxRecDepth 100000 in
theorem c_get (l : Launch) {E : xE} {base : Nat} {al : Tg → Nat} {w : Tg → Option va_E} {tL tA : Tg} {mc : Int32} {n cap i v : Nat} {g : Nat → Option Nat} (hL : w tL = some (.inr (0, [.int mc, .ref (al tA), .int (nI n)]))) (hA : w tA = some (.inl (E.2.1 5, cap, .inr (.inr (.inr (.inr g)))))) (hi : i < n) (hc : n ≤ cap) (hn : cap < 1000) (hg : g i = some v) : xMet l yJx4a65c_get_915e3 cJx4a65c_get_915e3 2 (some ((.object "java/lang/Object"))) ({ frames := 2, cells := 0, slots := 0, locals := 43 } : Room) E base [.ref (al tL), .int (nI i)] (fun H => xH E base al w H) (fun r H => r = some (.ref v) ∧ xH E base al w H) := by
  refine xMet.of (by decide +kernel) "java/util/ArrayList" rfl (Nat.le_of_ble_eq_true rfl) ?_
  intro p9 e9 s m9 below meth c9 ls C hin hP hS hl
  have hx := C.hx
  have hb := C.hb
  have hH := hP
  have hl : lv_has ls 2 [(0, .ref (al tL)), (1, .int (nI i))] := hl
  obtain ⟨post, hpost⟩ : ∃ zz9 : Option Value → Heap → Prop, zz9 = (fun r H => r = some (.ref v) ∧ xH E base al w H) := ⟨_, rfl⟩
  rw [← hpost]
  generalize hQ : (MQ below (xQ base post) ([.ref (al tL), .int (nI i)] : List Value).toArray s 0 0 (xA base)) = Q
  refine lv_iload_n hx hb dJx4a65c_get_915e3_0 rfl (lv_at hl 1 rfl) ?_
  refine lv_aload_n hx hb dJx4a65c_get_915e3_1 rfl (lv_at hl 0 rfl) ?_
  refine x_get C hH (ci := 0) (T := TJx4a65c) (N := 3) hL rfl iWJx4a65c 2 (by decide) qw_47 rfl rfl dJx4a65c_get_915e3_2 ?_
  refine x_callS C hS (c_cidx l (E := E) (base := base) (al := al) (w := w) hi (by omega)) hH kJ15_checkIndex_7cf53 qw_327 qw_326  rfl [] rfl hl.1 (Nat.le_of_ble_eq_true rfl) ⟨Nat.le_of_ble_eq_true rfl, Nat.le_of_ble_eq_true rfl⟩ dJx4a65c_get_915e3_5 ⟨Nat.le_of_ble_eq_true rfl, Nat.le_of_ble_eq_true rfl⟩ (fun r_2 H locs hp_1 hS => ?_)
  obtain ⟨rfl, hH⟩ := hp_1
  refine lv_pop hx hb dJx4a65c_get_915e3_8 rfl ?_
  refine lv_aload_n hx hb dJx4a65c_get_915e3_9 rfl (lv_at hl 0 rfl) ?_
  refine lv_iload_n hx hb dJx4a65c_get_915e3_10 rfl (lv_at hl 1 rfl) ?_
  refine x_callV C hH hS (ci := 0) (t := tL) hL rfl rfl (c_edat l (E := E) (base := base) hL hA hi hc hn hg) hH kJx4a65c_elementData_915e3 qw_333 qw_334 qw_332  rfl [] rfl hl.1 (Nat.le_of_ble_eq_true rfl) ⟨Nat.le_of_ble_eq_true rfl, Nat.le_of_ble_eq_true rfl⟩ dJx4a65c_get_915e3_11 ⟨Nat.le_of_ble_eq_true rfl, Nat.le_of_ble_eq_true rfl⟩ (fun r_4 H locs hp_3 hS => ?_)
  obtain ⟨rfl, hH⟩ := hp_3
  rw [← hQ]
  refine x_reta C (Or.inl ⟨_, rfl⟩) (Or.inr ⟨_, rfl⟩) hS (Nat.le_of_ble_eq_true rfl) (Nat.le_of_ble_eq_true rfl) dJx4a65c_get_915e3_14 ?_
  rw [hpost]
  exact ⟨rfl, hH⟩

set_option maxHeartbeats 4000000 in
set_option maxRecDepth 100000 in
theorem c_rRange (l : Launch) (hfl : l.stackTraces = false) {E : xE} {base : Nat} {al : Tg → Nat} {w : Tg → Option va_E} {v lo hi : Int32} : xMetX l yX6_requireRange cX6_requireRange 3 none ({ frames := 6, cells := 1, slots := 6, locals := 82 } : Room) E base [.int v, .int lo, .int hi] (fun H => xH E base al w H) (fun r H => r = none ∧ (lo ≤ v ∧ v ≤ hi) ∧ xH E base al w H) (fun X H => X = "java/lang/IllegalArgumentException" ∧ ¬ (lo ≤ v ∧ v ≤ hi) ∧ xH E base al w H) := by
  refine xMetX.of (by decide +kernel) "Dataroom" rfl (Nat.le_of_ble_eq_true rfl) ?_
  intro p9 e9 s m9 below meth c9 ls C het hP hS hl
  have hx := C.hx
  have hb := C.hb
  have hH := hP
  have hl : lv_has ls 3 [(0, .int v), (1, .int lo), (2, .int hi)] := hl
  obtain ⟨post, hpost⟩ : ∃ zz9 : Option Value → Heap → Prop, zz9 = (fun r H => r = none ∧ (lo ≤ v ∧ v ≤ hi) ∧ xH E base al w H) := ⟨_, rfl⟩
  obtain ⟨px, hpx⟩ : ∃ zz9 : String → Heap → Prop, zz9 = (fun X H => X = "java/lang/IllegalArgumentException" ∧ ¬ (lo ≤ v ∧ v ≤ hi) ∧ xH E base al w H) := ⟨_, rfl⟩
  rw [← hpost, ← hpx]
  generalize hQ : (vx_MQ below (xQ base post) (xX base px) ([.int v, .int lo, .int hi] : List Value).toArray s 1 6 (xA base)) = Q
  refine lv_iload_n hx hb dX6_requireRange_0 rfl (lv_at hl 0 rfl) ?_
  refine lv_iload_n hx hb dX6_requireRange_1 rfl (lv_at hl 1 rfl) ?_
  refine lv_icmp_lt (tgt := 10) hx hb dX6_requireRange_2 (by decide) (fun c_1 => ?_) (fun c_1 => ?_)
  · skip
    rw [← hQ]
    refine x_throw C het hfl at_IAE qw_128 qw_10 (List.mem_of_getElem? (i := 0) rfl) (by decide +kernel) hS hl.1 dX6_requireRange_10 dX6_requireRange_13 dX6_requireRange_14 dX6_requireRange_16 dX6_requireRange_19 (Nat.le_of_ble_eq_true rfl) (Nat.le_of_ble_eq_true rfl) (Nat.le_of_ble_eq_true rfl) (Nat.le_of_ble_eq_true rfl) (Nat.le_of_ble_eq_true rfl) (Nat.le_of_ble_eq_true rfl) (fun H1 ho => ?_)
    rw [hpx]
    exact ⟨rfl, fun q => absurd c_1 (Int32.not_lt.mpr q.1), hH.kept ho⟩
  · skip
    refine lv_iload_n hx hb dX6_requireRange_5 rfl (lv_at hl 0 rfl) ?_
    refine lv_iload_n hx hb dX6_requireRange_6 rfl (lv_at hl 2 rfl) ?_
    refine lv_icmp_le (tgt := 20) hx hb dX6_requireRange_7 (by decide) (fun c_2 => ?_) (fun c_2 => ?_)
    · skip
      rw [← hQ]
      refine vx_ret (x_retv C hS (Nat.le_of_ble_eq_true rfl) (Nat.le_of_ble_eq_true rfl) dX6_requireRange_20 ?_)
      rw [hpost]
      exact ⟨rfl, ⟨by have := c_1; have := c_2; exact ⟨Int32.not_lt.mp c_1, c_2⟩, hH⟩⟩
    · skip
      rw [← hQ]
      refine x_throw C het hfl at_IAE qw_128 qw_10 (List.mem_of_getElem? (i := 0) rfl) (by decide +kernel) hS hl.1 dX6_requireRange_10 dX6_requireRange_13 dX6_requireRange_14 dX6_requireRange_16 dX6_requireRange_19 (Nat.le_of_ble_eq_true rfl) (Nat.le_of_ble_eq_true rfl) (Nat.le_of_ble_eq_true rfl) (Nat.le_of_ble_eq_true rfl) (Nat.le_of_ble_eq_true rfl) (Nat.le_of_ble_eq_true rfl) (fun H1 ho => ?_)
      rw [hpx]
      exact ⟨rfl, fun q => c_2 q.2, hH.kept ho⟩

set_option maxHeartbeats 4000000 in
set_option maxRecDepth 100000 in
theorem c_stands (l : Launch) {E : xE} {base : Nat} {al : Tg → Nat} {w : Tg → Option va_E} {t : Tg} {a0 a1 a2 a3 a4 : Int32} {rc : Bool} (ht : w t = some (.inr (1, [.int a0, .int a1, .int a2, .int a3, .int a4, .int (ob rc)]))) {tp : Tg} {pl bu : Int32} {x1 x2 x3 : Nat} (hp : w tp = some (.inr (5, [.int pl, .int bu, .ref x1, .ref x2, .ref x3]))) : xMet l yX0_standsFor cX0_standsFor 2 (some (.boolean)) ({ frames := 0, cells := 0, slots := 0, locals := 0 } : Room) E base [.ref (al t), .ref (al tp)] (fun H => xH E base al w H) (fun r H => r = some (.int (ob (!rc && decide (a0 = pl)))) ∧ xH E base al w H) := by
  refine xMet.of (by decide +kernel) "Dataroom$Answer" rfl (Nat.le_of_ble_eq_true rfl) ?_
  intro p9 e9 s m9 below meth c9 ls C hin hP hS hl
  have hx := C.hx
  have hb := C.hb
  have hH := hP
  have hl : lv_has ls 2 [(0, .ref (al t)), (1, .ref (al tp))] := hl
  obtain ⟨post, hpost⟩ : ∃ zz9 : Option Value → Heap → Prop, zz9 = (fun r H => r = some (.int (ob (!rc && decide (a0 = pl)))) ∧ xH E base al w H) := ⟨_, rfl⟩
  rw [← hpost]
  generalize hQ : (MQ below (xQ base post) ([.ref (al t), .ref (al tp)] : List Value).toArray s 0 0 (xA base)) = Q
  refine lv_aload_n hx hb dX0_standsFor_0 rfl (lv_at hl 0 rfl) ?_
  refine x_get C hH (ci := 1) (T := TX0) (N := 6) ht rfl iWX0 5 (by decide) qw_559 rfl rfl dX0_standsFor_1 ?_
  refine lv_if_ne (tgt := 22) hx hb dX0_standsFor_4 (by decide) (fun c_1 => ?_) (fun c_1 => ?_)
  · skip
    replace c_1 := ob_n.mp c_1
    refine lv_iconst (v := nI 0) hx hb dX0_standsFor_22 (by decide +kernel) ?_
    rw [← hQ]
    refine x_reti C rfl hS (Nat.le_of_ble_eq_true rfl) (Nat.le_of_ble_eq_true rfl) dX0_standsFor_23 ?_
    rw [hpost]
    exact ⟨by simp only [c_1]; rfl, hH⟩
  · skip
    replace c_1 := ob_0.mp c_1
    refine lv_aload_n hx hb dX0_standsFor_7 rfl (lv_at hl 0 rfl) ?_
    refine x_get C hH (ci := 1) (T := TX0) (N := 6) ht rfl iWX0 0 (by decide) qw_552 rfl rfl dX0_standsFor_8 ?_
    refine lv_aload_n hx hb dX0_standsFor_11 rfl (lv_at hl 1 rfl) ?_
    refine x_getN C hH (ci := 5) (T := TX4) (N := 5) hp rfl iWX4 0 (by decide) nw_392 rfl rfl dX0_standsFor_12 ?_
    refine lv_icmp_ne (tgt := 22) hx hb dX0_standsFor_15 (by decide) (fun c_2 => ?_) (fun c_2 => ?_)
    · skip
      refine lv_iconst (v := nI 0) hx hb dX0_standsFor_22 (by decide +kernel) ?_
      rw [← hQ]
      refine x_reti C rfl hS (Nat.le_of_ble_eq_true rfl) (Nat.le_of_ble_eq_true rfl) dX0_standsFor_23 ?_
      rw [hpost]
      exact ⟨by simp only [c_1, c_2]; rfl, hH⟩
    · skip
      refine lv_iconst (v := nI 1) hx hb dX0_standsFor_18 (by decide +kernel) ?_
      refine lv_goto (tgt := 23) hx hb dX0_standsFor_19 (by decide) ?_
      rw [← hQ]
      refine x_reti C rfl hS (Nat.le_of_ble_eq_true rfl) (Nat.le_of_ble_eq_true rfl) dX0_standsFor_23 ?_
      rw [hpost]
      exact ⟨by simp only [c_1, c_2]; rfl, hH⟩

set_option maxHeartbeats 4000000 in
set_option maxRecDepth 100000 in
theorem c_closed (l : Launch) {E : xE} {base : Nat} {al : Tg → Nat} {w : Tg → Option va_E} {t : Tg} {c0 c1 : Int32} (ht : w t = some (.inr (2, [.int c0, .int c1]))) {h : Int32} : xMet l yX1_isClosedIn cX1_isClosedIn 2 (some (.boolean)) ({ frames := 0, cells := 0, slots := 0, locals := 0 } : Room) E base [.ref (al t), .int h] (fun H => xH E base al w H) (fun r H => r = some (.int (ob (decide (h ≤ c1)))) ∧ xH E base al w H) := by
  refine xMet.of (by decide +kernel) "Dataroom$Card" rfl (Nat.le_of_ble_eq_true rfl) ?_
  intro p9 e9 s m9 below meth c9 ls C hin hP hS hl
  have hx := C.hx
  have hb := C.hb
  have hH := hP
  have hl : lv_has ls 2 [(0, .ref (al t)), (1, .int h)] := hl
  obtain ⟨post, hpost⟩ : ∃ zz9 : Option Value → Heap → Prop, zz9 = (fun r H => r = some (.int (ob (decide (h ≤ c1)))) ∧ xH E base al w H) := ⟨_, rfl⟩
  rw [← hpost]
  generalize hQ : (MQ below (xQ base post) ([.ref (al t), .int h] : List Value).toArray s 0 0 (xA base)) = Q
  refine lv_iload_n hx hb dX1_isClosedIn_0 rfl (lv_at hl 1 rfl) ?_
  refine lv_aload_n hx hb dX1_isClosedIn_1 rfl (lv_at hl 0 rfl) ?_
  refine x_get C hH (ci := 2) (T := TX1) (N := 2) ht rfl iWX1 1 (by decide) qw_224 rfl rfl dX1_isClosedIn_2 ?_
  refine lv_icmp_gt (tgt := 12) hx hb dX1_isClosedIn_5 (by decide) (fun c_1 => ?_) (fun c_1 => ?_)
  · skip
    refine lv_iconst (v := nI 0) hx hb dX1_isClosedIn_12 (by decide +kernel) ?_
    rw [← hQ]
    refine x_reti C rfl hS (Nat.le_of_ble_eq_true rfl) (Nat.le_of_ble_eq_true rfl) dX1_isClosedIn_13 ?_
    rw [hpost]
    exact ⟨by rw [show decide (h ≤ c1) = false from decide_eq_false (Int32.not_le.mpr c_1)]; rfl, hH⟩
  · skip
    refine lv_iconst (v := nI 1) hx hb dX1_isClosedIn_8 (by decide +kernel) ?_
    refine lv_goto (tgt := 13) hx hb dX1_isClosedIn_9 (by decide) ?_
    rw [← hQ]
    refine x_reti C rfl hS (Nat.le_of_ble_eq_true rfl) (Nat.le_of_ble_eq_true rfl) dX1_isClosedIn_13 ?_
    rw [hpost]
    exact ⟨by rw [show decide (h ≤ c1) = true from decide_eq_true (Int32.not_lt.mp c_1)]; rfl, hH⟩

set_option maxHeartbeats 4000000 in
set_option maxRecDepth 100000 in
theorem c_in (l : Launch) {E : xE} {base : Nat} {al : Tg → Nat} {w : Tg → Option va_E} {t : Tg} {k a b : Int32} (ht : w t = some (.inr (6, [.int k, .int a, .int b]))) {h : Int32} : xMet l yX5_in cX5_in 2 (some (.int)) ({ frames := 0, cells := 0, slots := 0, locals := 0 } : Room) E base [.ref (al t), .int h] (fun H => xH E base al w H) (fun r H => r = some (.int (if a ≤ h ∧ h ≤ b then k else nI 0)) ∧ xH E base al w H) := by
  refine xMet.of (by decide +kernel) "Dataroom$Right" rfl (Nat.le_of_ble_eq_true rfl) ?_
  intro p9 e9 s m9 below meth c9 ls C hin hP hS hl
  have hx := C.hx
  have hb := C.hb
  have hH := hP
  have hl : lv_has ls 2 [(0, .ref (al t)), (1, .int h)] := hl
  obtain ⟨post, hpost⟩ : ∃ zz9 : Option Value → Heap → Prop, zz9 = (fun r H => r = some (.int (if a ≤ h ∧ h ≤ b then k else nI 0)) ∧ xH E base al w H) := ⟨_, rfl⟩
  rw [← hpost]
  generalize hQ : (MQ below (xQ base post) ([.ref (al t), .int h] : List Value).toArray s 0 0 (xA base)) = Q
  refine lv_aload_n hx hb dX5_in_0 rfl (lv_at hl 0 rfl) ?_
  refine x_get C hH (ci := 6) (T := TX5) (N := 3) ht rfl iWX5 1 (by decide) qw_437 rfl rfl dX5_in_1 ?_
  refine lv_iload_n hx hb dX5_in_4 rfl (lv_at hl 1 rfl) ?_
  refine lv_icmp_gt (tgt := 23) hx hb dX5_in_5 (by decide) (fun c_1 => ?_) (fun c_1 => ?_)
  · skip
    refine lv_iconst (v := nI 0) hx hb dX5_in_23 (by decide +kernel) ?_
    rw [← hQ]
    refine x_reti C rfl hS (Nat.le_of_ble_eq_true rfl) (Nat.le_of_ble_eq_true rfl) dX5_in_24 ?_
    rw [hpost]
    exact ⟨by rw [if_neg fun q => absurd c_1 (Int32.not_lt.mpr q.1)], hH⟩
  · skip
    refine lv_iload_n hx hb dX5_in_8 rfl (lv_at hl 1 rfl) ?_
    refine lv_aload_n hx hb dX5_in_9 rfl (lv_at hl 0 rfl) ?_
    refine x_get C hH (ci := 6) (T := TX5) (N := 3) ht rfl iWX5 2 (by decide) qw_438 rfl rfl dX5_in_10 ?_
    refine lv_icmp_gt (tgt := 23) hx hb dX5_in_13 (by decide) (fun c_2 => ?_) (fun c_2 => ?_)
    · skip
      refine lv_iconst (v := nI 0) hx hb dX5_in_23 (by decide +kernel) ?_
      rw [← hQ]
      refine x_reti C rfl hS (Nat.le_of_ble_eq_true rfl) (Nat.le_of_ble_eq_true rfl) dX5_in_24 ?_
      rw [hpost]
      exact ⟨by rw [if_neg fun q => absurd c_2 (Int32.not_lt.mpr q.2)], hH⟩
    · skip
      refine lv_aload_n hx hb dX5_in_16 rfl (lv_at hl 0 rfl) ?_
      refine x_get C hH (ci := 6) (T := TX5) (N := 3) ht rfl iWX5 0 (by decide) qw_436 rfl rfl dX5_in_17 ?_
      refine lv_goto (tgt := 24) hx hb dX5_in_20 (by decide) ?_
      rw [← hQ]
      refine x_reti C rfl hS (Nat.le_of_ble_eq_true rfl) (Nat.le_of_ble_eq_true rfl) dX5_in_24 ?_
      rw [hpost]
      exact ⟨by rw [if_pos ⟨Int32.not_lt.mp c_1, Int32.not_lt.mp c_2⟩], hH⟩
