def tlv (a b c d e g : Int32) : Nat → Int32
  | 0 => a | 1 => b | 2 => c | 3 => d | 4 => g | _ => e
theorem rg_of {z : Int32} {n : Nat} (hn : n < 2 ^ 31) (h : nI 0 ≤ z ∧ z ≤ nI n) : ∃ k, k ≤ n ∧ z = nI k := by
  obtain ⟨j, hj, rfl⟩ := nI_of (x := z) (Int32.not_lt.mpr h.1)
  exact ⟨j, (nI_leI hj hn).mp h.2, rfl⟩
set_option maxHeartbeats 4000000 in
set_option maxRecDepth 100000 in
theorem c_tell (l : Launch) {E : xE} {base : Nat} {al : Tg → Nat} {w : Tg → Option va_E} {t : Tg} {a b c d e : Int32} {g : Bool} {k : Nat} (hk : k ≤ 5) (ht : w t = some (.inr (1, [.int a, .int b, .int c, .int d, .int e, .int (ob g)]))) : xMet l yX0_tell cX0_tell 2 (some (.int)) ({ frames := 0, cells := 0, slots := 0, locals := 0 } : Room) E base [.ref (al t), .int (nI k)] (fun H => xH E base al w H) (fun r H => r = some (.int (tlv a b c d e (ob g) k)) ∧ xH E base al w H) := by
  refine xMet.of (by decide +kernel) "Dataroom$Answer" rfl (Nat.le_of_ble_eq_true rfl) ?_
  intro p9 e9 s m9 below meth c9 ls C hin hP hS hl
  have hx := C.hx
  have hb := C.hb
  have hH := hP
  have hl : lv_has ls 2 [(0, .ref (al t)), (1, .int (nI k))] := hl
  obtain ⟨post, hpost⟩ : ∃ zz9 : Option Value → Heap → Prop, zz9 = (fun r H => r = some (.int (tlv a b c d e (ob g) k)) ∧ xH E base al w H) := ⟨_, rfl⟩
  rw [← hpost]
  generalize hQ : (MQ below (xQ base post) ([.ref (al t), .int (nI k)] : List Value).toArray s 0 0 (xA base)) = Q
  rcases (show k = 0 ∨ k = 1 ∨ k = 2 ∨ k = 3 ∨ k = 4 ∨ k = 5 by omega) with rfl | rfl | rfl | rfl | rfl | rfl
  · skip
    refine lv_iload_n hx hb dX0_tell_0 rfl (lv_at hl 1 rfl) ?_
    refine lv_tableIn (tgt := 36) (off := 35) hx hb dX0_tell_1 (by decide +kernel) (by decide +kernel) rfl rfl ?_
    refine lv_aload_n hx hb dX0_tell_36 rfl (lv_at hl 0 rfl) ?_
    refine x_get C hH (ci := 1) (T := TX0) (N := 6) ht rfl iWX0 0 (by decide) qw_552 rfl rfl dX0_tell_37 ?_
    rw [← hQ]
    refine x_reti C rfl hS (Nat.le_of_ble_eq_true rfl) (Nat.le_of_ble_eq_true rfl) dX0_tell_40 ?_
    rw [hpost]
    exact ⟨rfl, hH⟩
  · skip
    refine lv_iload_n hx hb dX0_tell_0 rfl (lv_at hl 1 rfl) ?_
    refine lv_tableIn (tgt := 41) (off := 40) hx hb dX0_tell_1 (by decide +kernel) (by decide +kernel) rfl rfl ?_
    refine lv_aload_n hx hb dX0_tell_41 rfl (lv_at hl 0 rfl) ?_
    refine x_get C hH (ci := 1) (T := TX0) (N := 6) ht rfl iWX0 1 (by decide) qw_553 rfl rfl dX0_tell_42 ?_
    rw [← hQ]
    refine x_reti C rfl hS (Nat.le_of_ble_eq_true rfl) (Nat.le_of_ble_eq_true rfl) dX0_tell_45 ?_
    rw [hpost]
    exact ⟨rfl, hH⟩
  · skip
    refine lv_iload_n hx hb dX0_tell_0 rfl (lv_at hl 1 rfl) ?_
    refine lv_tableIn (tgt := 46) (off := 45) hx hb dX0_tell_1 (by decide +kernel) (by decide +kernel) rfl rfl ?_
    refine lv_aload_n hx hb dX0_tell_46 rfl (lv_at hl 0 rfl) ?_
    refine x_get C hH (ci := 1) (T := TX0) (N := 6) ht rfl iWX0 2 (by decide) qw_555 rfl rfl dX0_tell_47 ?_
    rw [← hQ]
    refine x_reti C rfl hS (Nat.le_of_ble_eq_true rfl) (Nat.le_of_ble_eq_true rfl) dX0_tell_50 ?_
    rw [hpost]
    exact ⟨rfl, hH⟩
  · skip
    refine lv_iload_n hx hb dX0_tell_0 rfl (lv_at hl 1 rfl) ?_
    refine lv_tableIn (tgt := 51) (off := 50) hx hb dX0_tell_1 (by decide +kernel) (by decide +kernel) rfl rfl ?_
    refine lv_aload_n hx hb dX0_tell_51 rfl (lv_at hl 0 rfl) ?_
    refine x_get C hH (ci := 1) (T := TX0) (N := 6) ht rfl iWX0 3 (by decide) qw_557 rfl rfl dX0_tell_52 ?_
    rw [← hQ]
    refine x_reti C rfl hS (Nat.le_of_ble_eq_true rfl) (Nat.le_of_ble_eq_true rfl) dX0_tell_55 ?_
    rw [hpost]
    exact ⟨rfl, hH⟩
  · skip
    refine lv_iload_n hx hb dX0_tell_0 rfl (lv_at hl 1 rfl) ?_
    refine lv_tableIn (tgt := 56) (off := 55) hx hb dX0_tell_1 (by decide +kernel) (by decide +kernel) rfl rfl ?_
    refine lv_aload_n hx hb dX0_tell_56 rfl (lv_at hl 0 rfl) ?_
    refine x_get C hH (ci := 1) (T := TX0) (N := 6) ht rfl iWX0 5 (by decide) qw_559 rfl rfl dX0_tell_57 ?_
    refine lv_if_eq (tgt := 67) hx hb dX0_tell_60 (by decide) (fun c_1 => ?_) (fun c_1 => ?_)
    · skip
      replace c_1 := ob_0.mp c_1
      refine lv_iconst (v := nI 0) hx hb dX0_tell_67 (by decide +kernel) ?_
      rw [← hQ]
      refine x_reti C rfl hS (Nat.le_of_ble_eq_true rfl) (Nat.le_of_ble_eq_true rfl) dX0_tell_68 ?_
      rw [hpost]
      exact ⟨by show some (Value.int (nI 0)) = some (Value.int (ob g)); rw [c_1]; rfl, hH⟩
    · skip
      replace c_1 := ob_n.mp c_1
      refine lv_iconst (v := nI 1) hx hb dX0_tell_63 (by decide +kernel) ?_
      refine lv_goto (tgt := 68) hx hb dX0_tell_64 (by decide) ?_
      rw [← hQ]
      refine x_reti C rfl hS (Nat.le_of_ble_eq_true rfl) (Nat.le_of_ble_eq_true rfl) dX0_tell_68 ?_
      rw [hpost]
      exact ⟨by show some (Value.int (nI 1)) = some (Value.int (ob g)); rw [c_1]; rfl, hH⟩
  · skip
    refine lv_iload_n hx hb dX0_tell_0 rfl (lv_at hl 1 rfl) ?_
    refine lv_tableOut (tgt := 69) hx hb dX0_tell_1 (by decide +kernel) rfl ?_
    refine lv_aload_n hx hb dX0_tell_69 rfl (lv_at hl 0 rfl) ?_
    refine x_get C hH (ci := 1) (T := TX0) (N := 6) ht rfl iWX0 4 (by decide) qw_558 rfl rfl dX0_tell_70 ?_
    rw [← hQ]
    refine x_reti C rfl hS (Nat.le_of_ble_eq_true rfl) (Nat.le_of_ble_eq_true rfl) dX0_tell_73 ?_
    rw [hpost]
    exact ⟨rfl, hH⟩

set_option maxHeartbeats 4000000 in
set_option maxRecDepth 100000 in
theorem c_answer (l : Launch) (hfl : l.stackTraces = false) {E : xE} {base : Nat} {al : Tg → Nat} {w : Tg → Option va_E} {nf np na nw : Nat} {sg : Nat → Nat → Nat → Int32} {rc : Nat → Bool} (hR : RM E al w nf np na nw sg rc) (hI : INV nf np na nw sg rc) {x z : Int32} : xMetX l yX6_answer cX6_answer 3 (some (.int)) ({ frames := 7, cells := 1, slots := 6, locals := 104 } : Room) E base [.ref (al (0, 0, 0)), .int x, .int z] (fun H => xH E base al w H) (fun r H => ∃ a k, a < na ∧ k ≤ 5 ∧ x = nI a ∧ z = nI k ∧ r = some (.int (tlv (sg 7 a 0) (sg 8 a 0) (sg 9 a 0) (sg 10 a 0) (sg 11 a 0) (ob (rc a)) k)) ∧ xH E base al w H) (fun X H => ((X = "java/lang/IndexOutOfBoundsException" ∧ ¬ inR x na) ∨ (X = "java/lang/IllegalArgumentException" ∧ inR x na ∧ ¬ (nI 0 ≤ z ∧ z ≤ nI 5))) ∧ xH E base al w H) := by
  refine xMetX.of (by decide +kernel) "Dataroom" rfl (Nat.le_of_ble_eq_true rfl) ?_
  intro p9 e9 s m9 below meth c9 ls C het hP hS hl
  have hx := C.hx
  have hb := C.hb
  have hH := hP
  have hl : lv_has ls 3 [(0, .ref (al (0, 0, 0))), (1, .int x), (2, .int z)] := hl
  obtain ⟨post, hpost⟩ : ∃ zz9 : Option Value → Heap → Prop, zz9 = (fun r H => ∃ a k, a < na ∧ k ≤ 5 ∧ x = nI a ∧ z = nI k ∧ r = some (.int (tlv (sg 7 a 0) (sg 8 a 0) (sg 9 a 0) (sg 10 a 0) (sg 11 a 0) (ob (rc a)) k)) ∧ xH E base al w H) := ⟨_, rfl⟩
  obtain ⟨px, hpx⟩ : ∃ zz9 : String → Heap → Prop, zz9 = (fun X H => ((X = "java/lang/IndexOutOfBoundsException" ∧ ¬ inR x na) ∨ (X = "java/lang/IllegalArgumentException" ∧ inR x na ∧ ¬ (nI 0 ≤ z ∧ z ≤ nI 5))) ∧ xH E base al w H) := ⟨_, rfl⟩
  rw [← hpost, ← hpx]
  generalize hQ : (vx_MQ below (xQ base post) (xX base px) ([.ref (al (0, 0, 0)), .int x, .int z] : List Value).toArray s 1 6 (xA base)) = Q
  have hR0 := hR
  have hI0 := hI
  obtain ⟨hX, hF, hPl, hAl, hSh, hMk, hC, hPT, hAn⟩ := hR
  obtain ⟨mcF, aF, hLF⟩ := hF.sz
  obtain ⟨mcP, aP, hLP⟩ := hPl.sz
  obtain ⟨mcA, aA, hLA⟩ := hAl.sz
  obtain ⟨v16, v6, v150, vnow, vA, vS, vP, vK, vR⟩ := hI
  refine lv_iload_n hx hb dX6_answer_0 rfl (lv_at hl 1 rfl) ?_
  refine lv_if_lt (tgt := 15) hx hb dX6_answer_1 (by decide) (fun c_1 => ?_) (fun c_1 => ?_)
  · skip
    rw [← hQ]
    refine x_throw C het hfl at_IOB qw_306 qw_17 (List.mem_of_getElem? (i := 7) rfl) (by decide +kernel) hS hl.1 dX6_answer_15 dX6_answer_18 dX6_answer_19 dX6_answer_21 dX6_answer_24 (Nat.le_of_ble_eq_true rfl) (Nat.le_of_ble_eq_true rfl) (Nat.le_of_ble_eq_true rfl) (Nat.le_of_ble_eq_true rfl) (Nat.le_of_ble_eq_true rfl) (Nat.le_of_ble_eq_true rfl) (fun H1 ho => ?_)
    rw [hpx]
    exact ⟨Or.inl ⟨rfl, inR_no (by omega) (Or.inl c_1)⟩, hH.kept ho⟩
  · skip
    refine lv_iload_n hx hb dX6_answer_4 rfl (lv_at hl 1 rfl) ?_
    refine lv_aload_n hx hb dX6_answer_5 rfl (lv_at hl 0 rfl) ?_
    refine x_get C hH (ci := 7) (T := TX6) (N := 6) hX rfl iWX6 2 (by decide) qw_89 rfl rfl dX6_answer_6 ?_
    refine x_callV C hH hS (ci := 0) (t := (0, 3, 0)) hLA rfl rfl (c_size l (E := E) (base := base) (al := al) hLA) hH kJx4a65c_size_8abf5 qw_197 qw_198 qw_196  rfl [.int x] rfl hl.1 (Nat.le_of_ble_eq_true rfl) ⟨Nat.le_of_ble_eq_true rfl, Nat.le_of_ble_eq_true rfl⟩ dX6_answer_9 ⟨Nat.le_of_ble_eq_true rfl, Nat.le_of_ble_eq_true rfl⟩ (fun r_3 H locs hp_2 hS => ?_)
    obtain ⟨rfl, hH⟩ := hp_2
    refine lv_icmp_lt (tgt := 25) hx hb dX6_answer_12 (by decide) (fun c_4 => ?_) (fun c_4 => ?_)
    · skip
      obtain ⟨a, ha, rfl⟩ := inR_of (n := na) (by omega) c_1 c_4
      refine lv_iload_n hx hb dX6_answer_25 rfl (lv_at hl 2 rfl) ?_
      refine lv_iconst (v := nI 0) hx hb dX6_answer_26 (by decide +kernel) ?_
      refine lv_iconst (v := nI 5) hx hb dX6_answer_27 (by decide +kernel) ?_
      refine x_thrS C hS (c_rRange l hfl (E := E) (base := base) (al := al) (w := w) (v := z) (lo := nI 0) (hi := nI 5)) hH kX6_requireRange qw_126 qw_125  rfl [] rfl hl.1 (Nat.le_of_ble_eq_true rfl) ⟨Nat.le_of_ble_eq_true rfl, Nat.le_of_ble_eq_true rfl⟩ dX6_answer_28 ⟨Nat.le_of_ble_eq_true rfl, Nat.le_of_ble_eq_true rfl⟩ (fun X ce q9 H locs hp_5 hS hce hcv hcl => ?_) (fun r_6 H locs hp_5 hS => ?_)
      · skip
        obtain ⟨rfl, hno, hH⟩ := hp_5
        rw [← hQ]
        refine x_outX C het hS hce hcv hcl (Nat.le_of_ble_eq_true rfl) (Nat.le_of_ble_eq_true rfl) ?_
        rw [hpx]
        exact ⟨Or.inr ⟨rfl, ⟨a, ha, rfl⟩, hno⟩, hH⟩
      · skip
        obtain ⟨rfl, rg_7, hH⟩ := hp_5
        obtain ⟨k, hk, rfl⟩ := rg_of (n := 5) (by omega) rg_7
        refine lv_aload_n hx hb dX6_answer_31 rfl (lv_at hl 0 rfl) ?_
        refine x_get C hH (ci := 7) (T := TX6) (N := 6) hX rfl iWX6 2 (by decide) qw_89 rfl rfl dX6_answer_32 ?_
        refine lv_iload_n hx hb dX6_answer_35 rfl (lv_at hl 1 rfl) ?_
        obtain ⟨mcz_8, capz_8, gz_8, a1z_8, a2z_8, a3z_8, a4z_8, a5z_8⟩ := hAl.at (i := a) (by omega)
        refine x_callV C hH hS (ci := 0) (t := (0, 3, 0)) a1z_8 rfl rfl (c_get l (E := E) (base := base) a1z_8 a2z_8 (i := a) (by omega) a3z_8 a4z_8 a5z_8) hH kJx4a65c_get_915e3 qw_323 qw_324 qw_322  rfl [] rfl hl.1 (Nat.le_of_ble_eq_true rfl) ⟨Nat.le_of_ble_eq_true rfl, Nat.le_of_ble_eq_true rfl⟩ dX6_answer_36 ⟨Nat.le_of_ble_eq_true rfl, Nat.le_of_ble_eq_true rfl⟩ (fun r_10 H locs hp_9 hS => ?_)
        obtain ⟨rfl, hH⟩ := hp_9
        refine x_cast C hH (ci := 1) (hAn a (by omega)) rfl qw_341 dX6_answer_39 ?_
        refine lv_iload_n hx hb dX6_answer_42 rfl (lv_at hl 2 rfl) ?_
        refine x_callV C hH hS (ci := 1) (t := (6, a, 0)) (hAn a (by omega)) rfl rfl (c_tell l (E := E) (base := base) hk (hAn a (by omega))) hH kX0_tell qw_590 qw_591 qw_589  rfl [] rfl hl.1 (Nat.le_of_ble_eq_true rfl) ⟨Nat.le_of_ble_eq_true rfl, Nat.le_of_ble_eq_true rfl⟩ dX6_answer_43 ⟨Nat.le_of_ble_eq_true rfl, Nat.le_of_ble_eq_true rfl⟩ (fun r_12 H locs hp_11 hS => ?_)
        obtain ⟨rfl, hH⟩ := hp_11
        rw [← hQ]
        refine vx_ret (x_reti C rfl hS (Nat.le_of_ble_eq_true rfl) (Nat.le_of_ble_eq_true rfl) dX6_answer_46 ?_)
        rw [hpost]
        exact ⟨a, k, ha, hk, rfl, rfl, rfl, hH⟩
    · skip
      rw [← hQ]
      refine x_throw C het hfl at_IOB qw_306 qw_17 (List.mem_of_getElem? (i := 7) rfl) (by decide +kernel) hS hl.1 dX6_answer_15 dX6_answer_18 dX6_answer_19 dX6_answer_21 dX6_answer_24 (Nat.le_of_ble_eq_true rfl) (Nat.le_of_ble_eq_true rfl) (Nat.le_of_ble_eq_true rfl) (Nat.le_of_ble_eq_true rfl) (Nat.le_of_ble_eq_true rfl) (Nat.le_of_ble_eq_true rfl) (fun H1 ho => ?_)
      rw [hpx]
      exact ⟨Or.inl ⟨rfl, inR_no (by omega) (Or.inr c_4)⟩, hH.kept ho⟩

set_option maxHeartbeats 4000000 in
set_option maxRecDepth 100000 in
theorem c_count (l : Launch) (hfl : l.stackTraces = false) {E : xE} {base : Nat} {al : Tg → Nat} {w : Tg → Option va_E} {nf np na nw : Nat} {sg : Nat → Nat → Nat → Int32} {rc : Nat → Bool} (hR : RM E al w nf np na nw sg rc) (hI : INV nf np na nw sg rc) {x z : Int32} : xMetX l yX6_count cX6_count 4 (some (.int)) ({ frames := 7, cells := 2, slots := 12, locals := 104 } : Room) E base [.ref (al (0, 0, 0)), .int x, .int z] (fun H => xH E base al w H) (fun r H => ∃ p k, p < np ∧ k ≤ 5 ∧ x = nI p ∧ z = nI k ∧ r = some (.int (if k = 5 then nI (cSt sg rc p na) else sg 13 p k)) ∧ xH E base al w H) (fun X H => ((X = "java/lang/IndexOutOfBoundsException" ∧ ¬ inR x np) ∨ (X = "java/lang/IllegalArgumentException" ∧ inR x np ∧ ¬ (nI 0 ≤ z ∧ z ≤ nI 5))) ∧ xH E base al w H) := by
  refine xMetX.of (by decide +kernel) "Dataroom" rfl (Nat.le_of_ble_eq_true rfl) ?_
  intro p9 e9 s m9 below meth c9 ls C het hP hS hl
  have hx := C.hx
  have hb := C.hb
  have hH := hP
  have hl : lv_has ls 4 [(0, .ref (al (0, 0, 0))), (1, .int x), (2, .int z)] := hl
  obtain ⟨post, hpost⟩ : ∃ zz9 : Option Value → Heap → Prop, zz9 = (fun r H => ∃ p k, p < np ∧ k ≤ 5 ∧ x = nI p ∧ z = nI k ∧ r = some (.int (if k = 5 then nI (cSt sg rc p na) else sg 13 p k)) ∧ xH E base al w H) := ⟨_, rfl⟩
  obtain ⟨px, hpx⟩ : ∃ zz9 : String → Heap → Prop, zz9 = (fun X H => ((X = "java/lang/IndexOutOfBoundsException" ∧ ¬ inR x np) ∨ (X = "java/lang/IllegalArgumentException" ∧ inR x np ∧ ¬ (nI 0 ≤ z ∧ z ≤ nI 5))) ∧ xH E base al w H) := ⟨_, rfl⟩
  rw [← hpost, ← hpx]
  generalize hQ : (vx_MQ below (xQ base post) (xX base px) ([.ref (al (0, 0, 0)), .int x, .int z] : List Value).toArray s 2 12 (xA base)) = Q
  have hR0 := hR
  have hI0 := hI
  obtain ⟨hX, hF, hPl, hAl, hSh, hMk, hC, hPT, hAn⟩ := hR
  obtain ⟨mcF, aF, hLF⟩ := hF.sz
  obtain ⟨mcP, aP, hLP⟩ := hPl.sz
  obtain ⟨mcA, aA, hLA⟩ := hAl.sz
  obtain ⟨v16, v6, v150, vnow, vA, vS, vP, vK, vR⟩ := hI
  refine lv_aload_n hx hb dX6_count_0 rfl (lv_at hl 0 rfl) ?_
  refine lv_iload_n hx hb dX6_count_1 rfl (lv_at hl 1 rfl) ?_
  refine x_thrV C hH hS (ci := 7) (t := (0, 0, 0)) hX rfl rfl (c_pAt l hfl (E := E) (base := base) hR0 hI0 (x := x)) hH kX6_partyAt qw_420 (ws_p (List.mem_of_getElem? (i := 8) rfl) rfl) qw_418  rfl [] rfl hl.1 (Nat.le_of_ble_eq_true rfl) ⟨Nat.le_of_ble_eq_true rfl, Nat.le_of_ble_eq_true rfl⟩ dX6_count_2 ⟨Nat.le_of_ble_eq_true rfl, Nat.le_of_ble_eq_true rfl⟩ (fun X ce q9 H locs hp_1 hS hce hcv hcl => ?_) (fun r_2 H locs hp_1 hS => ?_)
  · skip
    obtain ⟨rfl, hno, hH⟩ := hp_1
    rw [← hQ]
    refine x_outX C het hS hce hcv hcl (Nat.le_of_ble_eq_true rfl) (Nat.le_of_ble_eq_true rfl) ?_
    rw [hpx]
    exact ⟨Or.inl ⟨rfl, hno⟩, hH⟩
  · skip
    obtain ⟨p_3, hp_3, rfl, rfl, hH⟩ := hp_1
    refine lv_astore_n (lv' := [(3, .ref (al (2, p_3, 0))), (0, .ref (al (0, 0, 0))), (1, .int (nI p_3)), (2, .int z)]) hx hb dX6_count_5 rfl hl (by decide) rfl (fun ls hl => ?_)
    refine lv_iload_n hx hb dX6_count_6 rfl (lv_at hl 3 rfl) ?_
    refine lv_iconst (v := nI 0) hx hb dX6_count_7 (by decide +kernel) ?_
    refine lv_iconst (v := nI 5) hx hb dX6_count_8 (by decide +kernel) ?_
    refine x_thrS C hS (c_rRange l hfl (E := E) (base := base) (al := al) (w := w) (v := z) (lo := nI 0) (hi := nI 5)) hH kX6_requireRange qw_126 qw_125  rfl [] rfl hl.1 (Nat.le_of_ble_eq_true rfl) ⟨Nat.le_of_ble_eq_true rfl, Nat.le_of_ble_eq_true rfl⟩ dX6_count_9 ⟨Nat.le_of_ble_eq_true rfl, Nat.le_of_ble_eq_true rfl⟩ (fun X ce q9 H locs hp_4 hS hce hcv hcl => ?_) (fun r_5 H locs hp_4 hS => ?_)
    · skip
      obtain ⟨rfl, hno, hH⟩ := hp_4
      rw [← hQ]
      refine x_outX C het hS hce hcv hcl (Nat.le_of_ble_eq_true rfl) (Nat.le_of_ble_eq_true rfl) ?_
      rw [hpx]
      exact ⟨Or.inr ⟨rfl, ⟨p_3, hp_3, rfl⟩, hno⟩, hH⟩
    · skip
      obtain ⟨rfl, rg_6, hH⟩ := hp_4
      obtain ⟨k, hk, rfl⟩ := rg_of (n := 5) (by omega) rg_6
      refine lv_iload_n hx hb dX6_count_12 rfl (lv_at hl 3 rfl) ?_
      refine lv_iconst (v := nI 5) hx hb dX6_count_13 (by decide +kernel) ?_
      refine lv_icmp_ne (tgt := 25) hx hb dX6_count_14 (by decide) (fun c_7 => ?_) (fun c_7 => ?_)
      · skip
        replace c_7 := mt (nI_eq (by omega) (by omega)).mpr c_7
        refine lv_aload_n hx hb dX6_count_25 rfl (lv_at hl 0 rfl) ?_
        refine lv_iload_n hx hb dX6_count_26 rfl (lv_at hl 3 rfl) ?_
        refine x_callV C hH hS (ci := 5) (t := (2, p_3, 0)) (hPT p_3 (by omega)).1 rfl rfl (c_questions l (E := E) (base := base) (hPT p_3 (by omega)) (k := k) (by omega)) hH kX4_questions qw_651 qw_652 qw_650  rfl [] rfl hl.1 (Nat.le_of_ble_eq_true rfl) ⟨Nat.le_of_ble_eq_true rfl, Nat.le_of_ble_eq_true rfl⟩ dX6_count_27 ⟨Nat.le_of_ble_eq_true rfl, Nat.le_of_ble_eq_true rfl⟩ (fun r_9 H locs hp_8 hS => ?_)
        obtain ⟨rfl, hH⟩ := hp_8
        rw [← hQ]
        refine vx_ret (x_reti C rfl hS (Nat.le_of_ble_eq_true rfl) (Nat.le_of_ble_eq_true rfl) dX6_count_30 ?_)
        rw [hpost]
        exact ⟨p_3, k, hp_3, hk, rfl, rfl, by rw [if_neg c_7], hH⟩
      · skip
        replace c_7 := (nI_eq (by omega) (by omega)).mp c_7
        refine lv_aload_n hx hb dX6_count_17 rfl (lv_at hl 1 rfl) ?_
        refine lv_aload_n hx hb dX6_count_18 rfl (lv_at hl 0 rfl) ?_
        refine x_callV C hH hS (ci := 7) (t := (0, 0, 0)) hX rfl rfl (c_cSt l (E := E) (base := base) hR0 hI0 (p := p_3) (by omega)) hH kX6_countStanding qw_648 (ws_p (List.mem_of_getElem? (i := 16) rfl) rfl) qw_646  rfl [] rfl hl.1 (Nat.le_of_ble_eq_true rfl) ⟨Nat.le_of_ble_eq_true rfl, Nat.le_of_ble_eq_true rfl⟩ dX6_count_19 ⟨Nat.le_of_ble_eq_true rfl, Nat.le_of_ble_eq_true rfl⟩ (fun r_11 H locs hp_10 hS => ?_)
        obtain ⟨rfl, hH⟩ := hp_10
        refine lv_goto (tgt := 30) hx hb dX6_count_22 (by decide) ?_
        rw [← hQ]
        refine vx_ret (x_reti C rfl hS (Nat.le_of_ble_eq_true rfl) (Nat.le_of_ble_eq_true rfl) dX6_count_30 ?_)
        rw [hpost]
        exact ⟨p_3, k, hp_3, hk, rfl, rfl, by rw [if_pos c_7], hH⟩
