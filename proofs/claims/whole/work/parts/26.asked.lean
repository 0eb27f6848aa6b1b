def tlv (a b c d e g : Int32) : Nat → Int32
  | 0 => a | 1 => b | 2 => c | 3 => d | 4 => g | _ => e
theorem rg_of {z : Int32} {n : Nat} (hn : n < 2 ^ 31) (h : nI 0 ≤ z ∧ z ≤ nI n) : ∃ k, k ≤ n ∧ z = nI k := by
  obtain ⟨j, hj, rfl⟩ := nI_of (x := z) (Int32.not_lt.mpr h.1)
  exact ⟨j, (nI_leI hj hn).mp h.2, rfl⟩
set_option maxHeartbeats 4000000 in
set_option maxRecDepth 100000 in
theorem c_tell (l : Launch) {E : xE} {base : Nat} {al : Tg → Nat} {w : Tg → Option va_E} {t : Tg} {a b c d e : Int32} {g : Bool} {k : Nat} (hk : k ≤ 5) (ht : w t = some (.inr (1, [.int a, .int b, .int c, .int d, .int e, .int (ob g)]))) : xMet l yX0_tell cX0_tell 2 (some (.int)) ({ frames := 0, cells := 0, slots := 0, locals := 0 } : Room) E base [.ref (al t), .int (nI k)] (fun H => xH E base al w H) (fun r H => r = some (.int (tlv a b c d e (ob g) k)) ∧ xH E base al w H) := by
  refine xMet.of (by decide +kernel) "Dataroom$Answer" rfl (Nat.le_of_ble_eq_true rfl) ?_
  intro p9 e9 s m9 below meth c9 ls C hin hP hS hl
  have hx := C.hx
  have hb := C.hb
  have hH := hP
  have hl : lv_has ls 2 [(0, .ref (al t)), (1, .int (nI k))] := hl
  obtain ⟨post, hpost⟩ : ∃ zz9 : Option Value → Heap → Prop, zz9 = (fun r H => r = some (.int (tlv a b c d e (ob g) k)) ∧ xH E base al w H) := ⟨_, rfl⟩
  rw [← hpost]
  generalize hQ : (MQ below (xQ base post) ([.ref (al t), .int (nI k)] : List Value).toArray s 0 0 (xA base)) = Q
  rcases (show k = 0 ∨ k = 1 ∨ k = 2 ∨ k = 3 ∨ k = 4 ∨ k = 5 by omega) with rfl | rfl | rfl | rfl | rfl | rfl
  · skip
    refine lv_iload_n hx hb dX0_tell_0 rfl (lv_at hl 1 rfl) ?_
    refine lv_tableIn (tgt := 36) (off := 35) hx hb dX0_tell_1 (by decide +kernel) (by decide +kernel) rfl rfl ?_
    refine lv_aload_n hx hb dX0_tell_36 rfl (lv_at hl 0 rfl) ?_
    refine x_get C hH (ci := 1) (T := TX0) (N := 6) ht rfl iWX0 0 (by decide) qw_543 rfl rfl dX0_tell_37 ?_
    rw [← hQ]
    refine x_reti C rfl hS (Nat.le_of_ble_eq_true rfl) (Nat.le_of_ble_eq_true rfl) dX0_tell_40 ?_
    rw [hpost]
    exact ⟨rfl, hH⟩
  · skip
    refine lv_iload_n hx hb dX0_tell_0 rfl (lv_at hl 1 rfl) ?_
    refine lv_tableIn (tgt := 41) (off := 40) hx hb dX0_tell_1 (by decide +kernel) (by decide +kernel) rfl rfl ?_
    refine lv_aload_n hx hb dX0_tell_41 rfl (lv_at hl 0 rfl) ?_
    refine x_get C hH (ci := 1) (T := TX0) (N := 6) ht rfl iWX0 1 (by decide) qw_544 rfl rfl dX0_tell_42 ?_
    rw [← hQ]
    refine x_reti C rfl hS (Nat.le_of_ble_eq_true rfl) (Nat.le_of_ble_eq_true rfl) dX0_tell_45 ?_
    rw [hpost]
    exact ⟨rfl, hH⟩
  · skip
    refine lv_iload_n hx hb dX0_tell_0 rfl (lv_at hl 1 rfl) ?_
    refine lv_tableIn (tgt := 46) (off := 45) hx hb dX0_tell_1 (by decide +kernel) (by decide +kernel) rfl rfl ?_
    refine lv_aload_n hx hb dX0_tell_46 rfl (lv_at hl 0 rfl) ?_
    refine x_get C hH (ci := 1) (T := TX0) (N := 6) ht rfl iWX0 2 (by decide) qw_546 rfl rfl dX0_tell_47 ?_
    rw [← hQ]
    refine x_reti C rfl hS (Nat.le_of_ble_eq_true rfl) (Nat.le_of_ble_eq_true rfl) dX0_tell_50 ?_
    rw [hpost]
    exact ⟨rfl, hH⟩
  · skip
    refine lv_iload_n hx hb dX0_tell_0 rfl (lv_at hl 1 rfl) ?_
    refine lv_tableIn (tgt := 51) (off := 50) hx hb dX0_tell_1 (by decide +kernel) (by decide +kernel) rfl rfl ?_
    refine lv_aload_n hx hb dX0_tell_51 rfl (lv_at hl 0 rfl) ?_
    refine x_get C hH (ci := 1) (T := TX0) (N := 6) ht rfl iWX0 3 (by decide) qw_548 rfl rfl dX0_tell_52 ?_
    rw [← hQ]
    refine x_reti C rfl hS (Nat.le_of_ble_eq_true rfl) (Nat.le_of_ble_eq_true rfl) dX0_tell_55 ?_
    rw [hpost]
    exact ⟨rfl, hH⟩
  · skip
    refine lv_iload_n hx hb dX0_tell_0 rfl (lv_at hl 1 rfl) ?_
    refine lv_tableIn (tgt := 56) (off := 55) hx hb dX0_tell_1 (by decide +kernel) (by decide +kernel) rfl rfl ?_
    refine lv_aload_n hx hb dX0_tell_56 rfl (lv_at hl 0 rfl) ?_
    refine x_get C hH (ci := 1) (T := TX0) (N := 6) ht rfl iWX0 5 (by decide) qw_550 rfl rfl dX0_tell_57 ?_
    refine lv_if_eq (tgt := 67) hx hb dX0_tell_60 (by decide) (fun c_1 => ?_) (fun c_1 => ?_)
    · skip
      replace c_1 := ob_0.mp c_1
      refine lv_iconst (v := nI 0) hx hb dX0_tell_67 (by decide +kernel) ?_
      rw [← hQ]
      refine x_reti C rfl hS (Nat.le_of_ble_eq_true rfl) (Nat.le_of_ble_eq_true rfl) dX0_tell_68 ?_
      rw [hpost]
      exact ⟨by show some (Value.int (nI 0)) = some (Value.int (ob g)); rw [c_1]; rfl, hH⟩
    · skip
      replace c_1 := ob_n.mp c_1
      refine lv_iconst (v := nI 1) hx hb dX0_tell_63 (by decide +kernel) ?_
      refine lv_goto (tgt := 68) hx hb dX0_tell_64 (by decide) ?_
      rw [← hQ]
      refine x_reti C rfl hS (Nat.le_of_ble_eq_true rfl) (Nat.le_of_ble_eq_true rfl) dX0_tell_68 ?_
      rw [hpost]
      exact ⟨by show some (Value.int (nI 1)) = some (Value.int (ob g)); rw [c_1]; rfl, hH⟩
  · skip
    refine lv_iload_n hx hb dX0_tell_0 rfl (lv_at hl 1 rfl) ?_
    refine lv_tableOut (tgt := 69) hx hb dX0_tell_1 (by decide +kernel) rfl ?_
    refine lv_aload_n hx hb dX0_tell_69 rfl (lv_at hl 0 rfl) ?_
    refine x_get C hH (ci := 1) (T := TX0) (N := 6) ht rfl iWX0 4 (by decide) qw_549 rfl rfl dX0_tell_70 ?_
    rw [← hQ]
    refine x_reti C rfl hS (Nat.le_of_ble_eq_true rfl) (Nat.le_of_ble_eq_true rfl) dX0_tell_73 ?_
    rw [hpost]
    exact ⟨rfl, hH⟩
