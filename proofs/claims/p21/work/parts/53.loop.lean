/-! the law's loop: two rooms in one state -/
set_option maxHeartbeats 4000000 in
set_option maxRecDepth 100000 in
theorem law_loop (l : Launch) (hfl : l.stackTraces = false) {p : Program} {e : Env} {s : State} {m : MethodId} {below : List Frame} {meth : Method} {c : Code} {E : xE} {b L : Nat} {xs : Nat → Int32} (C : XC p s m #[Value.ref b] meth c "DataroomLaw" cL_law 6 ret E s.heap.size) (hXs : va_X b L xs s s.heap) (hbl : b < s.heap.size) (hL : L ≤ 260) {A0 A1 : Nat} : ∀ k, k ≤ 110 → ∀ (S : AS) (H : Heap) (locs : List Loc) (ls : Array Slot), JV S → DR E s.heap.size A0 A1 S S H → va_S (xA s.heap.size) s.heap H locs → lv_has ls 6 [(3, .int (nI k)), (2, .ref A1), (1, .ref A0), (0, .ref b)] → W p l e room_1 s m #[Value.ref b] below meth c H locs (30 + 120 * k) (3000 + 1600 * k) (lw_Z below #[Value.ref b] s) (F0 m 18 ls []) := by
  have hx := C.hx
  have hb := C.hb
  have hbA : ¬ xA s.heap.size b := Nat.not_le.mpr hbl
  refine lp_up ?_
  intro k hk ih S H locs ls hJ hD hS hl
  refine lv_iload_n hx hb dL_law_18 rfl (lv_at hl 0 rfl) ?_
  refine lv_bipush (v := nI 110) hx hb dL_law_19 (by decide +kernel) ?_
  refine lv_icmp_ge (tgt := 86) hx hb dL_law_21 (by decide) (fun _ => ?_) (fun hc => ?_)
  · refine lv_aload_n hx hb dL_law_86 rfl (lv_at hl 2 rfl) ?_
    obtain ⟨nf, np, na, nw, sg, rc⟩ := S
    refine x_callS C hS (l_isSo l hfl (E := E) (base := s.heap.size) (A0 := A0) hJ) hD.S kL_isSo qw_658 qw_657 rfl [] rfl hl.1 (Nat.le_of_ble_eq_true rfl) ⟨Nat.le_of_ble_eq_true rfl, Nat.le_of_ble_eq_true rfl⟩ dL_law_87 ⟨by show 30 + 120 * k + 2000 ≤ 600086; omega, by show 3000 + 1600 * k + 12000 ≤ 7301442; omega⟩ (fun r H locs hp hS => ?_)
    obtain ⟨rfl, -⟩ := hp
    refine W.widen (k := 600086) (n := 7301442) (by show 30 + 120 * k + 2000 ≤ 600086; omega) (by show 3000 + 1600 * k + 12000 ≤ 7301442; omega) ?_
    refine va_forget (fun q hq => hS.2.2 q hq) ?_
    exact lw_ret hx hb C.rt C.locks dL_law_90
  · replace hc := mt (nI_leI (by omega) (by omega)).mpr hc
    have hk1 : k < 110 := by omega
    refine lv_aload_n hx hb dL_law_24 rfl (lv_at hl 3 rfl) ?_
    refine lv_iload_n hx hb dL_law_25 rfl (lv_at hl 0 rfl) ?_
    refine x_callSU C hS (c_cell l (E := E) (base := s.heap.size) (b := b) (L := L) (xs := xs) (P := DR E s.heap.size A0 A1 S S) (k := k) (by omega) (by omega) hbl) cB_bl (fun U hU hW => ⟨by rw [hU]; exact (hXs.kept (hS.2.1 b hbl hbA)).moved hW.alike, by rw [hU]; exact hD⟩) kL_cell qw_107 qw_106 rfl [] rfl hl.1 (Nat.le_of_ble_eq_true rfl) ⟨Nat.le_of_ble_eq_true rfl, Nat.le_of_ble_eq_true rfl⟩ dL_law_26 ⟨by show 30 + 120 * k + 0 ≤ 600086; omega, by show 3000 + 1600 * k + 0 ≤ 7301442; omega⟩ (fun r H locs hp hS => ?_)
    obtain ⟨⟨v, rfl⟩, hD⟩ := hp
    refine lv_istore (lv' := [(4, .int v), (3, .int (nI k)), (2, .ref A1), (1, .ref A0), (0, .ref b)]) hx hb dL_law_29 hl (by decide) rfl (fun ls hl => ?_)
    have k80 : ∀ (S' : AS), JV S' → ∀ (H : Heap) (locs : List Loc) (ls : Array Slot), DR E s.heap.size A0 A1 S' S' H → va_S (xA s.heap.size) s.heap H locs → lv_has ls 6 [(3, .int (nI k)), (2, .ref A1), (1, .ref A0), (0, .ref b)] → W p l e room_1 s m #[Value.ref b] below meth c H locs (30 + 120 * k + 120) (3000 + 1600 * k + 1600) (lw_Z below #[Value.ref b] s) (F0 m 80 ls []) := by
      intro S' hJ' H locs ls hD hS hl
      refine lv_iinc (v := nI (k + 1)) (lv' := [(3, .int (nI (k + 1))), (2, .ref A1), (1, .ref A0), (0, .ref b)]) hx hb dL_law_80 hl (k := 0) rfl (nI_1 _) (by decide) rfl (fun ls hl => ?_)
      refine lv_goto (tgt := 18) hx hb dL_law_83 (by decide) ?_
      refine W.widen (k := 30 + 120 * (k + 1)) (n := 3000 + 1600 * (k + 1)) (by omega) (by omega) ?_
      exact ih hk1 S' H locs ls hJ' hD hS hl
    have k57 : ∀ (S' : AS), JV S' → ∀ (H : Heap) (locs : List Loc) (ls : Array Slot), DR E s.heap.size A0 A1 S' S' H → va_S (xA s.heap.size) s.heap H locs → lv_has ls 6 [(4, .int v), (3, .int (nI k)), (2, .ref A1), (1, .ref A0), (0, .ref b)] → W p l e room_1 s m #[Value.ref b] below meth c H locs (30 + 120 * k + 44) (3000 + 1600 * k + 1088) (lw_Z below #[Value.ref b] s) (F0 m 57 ls []) := by
      intro S' hJ' H locs ls hD hS hl
      refine lv_iload_n hx hb dL_law_57 rfl (lv_at hl 1 rfl) ?_
      refine lv_bipush (v := nI 22) hx hb dL_law_58 (by decide +kernel) ?_
      refine lv_irem hx hb dL_law_60 (by decide +kernel) ?_
      refine lv_bipush (v := nI 21) hx hb dL_law_61 (by decide +kernel) ?_
      refine lv_icmp_ne (tgt := 80) hx hb dL_law_63 (by decide) (fun _ => ?_) (fun _ => ?_)
      · refine W.widen (k := 30 + 120 * k + 120) (n := 3000 + 1600 * k + 1600) (by omega) (by omega) ?_
        exact k80 S' hJ' H locs ls hD hS (lv_sub hl [1, 2, 3, 4] rfl)
      · refine lv_aload_n hx hb dL_law_66 rfl (lv_at hl 3 rfl) ?_
        refine lv_aload_n hx hb dL_law_67 rfl (lv_at hl 2 rfl) ?_
        refine lv_iload hx hb dL_law_68 (lv_at hl 0 rfl) ?_
        refine lv_iconst (v := nI 3) hx hb dL_law_70 (by decide +kernel) ?_
        refine lv_ishr hx hb dL_law_71 ?_
        refine x_callS C hS (l_areAlike l hfl (E := E) (base := s.heap.size) (A0 := A0) (A1 := A1) (S := S') hJ'.1 (v := v >>> (nI 3 &&& 31))) hD kL_areAlike qw_655 qw_654 rfl [] rfl hl.1 (Nat.le_of_ble_eq_true rfl) ⟨Nat.le_of_ble_eq_true rfl, Nat.le_of_ble_eq_true rfl⟩ dL_law_72 ⟨by show 30 + 120 * k + 44 + 72 ≤ 600086; omega, by show 3000 + 1600 * k + 1088 + 432 ≤ 7301442; omega⟩ (fun r H locs hp hS => ?_)
        obtain ⟨rfl, hD⟩ := hp
        refine lv_if_ne (tgt := 80) hx hb dL_law_75 (by decide) (fun _ => ?_) (fun c => absurd c (by decide +kernel))
        refine W.widen (k := 30 + 120 * k + 120) (n := 3000 + 1600 * k + 1600) (by show 30 + 120 * k + 44 + 72 ≤ _; omega) (by show 3000 + 1600 * k + 1088 + 432 ≤ _; omega) ?_
        exact k80 S' hJ' H locs ls hD hS (lv_sub hl [1, 2, 3, 4] rfl)
    have hG := gd_act (v := v) hJ
    refine lv_aload_n hx hb dL_law_31 rfl (lv_at hl 3 rfl) ?_
    refine lv_iload hx hb dL_law_32 (lv_at hl 0 rfl) ?_
    refine x_callS C hS (HM.two (A1 := A1) (T := S) (l_act l hfl (E := E) (base := s.heap.size) (S := S) hJ.1 (v := v))) hD kL_act qw_110 qw_109 rfl [] rfl hl.1 (Nat.le_of_ble_eq_true rfl) ⟨Nat.le_of_ble_eq_true rfl, Nat.le_of_ble_eq_true rfl⟩ dL_law_34 ⟨by show 30 + 120 * k + 0 + 22 ≤ 600086; omega, by show 3000 + 1600 * k + 0 + 544 ≤ 7301442; omega⟩ (fun r H locs hp hS => ?_)
    obtain ⟨rfl, hD⟩ := hp
    refine lv_istore (lv' := [(5, .int (f_act S v).1), (4, .int v), (3, .int (nI k)), (2, .ref A1), (1, .ref A0), (0, .ref b)]) hx hb dL_law_37 hl (by decide) rfl (fun ls hl => ?_)
    refine lv_iload hx hb dL_law_39 (lv_at hl 0 rfl) ?_
    refine lv_ldc (v := -99999999) hx hb C.hown (C.ws _ qw_289) dL_law_41 ?_
    refine lv_icmp_eq (tgt := 57) hx hb dL_law_43 (by decide) (fun hT => ?_) (fun _ => ?_)
    · rw [hG.2 hT] at hD
      refine W.widen (k := 30 + 120 * k + 44) (n := 3000 + 1600 * k + 1088) (by show 30 + 120 * k + 0 + 22 ≤ _; omega) (by show 3000 + 1600 * k + 0 + 544 ≤ _; omega) ?_
      exact k57 S hJ H locs ls hD hS (lv_sub hl [1, 2, 3, 4, 5] rfl)
    · refine lv_aload_n hx hb dL_law_46 rfl (lv_at hl 3 rfl) ?_
      refine lv_iload hx hb dL_law_47 (lv_at hl 1 rfl) ?_
      refine x_callS C hS (HM.two' (A0 := A0) (S := (f_act S v).2) (l_act l hfl (E := E) (base := s.heap.size) (S := S) hJ.1 (v := v))) hD kL_act qw_110 qw_109 rfl [] rfl hl.1 (Nat.le_of_ble_eq_true rfl) ⟨Nat.le_of_ble_eq_true rfl, Nat.le_of_ble_eq_true rfl⟩ dL_law_49 ⟨by show 30 + 120 * k + 0 + 22 + 22 ≤ 600086; omega, by show 3000 + 1600 * k + 0 + 544 + 544 ≤ 7301442; omega⟩ (fun r H locs hp hS => ?_)
      obtain ⟨rfl, hD⟩ := hp
      refine lv_iload hx hb dL_law_52 (lv_at hl 0 rfl) ?_
      refine lv_icmp_ne (tgt := 78) hx hb dL_law_54 (by decide) (fun c => absurd rfl c) (fun _ => ?_)
      refine W.widen (k := 30 + 120 * k + 44) (n := 3000 + 1600 * k + 1088) (by show 30 + 120 * k + 0 + 22 + 22 ≤ _; omega) (by show 3000 + 1600 * k + 0 + 544 + 544 ≤ _; omega) ?_
      exact k57 _ hG.1 H locs ls hD hS (lv_sub hl [1, 2, 3, 4, 5] rfl)
