theorem cmp6 {i L : Nat} (hi : i ≤ 3072) (hL : L ≤ 3072) : nI L - nI 6 < nI i ↔ ¬ i + 6 ≤ L := by
  rcases Nat.lt_or_ge L 6 with h | h
  · refine ⟨fun _ => by omega, fun _ => ?_⟩
    refine Int32.lt_of_lt_of_le (b := nI 0) ?_ (nI_le (Nat.zero_le i) (by omega))
    rcases (show L = 0 ∨ L = 1 ∨ L = 2 ∨ L = 3 ∨ L = 4 ∨ L = 5 by omega) with rfl | rfl | rfl | rfl | rfl | rfl <;> decide +kernel
  · obtain ⟨d, rfl⟩ : ∃ d, L = d + 6 := ⟨L - 6, by omega⟩
    rw [← nI_add, Int32.add_sub_cancel, nI_ltI (by omega) (by omega)]
    omega
theorem and31 (x : Int32) : ∃ k, k < 32 ∧ x &&& nI 31 = nI k := by
  obtain ⟨N, hN⟩ : ∃ N, N = x.toBitVec.toNat := ⟨_, rfl⟩
  refine ⟨N % 32, Nat.mod_lt _ (by decide), b_ext fun i hi => ?_⟩
  have h1 : bt x i = N.testBit i := by rw [hN]; rfl
  rw [b_and, bt_nI 31 hi, bt_nI _ hi, h1]
  have e1 : (32 : Nat) = 2 ^ 5 := rfl
  have e2 : (31 : Nat) = 2 ^ 5 - 1 := rfl
  rw [e1, Nat.testBit_mod_two_pow, e2, Nat.testBit_two_pow_sub_one, Bool.and_comm]
set_option maxHeartbeats 4000000 in
set_option maxRecDepth 100000 in
theorem law_loop (l : Launch) (hfl : l.stackTraces = false) {p : Program} {e : Env} {s : State} {m : MethodId} {below : List Frame} {meth : Method} {c : Code} {E : xE} {b L : Nat} {xs : Nat → Int32} (C : XC p s m #[Value.ref b] meth c "DataroomLaw" cL_law 7 ret E s.heap.size) (hXs : va_X b L xs s s.heap) (hbl : b < s.heap.size) (hbA : ¬ xA s.heap.size b) (hL : L ≤ 3072) {A0 A1 A2 : Nat} : ∀ k, k ≤ 512 → ∀ (H : Heap) (locs : List Loc) (ls : Array Slot), SI E s.heap.size A0 A1 A2 H → va_S (xA s.heap.size) s.heap H locs → lv_has ls 7 [(4, .int (nI (6 * k))), (3, .ref A2), (2, .ref A1), (1, .ref A0), (0, .ref b)] → W p l e room_1 s m #[Value.ref b] below meth c H locs (30 + 30 * k) (3000 + 700 * k) (lw_Z below #[Value.ref b] s) (F0 m 23 ls []) := by
  have hx := C.hx
  have hb := C.hb
  refine lp_up ?_
  intro k hk ih H locs ls hSI hS hl
  refine lv_iload hx hb dL_law_23 (lv_at hl 0 rfl) ?_
  refine lv_aload_n hx hb dL_law_25 rfl (lv_at hl 4 rfl) ?_
  refine va_slen hx hb hXs hbl hbA hS dL_law_26 ?_
  refine lv_bipush (v := nI 6) hx hb dL_law_27 (by decide +kernel) ?_
  refine lv_isub hx hb dL_law_29 ?_
  refine lv_icmp_gt (tgt := 1313) hx hb dL_law_30 (by decide) (fun _ => ?_) (fun hc => ?_)
  · refine lv_iconst (v := nI 1) hx hb dL_law_1313 (by decide +kernel) ?_
    refine W.widen (k := 601024) (n := 7293034) (by omega) (by omega) ?_
    refine va_forget (fun q hq => hS.2.2 q hq) ?_
    exact lw_ret hx hb C.rt C.locks dL_law_1314
  · have hlt : 6 * k + 6 ≤ L := by
      rcases Nat.lt_or_ge L (6 * k + 6) with q | q
      · exact absurd ((cmp6 (i := 6 * k) (by omega) hL).mpr (by omega)) hc
      · exact q
    refine lv_aload_n hx hb dL_law_33 rfl (lv_at hl 4 rfl) ?_
    refine lv_iload hx hb dL_law_34 (lv_at hl 0 rfl) ?_
    refine va_sld hx hb hXs hbl hbA hS (vp_in_nI (by omega : 6 * k < L) (by omega)) dL_law_36 ?_
    refine lv_bipush (v := nI 31) hx hb dL_law_37 (by decide +kernel) ?_
    refine lv_iand hx hb dL_law_39 ?_
    obtain ⟨j, hj, ej⟩ := and31 (xs (nI (6 * k)).toNatClampNeg)
    refine lv_re ej ?_
    have kk : ∀ (H : Heap) (locs : List Loc) (ls : Array Slot), SI E s.heap.size A0 A1 A2 H → va_S (xA s.heap.size) s.heap H locs → lv_has ls 7 [(4, .int (nI (6 * k))), (3, .ref A2), (2, .ref A1), (1, .ref A0), (0, .ref b)] → W p l e room_1 s m #[Value.ref b] below meth c H locs (30 + 30 * k + 30) (3000 + 700 * k + 700) (lw_Z below #[Value.ref b] s) (F0 m 1307 ls []) := by
      intro H locs ls h1 hS hl
      refine lv_iinc (v := nI (6 * (k + 1))) (lv' := [(4, .int (nI (6 * (k + 1)))), (3, .ref A2), (2, .ref A1), (1, .ref A0), (0, .ref b)]) hx hb dL_law_1307 hl (k := 0) rfl (by rw [show 6 * (k + 1) = 6 * k + 6 by omega, ← nI_add]; rfl) (by decide) rfl (fun ls hl => ?_)
      refine lv_goto (tgt := 23) hx hb dL_law_1310 (by decide) ?_
      refine W.widen (k := 30 + 30 * (k + 1)) (n := 3000 + 700 * (k + 1)) (by omega) (by omega) ?_
      exact ih (by omega) H locs ls h1 hS hl
    obtain ⟨al, w, nf, np, na, nw, sg, rc, th, fr, fo, hH, hR, hI, hMM, hO, h0, h1, h2⟩ := hSI
    subst h0 h1 h2
    rcases (show j = 0 ∨ j = 1 ∨ j = 2 ∨ j = 3 ∨ j = 4 ∨ j = 5 ∨ j = 6 ∨ j = 7 ∨ j = 8 ∨ j = 9 ∨ j = 10 ∨ j = 11 ∨ j = 12 ∨ j = 13 ∨ j = 14 ∨ j = 15 ∨ j = 16 ∨ j = 17 ∨ 18 ≤ j by omega) with rfl | rfl | rfl | rfl | rfl | rfl | rfl | rfl | rfl | rfl | rfl | rfl | rfl | rfl | rfl | rfl | rfl | rfl | hj18
    · refine lv_tableIn (tgt := 128) (off := 88) hx hb dL_law_40 (by decide +kernel) (by decide +kernel) rfl rfl ?_
      exact op_file l hfl C hXs hbl hbA (by show _ ≤ 601024; omega) (by show _ ≤ 7293034; omega) hlt hL hR hI hMM hO hH hS hl kk
    · refine lv_tableIn (tgt := 184) (off := 144) hx hb dL_law_40 (by decide +kernel) (by decide +kernel) rfl rfl ?_
      exact op_change l hfl C hXs hbl hbA (by show _ ≤ 601024; omega) (by show _ ≤ 7293034; omega) hlt hL hR hI hMM hO hH hS hl kk
    · refine lv_tableIn (tgt := 252) (off := 212) hx hb dL_law_40 (by decide +kernel) (by decide +kernel) rfl rfl ?_
      exact op_party l hfl C hXs hbl hbA (by show _ ≤ 601024; omega) (by show _ ≤ 7293034; omega) hlt hL hR hI hMM hO hH hS hl kk
    · refine lv_tableIn (tgt := 308) (off := 268) hx hb dL_law_40 (by decide +kernel) (by decide +kernel) rfl rfl ?_
      exact op_budget l hfl C hXs hbl hbA (by show _ ≤ 601024; omega) (by show _ ≤ 7293034; omega) hlt hL hR hI hMM hO hH hS hl kk
    · refine lv_tableIn (tgt := 376) (off := 336) hx hb dL_law_40 (by decide +kernel) (by decide +kernel) rfl rfl ?_
      exact op_right l hfl C hXs hbl hbA (by show _ ≤ 601024; omega) (by show _ ≤ 7293034; omega) hlt hL hR hI hMM hO hH hS hl kk
    · refine lv_tableIn (tgt := 460) (off := 420) hx hb dL_law_40 (by decide +kernel) (by decide +kernel) rfl rfl ?_
      exact op_takeBack l hfl C hXs hbl hbA (by show _ ≤ 601024; omega) (by show _ ≤ 7293034; omega) hlt hL hR hI hMM hO hH hS hl kk
    · refine lv_tableIn (tgt := 528) (off := 488) hx hb dL_law_40 (by decide +kernel) (by decide +kernel) rfl rfl ?_
      exact op_seal l hfl C hXs hbl hbA (by show _ ≤ 601024; omega) (by show _ ≤ 7293034; omega) hlt hL hR hI hMM hO hH hS hl kk
    · refine lv_tableIn (tgt := 576) (off := 536) hx hb dL_law_40 (by decide +kernel) (by decide +kernel) rfl rfl ?_
      exact op_pass l hfl C hXs hbl hbA (by show _ ≤ 601024; omega) (by show _ ≤ 7293034; omega) hlt hL hR hI hMM hO hH hS hl kk
    · refine lv_tableIn (tgt := 632) (off := 592) hx hb dL_law_40 (by decide +kernel) (by decide +kernel) rfl rfl ?_
      exact op_ask l hfl C hXs hbl hbA (by show _ ≤ 601024; omega) (by show _ ≤ 7293034; omega) hlt hL hR hI hMM hO hH hS hl kk
    · refine lv_tableIn (tgt := 712) (off := 672) hx hb dL_law_40 (by decide +kernel) (by decide +kernel) rfl rfl ?_
      exact op_cost l hfl C hXs hbl hbA (by show _ ≤ 601024; omega) (by show _ ≤ 7293034; omega) hlt hL hR hI hMM hO hH hS hl kk
    · refine lv_tableIn (tgt := 792) (off := 752) hx hb dL_law_40 (by decide +kernel) (by decide +kernel) rfl rfl ?_
      exact op_answer l hfl C hXs hbl hbA (by show _ ≤ 601024; omega) (by show _ ≤ 7293034; omega) hlt hL hR hI hMM hO hH hS hl kk
    · refine lv_tableIn (tgt := 860) (off := 820) hx hb dL_law_40 (by decide +kernel) (by decide +kernel) rfl rfl ?_
      exact op_spent l hfl C hXs hbl hbA (by show _ ≤ 601024; omega) (by show _ ≤ 7293034; omega) hlt hL hR hI hMM hO hH hS hl kk
    · refine lv_tableIn (tgt := 916) (off := 876) hx hb dL_law_40 (by decide +kernel) (by decide +kernel) rfl rfl ?_
      exact op_spentAnew l hfl C hXs hbl hbA (by show _ ≤ 601024; omega) (by show _ ≤ 7293034; omega) hlt hL hR hI hMM hO hH hS hl kk
    · refine lv_tableIn (tgt := 972) (off := 932) hx hb dL_law_40 (by decide +kernel) (by decide +kernel) rfl rfl ?_
      exact op_finds l hfl C hXs hbl hbA (by show _ ≤ 601024; omega) (by show _ ≤ 7293034; omega) hlt hL hR hI hMM hO hH hS hl kk
    · refine lv_tableIn (tgt := 1040) (off := 1000) hx hb dL_law_40 (by decide +kernel) (by decide +kernel) rfl rfl ?_
      exact op_together l hfl C hXs hbl hbA (by show _ ≤ 601024; omega) (by show _ ≤ 7293034; omega) hlt hL hR hI hMM hO hH hS hl kk
    · refine lv_tableIn (tgt := 1108) (off := 1068) hx hb dL_law_40 (by decide +kernel) (by decide +kernel) rfl rfl ?_
      exact op_rightTo l hfl C hXs hbl hbA (by show _ ≤ 601024; omega) (by show _ ≤ 7293034; omega) hlt hL hR hI hMM hO hH hS hl kk
    · refine lv_tableIn (tgt := 1176) (off := 1136) hx hb dL_law_40 (by decide +kernel) (by decide +kernel) rfl rfl ?_
      exact op_isSealed l hfl C hXs hbl hbA (by show _ ≤ 601024; omega) (by show _ ≤ 7293034; omega) hlt hL hR hI hMM hO hH hS hl kk
    · refine lv_tableIn (tgt := 1239) (off := 1199) hx hb dL_law_40 (by decide +kernel) (by decide +kernel) rfl rfl ?_
      exact op_count l hfl C hXs hbl hbA (by show _ ≤ 601024; omega) (by show _ ≤ 7293034; omega) hlt hL hR hI hMM hO hH hS hl kk
    · refine lv_tableOut (tgt := 1307) hx hb dL_law_40 (Or.inr (by rw [nI_toInt (by omega)]; omega)) rfl ?_
      refine W.widen (k := 30 + 30 * k + 30) (n := 3000 + 700 * k + 700) (by omega) (by omega) ?_
      exact kk H locs ls ⟨al, w, nf, np, na, nw, sg, rc, th, fr, fo, hH, hR, hI, hMM, hO, rfl, rfl, rfl⟩ hS hl
