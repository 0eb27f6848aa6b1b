theorem JV_0 : JV (0, 0, 0, 0, sg0, fun _ => false) :=
  ⟨INV_0, fun a h => absurd h (Nat.not_lt_zero a), fun a h => absurd h (Nat.not_lt_zero a), fun a h => absurd h (Nat.not_lt_zero a), fun a h => absurd h (Nat.not_lt_zero a)⟩
set_option maxHeartbeats 4000000 in
set_option maxRecDepth 100000 in
theorem law_head (l : Launch) (hfl : l.stackTraces = false) {p : Program} {e : Env} {s : State} {m : MethodId} {below : List Frame} {meth : Method} {c : Code} {E : xE} {b L : Nat} {xs : Nat → Int32} (C : XC p s m #[Value.ref b] meth c "DataroomLaw" cL_law 6 ret E s.heap.size) (hXs : va_X b L xs s s.heap) (hbl : b < s.heap.size) (hL : L ≤ 260) {ls : Array Slot} (hl : lv_has ls 6 [(0, .ref b)]) : W p l e room_1 s m #[Value.ref b] below meth c s.heap [] 0 0 (lw_Z below #[Value.ref b] s) (F0 m 0 ls []) := by
  have hx := C.hx
  have hb := C.hb
  have hS : va_S (xA s.heap.size) s.heap s.heap [] := va_S.rf
  have hH : xH E s.heap.size (fun _ => 0) (fun _ => none) s.heap := And.intro (fun t e h => absurd h (by nofun)) (fun t t' e e' h => absurd h (by nofun))
  refine x_new C hH hS (0, 0, 0) (ci := 7) (T := TX6) (N := 6) (fs := [.null, .null, .null, .int 0, .null, .null]) rfl iWX6 tyX6 tyX6_ok qw_24 qw_25 qw_1 (fun j hj => by rcases (show j = 0 ∨ j = 1 ∨ j = 2 ∨ j = 3 ∨ j = 4 ∨ j = 5 by omega) with rfl | rfl | rfl | rfl | rfl | rfl <;> rfl) (Nat.le_of_ble_eq_true rfl) (Nat.le_of_ble_eq_true rfl) dL_law_0 (fun G1_ hH hS => ?_)
  obtain ⟨q_1, hq_1⟩ : ∃ zz9 : Nat, zz9 = xa (fun _ => 0) (0, 0, 0) s.heap.size (0, 0, 0) := ⟨_, rfl⟩
  obtain ⟨alq_1, halq_1⟩ : ∃ zz9 : Tg → Nat, zz9 = xa (fun _ => 0) (0, 0, 0) s.heap.size := ⟨_, rfl⟩
  rw [← halq_1] at hH
  rw [← hq_1]
  have ad_3 : alq_1 (0, 0, 0) = q_1 := by rw [halq_1, hq_1]
  have hn_2 : (xu (fun _ => none) (0, 0, 0) (.inr (7, [.null, .null, .null, .int 0, .null, .null]))) (0, 0, 0) = some (.inr (7, [.null, .null, .null, .int 0, .null, .null])) := xu_self _ _ _
  refine lv_dup hx hb dL_law_3 rfl ?_
  refine lv_adr (ad_3).symm ?_
  refine x_callI C hS (c_Dataroom l (E := E) (base := s.heap.size) (sg := sg0) (rc := fun _ => false) hn_2) hH kX6_init qw_27 rfl qw_26  rfl [.ref q_1] rfl hl.1 (Nat.le_of_ble_eq_true rfl) ⟨Nat.le_of_ble_eq_true rfl, Nat.le_of_ble_eq_true rfl⟩ dL_law_4 ⟨Nat.le_of_ble_eq_true rfl, Nat.le_of_ble_eq_true rfl⟩ (fun r_5 H locs hp_4 hS => ?_)
  obtain ⟨rfl, al1, w1, hH, hR, hf1, h01⟩ := hp_4
  have q01 : al1 (0, 0, 0) = q_1 := h01.trans ad_3
  refine lv_astore_n (lv' := [(1, .ref q_1), (0, .ref b)]) hx hb dL_law_7 rfl hl (by decide) rfl (fun ls hl => ?_)
  refine x_new C hH hS (30, 0, 0) (ci := 7) (T := TX6) (N := 6) (fs := [.null, .null, .null, .int 0, .null, .null]) rfl iWX6 tyX6 tyX6_ok qw_24 qw_25 qw_1 (fun j hj => by rcases (show j = 0 ∨ j = 1 ∨ j = 2 ∨ j = 3 ∨ j = 4 ∨ j = 5 by omega) with rfl | rfl | rfl | rfl | rfl | rfl <;> rfl) (Nat.le_of_ble_eq_true rfl) (Nat.le_of_ble_eq_true rfl) dL_law_8 (fun G2_ hH hS => ?_)
  obtain ⟨q_2, hq_2⟩ : ∃ zz9 : Nat, zz9 = xa al1 (30, 0, 0) H.size (30, 0, 0) := ⟨_, rfl⟩
  obtain ⟨alq_2, halq_2⟩ : ∃ zz9 : Tg → Nat, zz9 = xa al1 (30, 0, 0) H.size := ⟨_, rfl⟩
  obtain ⟨w2_, hw2_⟩ : ∃ zz9 : Tg → Option va_E, zz9 = xu w1 (30, 0, 0) (.inr (7, [.null, .null, .null, .int 0, .null, .null])) := ⟨_, rfl⟩
  rw [← halq_2, ← hw2_] at hH
  rw [← hq_2]
  have ad_4 : al2 alq_2 (0, 0, 0) = q_2 := by show alq_2 (sw (0, 0, 0)) = q_2; rw [halq_2, hq_2]; rfl
  have hn_3 : w2 w2_ (0, 0, 0) = some (.inr (7, [.null, .null, .null, .int 0, .null, .null])) := by show w2_ (sw (0, 0, 0)) = _; rw [hw2_]; exact xu_self _ _ _
  have hR0 : RS E (al2 (al2 alq_2)) (w2 (w2 w2_)) (0, 0, 0, 0, sg0, fun _ => false) := by
    rw [al2_2, w2_2]
    exact RS_of (S := (0, 0, 0, 0, sg0, fun _ => false)) hR (fun t ht => by rw [hw2_]; exact xu_ne (fun q => by rw [q] at ht; revert ht; simp)) (fun t ht => by rw [halq_2]; exact xa_ne (fun q => by rw [q] at ht; revert ht; simp))
  have q02 : al2 (al2 alq_2) (0, 0, 0) = q_1 := by rw [al2_2, halq_2]; exact (xa_ne (by simp)).trans q01
  refine lv_dup hx hb dL_law_11 rfl ?_
  refine lv_adr (ad_4).symm ?_
  refine x_callI C hS (c_Dataroom l (E := E) (base := s.heap.size) (al := al2 alq_2) (w := w2 w2_) (sg := sg0) (rc := fun _ => false) hn_3) (xH_2 hH) kX6_init qw_27 rfl qw_26  rfl [.ref q_2] rfl hl.1 (Nat.le_of_ble_eq_true rfl) ⟨Nat.le_of_ble_eq_true rfl, Nat.le_of_ble_eq_true rfl⟩ dL_law_12 ⟨Nat.le_of_ble_eq_true rfl, Nat.le_of_ble_eq_true rfl⟩ (fun r_5 H locs hp_4 hS => ?_)
  obtain ⟨rfl, hP⟩ := hp_4
  have hD : DR E s.heap.size q_1 q_2 (0, 0, 0, 0, sg0, fun _ => false) (0, 0, 0, 0, sg0, fun _ => false) H := (PS.D (S := (0, 0, 0, 0, sg0, fun _ => false)) hP hR0 ad_4 q02).swp
  refine lv_astore_n (lv' := [(2, .ref q_2), (1, .ref q_1), (0, .ref b)]) hx hb dL_law_15 rfl hl (by decide) rfl (fun ls hl => ?_)
  refine lv_iconst (v := nI 0) hx hb dL_law_16 (by decide +kernel) ?_
  refine lv_istore_n (lv' := [(3, .int (nI 0)), (2, .ref q_2), (1, .ref q_1), (0, .ref b)]) hx hb dL_law_17 rfl hl (by decide) rfl (fun ls hl => ?_)
  refine W.widen (k := 30 + 120 * 0) (n := 3000 + 1600 * 0) (Nat.le_of_ble_eq_true rfl) (Nat.le_of_ble_eq_true rfl) ?_
  exact law_loop l hfl C hXs hbl hL 0 (Nat.zero_le _) _ _ _ _ JV_0 hD hS hl
