def MMf (E : xE) (al : Tg → Nat) (w : Tg → Option va_E) (th : Int32) (nf np na nw : Nat) (sg : Nat → Nat → Nat → Int32) (rc : Nat → Bool) (fr : Nat → Int32) : Prop :=
  w (10, 0, 0) = some (.inr (8, [.int th, .int (nI nw), .int (nI nf), .ref (al (10, 3, 0)), .ref (al (10, 4, 0)), .int (nI np), .ref (al (10, 6, 0)), .ref (al (10, 7, 0)), .ref (al (10, 8, 0)), .ref (al (10, 9, 0)), .int (nI na), .ref (al (10, 11, 0)), .ref (al (10, 12, 0)), .ref (al (10, 13, 0)), .ref (al (10, 14, 0)), .ref (al (10, 15, 0)), .ref (al (10, 16, 0)), .ref (al (10, 17, 0)), .ref (al (10, 18, 0))])) ∧
  w (10, 3, 0) = some (.inl (E.2.1 0, 16, .inl (fun i => sg 1 i 0))) ∧
  w (10, 4, 0) = some (.inl (E.2.1 0, 16, .inl (fun i => sg 2 i 0))) ∧
  w (10, 6, 0) = some (.inl (E.2.1 0, 6, .inl (fun i => sg 3 i 0))) ∧
  w (10, 7, 0) = some (.inl (E.2.1 0, 96, .inl (fun k => sg 4 (k / 16) (k % 16)))) ∧
  w (10, 8, 0) = some (.inl (E.2.1 0, 96, .inl (fun k => sg 5 (k / 16) (k % 16)))) ∧
  w (10, 9, 0) = some (.inl (E.2.1 0, 96, .inl (fun k => sg 6 (k / 16) (k % 16)))) ∧
  w (10, 11, 0) = some (.inl (E.2.1 0, 150, .inl (fun a => sg 7 a 0))) ∧
  w (10, 12, 0) = some (.inl (E.2.1 0, 150, .inl (fun a => sg 8 a 0))) ∧
  w (10, 13, 0) = some (.inl (E.2.1 0, 150, .inl (fun a => sg 9 a 0))) ∧
  w (10, 14, 0) = some (.inl (E.2.1 0, 150, .inl (fun a => sg 10 a 0))) ∧
  w (10, 15, 0) = some (.inl (E.2.1 0, 150, .inl (fun a => sg 11 a 0))) ∧
  w (10, 16, 0) = some (.inl (E.2.1 2, 150, .inl (fun a => ob (rc a)))) ∧
  w (10, 17, 0) = some (.inl (E.2.1 0, 36, .inl (fun k => sg 13 (k / 6) (k % 6)))) ∧
  w (10, 18, 0) = some (.inl (E.2.1 0, 16, .inl fr))
def inB (v a b : Int32) : Bool := decide (a ≤ v) && decide (v ≤ b)
theorem inB_iff {v a b : Int32} : inB v a b = true ↔ a ≤ v ∧ v ≤ b := by unfold inB; rw [Bool.and_eq_true, decide_eq_true_iff, decide_eq_true_iff]
theorem inB_t {v a b : Int32} (h : inB v a b = true) : a ≤ v ∧ v ≤ b := inB_iff.mp h
theorem inB_f {v a b : Int32} (h : inB v a b = false) : ¬ (a ≤ v ∧ v ≤ b) := fun q => by rw [inB_iff.mpr q] at h; cases h
def inRb (x : Int32) (n : Nat) : Bool := inB x (nI 0) (dI n)
theorem inRb_iff {x : Int32} {n : Nat} (hn : n < 2 ^ 31) : inRb x n = true ↔ inR x n := by
  unfold inRb
  rw [inB_iff]
  constructor
  · rintro ⟨h1, h2⟩
    obtain ⟨j, hj, rfl⟩ := nI_of (x := x) (Int32.not_lt.mpr h1)
    cases n with
    | zero => exact absurd h2 (by rw [show dI 0 = -1 by decide +kernel]; exact Int32.not_le.mpr (Int32.lt_of_lt_of_le (by decide) h1))
    | succ n =>
      rw [dI_s] at h2
      exact ⟨j, by have := (nI_leI hj (by omega)).mp h2; omega, rfl⟩
  · rintro ⟨j, hj, rfl⟩
    cases n with
    | zero => omega
    | succ n => rw [dI_s]; exact ⟨nI_le (Nat.zero_le j) (by omega), nI_le (by omega) (by omega)⟩
def qB (nf : Nat) (x bit : Int32) : Bool := decide (0 < x) && (decide (x < nI 1 <<< (nI nf &&& 31)) && inB bit (-1) (nI 7))
theorem q_sh : ∀ n, n ≤ 16 → (nI 1 <<< (nI n &&& 31)) = nI (2 ^ n) := by decide +kernel
theorem qB_iff {nf : Nat} {x bit : Int32} (h : nf ≤ 16) : qB nf x bit = true ↔ Qok nf x bit := by
  unfold qB Qok
  rw [q_sh nf h, Bool.and_eq_true, Bool.and_eq_true, decide_eq_true_iff, decide_eq_true_iff, inB_iff]
  obtain ⟨k, hk⟩ : ∃ k, 2 ^ nf = k + 1 := ⟨2 ^ nf - 1, by have := Nat.two_pow_pos nf; omega⟩
  have h2 : 2 ^ nf ≤ 2 ^ 16 := Nat.pow_le_pow_right (by decide) h
  rw [hk, dI_sub, dI_s]
  rw [hk] at h2
  constructor
  · rintro ⟨a, b, c⟩
    obtain ⟨j, hj, rfl⟩ := nI_of (x := x) (fun q => Int32.lt_irrefl (Int32.lt_trans a q))
    have a' := (nI_gt0 hj).mp a
    have b' := (nI_ltI hj (by omega)).mp b
    exact ⟨⟨nI_le (by omega) hj, nI_le (by omega) (by omega)⟩, c⟩
  · rintro ⟨⟨a, b⟩, c⟩
    obtain ⟨j, hj, rfl⟩ := nI_of (x := x) (fun q => Int32.lt_irrefl (Int32.lt_of_lt_of_le q (Int32.le_trans (by decide : (0 : Int32) ≤ nI 1) a)))
    have a' := (nI_leI (by omega) hj).mp a
    have b' := (nI_leI hj (by omega)).mp b
    exact ⟨(nI_gt0 hj).mpr (by omega), (nI_ltI hj (by omega)).mpr (by omega), c⟩
set_option maxHeartbeats 4000000 in
set_option maxRecDepth 100000 in
theorem m_in (l : Launch) {E : xE} {base : Nat} {al : Tg → Nat} {w : Tg → Option va_E} {v a b : Int32} : xMet l yX7_in cX7_in 3 (some (.boolean)) ({ frames := 0, cells := 0, slots := 0, locals := 0 } : Room) E base [.int v, .int a, .int b] (fun H => xH E base al w H) (fun r H => r = some (.int (ob (inB v a b))) ∧ xH E base al w H) := by
  refine xMet.of (by decide +kernel) "DataroomModel" rfl (Nat.le_of_ble_eq_true rfl) ?_
  intro p9 e9 s m9 below meth c9 ls C hin hP hS hl
  have hx := C.hx
  have hb := C.hb
  have hH := hP
  have hl : lv_has ls 3 [(0, .int v), (1, .int a), (2, .int b)] := hl
  obtain ⟨post, hpost⟩ : ∃ zz9 : Option Value → Heap → Prop, zz9 = (fun r H => r = some (.int (ob (inB v a b))) ∧ xH E base al w H) := ⟨_, rfl⟩
  rw [← hpost]
  generalize hQ : (MQ below (xQ base post) ([.int v, .int a, .int b] : List Value).toArray s 0 0 (xA base)) = Q
  refine lv_iload_n hx hb dX7_in_0 rfl (lv_at hl 0 rfl) ?_
  refine lv_iload_n hx hb dX7_in_1 rfl (lv_at hl 1 rfl) ?_
  refine lv_icmp_lt (tgt := 14) hx hb dX7_in_2 (by decide) (fun c_1 => ?_) (fun c_1 => ?_)
  · skip
    refine lv_iconst (v := nI 0) hx hb dX7_in_14 (by decide +kernel) ?_
    rw [← hQ]
    refine x_reti C rfl hS (Nat.le_of_ble_eq_true rfl) (Nat.le_of_ble_eq_true rfl) dX7_in_15 ?_
    rw [hpost]
    exact ⟨by rw [show inB v a b = false by unfold inB; rw [decide_eq_false (Int32.not_le.mpr c_1)]; rfl]; rfl, hH⟩
  · skip
    refine lv_iload_n hx hb dX7_in_5 rfl (lv_at hl 0 rfl) ?_
    refine lv_iload_n hx hb dX7_in_6 rfl (lv_at hl 2 rfl) ?_
    refine lv_icmp_gt (tgt := 14) hx hb dX7_in_7 (by decide) (fun c_2 => ?_) (fun c_2 => ?_)
    · skip
      refine lv_iconst (v := nI 0) hx hb dX7_in_14 (by decide +kernel) ?_
      rw [← hQ]
      refine x_reti C rfl hS (Nat.le_of_ble_eq_true rfl) (Nat.le_of_ble_eq_true rfl) dX7_in_15 ?_
      rw [hpost]
      exact ⟨by rw [show inB v a b = false by unfold inB; rw [decide_eq_false (p := v ≤ b) (Int32.not_le.mpr c_2)]; simp]; rfl, hH⟩
    · skip
      refine lv_iconst (v := nI 1) hx hb dX7_in_10 (by decide +kernel) ?_
      refine lv_goto (tgt := 15) hx hb dX7_in_11 (by decide) ?_
      rw [← hQ]
      refine x_reti C rfl hS (Nat.le_of_ble_eq_true rfl) (Nat.le_of_ble_eq_true rfl) dX7_in_15 ?_
      rw [hpost]
      exact ⟨by rw [show inB v a b = true by unfold inB; rw [decide_eq_true (Int32.not_lt.mp c_1), decide_eq_true (Int32.not_lt.mp c_2)]; rfl]; rfl, hH⟩

set_option maxHeartbeats 4000000 in
set_option maxRecDepth 100000 in
theorem m_isFile (l : Launch) {E : xE} {base : Nat} {al : Tg → Nat} {w : Tg → Option va_E} {th : Int32} {nf np na nw : Nat} {sg : Nat → Nat → Nat → Int32} {rc : Nat → Bool} {fr : Nat → Int32} (hMM : MMf E al w th nf np na nw sg rc fr) {x : Int32} : xMet l yX7_isFile cX7_isFile 2 (some (.boolean)) ({ frames := 1, cells := 0, slots := 0, locals := 22 } : Room) E base [.ref (al (10, 0, 0)), .int x] (fun H => xH E base al w H) (fun r H => r = some (.int (ob (inRb x nf))) ∧ xH E base al w H) := by
  refine xMet.of (by decide +kernel) "DataroomModel" rfl (Nat.le_of_ble_eq_true rfl) ?_
  intro p9 e9 s m9 below meth c9 ls C hin hP hS hl
  have hx := C.hx
  have hb := C.hb
  have hH := hP
  have hl : lv_has ls 2 [(0, .ref (al (10, 0, 0))), (1, .int x)] := hl
  obtain ⟨post, hpost⟩ : ∃ zz9 : Option Value → Heap → Prop, zz9 = (fun r H => r = some (.int (ob (inRb x nf))) ∧ xH E base al w H) := ⟨_, rfl⟩
  rw [← hpost]
  generalize hQ : (MQ below (xQ base post) ([.ref (al (10, 0, 0)), .int x] : List Value).toArray s 0 0 (xA base)) = Q
  have hMM0 := hMM
  obtain ⟨hM, mm3, mm4, mm6, mm7, mm8, mm9, mm11, mm12, mm13, mm14, mm15, mm16, mm17, mm18⟩ := hMM
  refine lv_iload_n hx hb dX7_isFile_0 rfl (lv_at hl 1 rfl) ?_
  refine lv_iconst (v := nI 0) hx hb dX7_isFile_1 (by decide +kernel) ?_
  refine lv_aload_n hx hb dX7_isFile_2 rfl (lv_at hl 0 rfl) ?_
  refine x_get C hH (ci := 8) (T := TX7) (N := 19) hM rfl iWX7 2 (by decide) qw_698 rfl rfl dX7_isFile_3 ?_
  refine lv_iconst (v := nI 1) hx hb dX7_isFile_6 (by decide +kernel) ?_
  refine lv_isub hx hb dX7_isFile_7 ?_
  refine lv_re (dI_sub _) ?_
  refine x_callS C hS (m_in l (E := E) (base := base) (al := al) (w := w) (v := x) (a := nI 0) (b := dI nf)) hH kX7_in qw_764 qw_763  rfl [] rfl hl.1 (Nat.le_of_ble_eq_true rfl) ⟨Nat.le_of_ble_eq_true rfl, Nat.le_of_ble_eq_true rfl⟩ dX7_isFile_8 ⟨Nat.le_of_ble_eq_true rfl, Nat.le_of_ble_eq_true rfl⟩ (fun r_2 H locs hp_1 hS => ?_)
  obtain ⟨rfl, hH⟩ := hp_1
  rw [← hQ]
  refine x_reti C ob_nar hS (Nat.le_of_ble_eq_true rfl) (Nat.le_of_ble_eq_true rfl) dX7_isFile_11 ?_
  rw [hpost]
  exact ⟨by unfold inRb; exact rfl, hH⟩

set_option maxHeartbeats 4000000 in
set_option maxRecDepth 100000 in
theorem m_isParty (l : Launch) {E : xE} {base : Nat} {al : Tg → Nat} {w : Tg → Option va_E} {th : Int32} {nf np na nw : Nat} {sg : Nat → Nat → Nat → Int32} {rc : Nat → Bool} {fr : Nat → Int32} (hMM : MMf E al w th nf np na nw sg rc fr) {x : Int32} : xMet l yX7_isParty cX7_isParty 2 (some (.boolean)) ({ frames := 1, cells := 0, slots := 0, locals := 22 } : Room) E base [.ref (al (10, 0, 0)), .int x] (fun H => xH E base al w H) (fun r H => r = some (.int (ob (inRb x np))) ∧ xH E base al w H) := by
  refine xMet.of (by decide +kernel) "DataroomModel" rfl (Nat.le_of_ble_eq_true rfl) ?_
  intro p9 e9 s m9 below meth c9 ls C hin hP hS hl
  have hx := C.hx
  have hb := C.hb
  have hH := hP
  have hl : lv_has ls 2 [(0, .ref (al (10, 0, 0))), (1, .int x)] := hl
  obtain ⟨post, hpost⟩ : ∃ zz9 : Option Value → Heap → Prop, zz9 = (fun r H => r = some (.int (ob (inRb x np))) ∧ xH E base al w H) := ⟨_, rfl⟩
  rw [← hpost]
  generalize hQ : (MQ below (xQ base post) ([.ref (al (10, 0, 0)), .int x] : List Value).toArray s 0 0 (xA base)) = Q
  have hMM0 := hMM
  obtain ⟨hM, mm3, mm4, mm6, mm7, mm8, mm9, mm11, mm12, mm13, mm14, mm15, mm16, mm17, mm18⟩ := hMM
  refine lv_iload_n hx hb dX7_isParty_0 rfl (lv_at hl 1 rfl) ?_
  refine lv_iconst (v := nI 0) hx hb dX7_isParty_1 (by decide +kernel) ?_
  refine lv_aload_n hx hb dX7_isParty_2 rfl (lv_at hl 0 rfl) ?_
  refine x_get C hH (ci := 8) (T := TX7) (N := 19) hM rfl iWX7 5 (by decide) qw_701 rfl rfl dX7_isParty_3 ?_
  refine lv_iconst (v := nI 1) hx hb dX7_isParty_6 (by decide +kernel) ?_
  refine lv_isub hx hb dX7_isParty_7 ?_
  refine lv_re (dI_sub _) ?_
  refine x_callS C hS (m_in l (E := E) (base := base) (al := al) (w := w) (v := x) (a := nI 0) (b := dI np)) hH kX7_in qw_764 qw_763  rfl [] rfl hl.1 (Nat.le_of_ble_eq_true rfl) ⟨Nat.le_of_ble_eq_true rfl, Nat.le_of_ble_eq_true rfl⟩ dX7_isParty_8 ⟨Nat.le_of_ble_eq_true rfl, Nat.le_of_ble_eq_true rfl⟩ (fun r_2 H locs hp_1 hS => ?_)
  obtain ⟨rfl, hH⟩ := hp_1
  rw [← hQ]
  refine x_reti C ob_nar hS (Nat.le_of_ble_eq_true rfl) (Nat.le_of_ble_eq_true rfl) dX7_isParty_11 ?_
  rw [hpost]
  exact ⟨by unfold inRb; exact rfl, hH⟩

set_option maxHeartbeats 4000000 in
set_option maxRecDepth 100000 in
theorem m_isAsked (l : Launch) {E : xE} {base : Nat} {al : Tg → Nat} {w : Tg → Option va_E} {x : Int32} {k : Nat} : xMet l yX7_isAsked cX7_isAsked 2 (some (.boolean)) ({ frames := 0, cells := 0, slots := 0, locals := 0 } : Room) E base [.int x, .int (nI k)] (fun H => xH E base al w H) (fun r H => r = some (.int (ob (cov x k))) ∧ xH E base al w H) := by
  refine xMet.of (by decide +kernel) "DataroomModel" rfl (Nat.le_of_ble_eq_true rfl) ?_
  intro p9 e9 s m9 below meth c9 ls C hin hP hS hl
  have hx := C.hx
  have hb := C.hb
  have hH := hP
  have hl : lv_has ls 2 [(0, .int x), (1, .int (nI k))] := hl
  obtain ⟨post, hpost⟩ : ∃ zz9 : Option Value → Heap → Prop, zz9 = (fun r H => r = some (.int (ob (cov x k))) ∧ xH E base al w H) := ⟨_, rfl⟩
  rw [← hpost]
  generalize hQ : (MQ below (xQ base post) ([.int x, .int (nI k)] : List Value).toArray s 0 0 (xA base)) = Q
  refine lv_iload_n hx hb dX7_isAsked_0 rfl (lv_at hl 0 rfl) ?_
  refine lv_iconst (v := (-1)) hx hb dX7_isAsked_1 (by decide +kernel) ?_
  refine lv_icmp_eq (tgt := 10) hx hb dX7_isAsked_2 (by decide) (fun c_1 => ?_) (fun c_1 => ?_)
  · skip
    refine lv_iconst (v := nI 1) hx hb dX7_isAsked_10 (by decide +kernel) ?_
    refine lv_goto (tgt := 15) hx hb dX7_isAsked_11 (by decide) ?_
    rw [← hQ]
    refine x_reti C rfl hS (Nat.le_of_ble_eq_true rfl) (Nat.le_of_ble_eq_true rfl) dX7_isAsked_15 ?_
    rw [hpost]
    exact ⟨by rw [show cov x k = true by unfold cov; simp [c_1]]; rfl, hH⟩
  · skip
    refine lv_iload_n hx hb dX7_isAsked_5 rfl (lv_at hl 0 rfl) ?_
    refine lv_iload_n hx hb dX7_isAsked_6 rfl (lv_at hl 1 rfl) ?_
    refine lv_icmp_ne (tgt := 14) hx hb dX7_isAsked_7 (by decide) (fun c_2 => ?_) (fun c_2 => ?_)
    · skip
      refine lv_iconst (v := nI 0) hx hb dX7_isAsked_14 (by decide +kernel) ?_
      rw [← hQ]
      refine x_reti C rfl hS (Nat.le_of_ble_eq_true rfl) (Nat.le_of_ble_eq_true rfl) dX7_isAsked_15 ?_
      rw [hpost]
      exact ⟨by rw [show cov x k = false by unfold cov; simp [c_1, c_2]]; rfl, hH⟩
    · skip
      refine lv_iconst (v := nI 1) hx hb dX7_isAsked_10 (by decide +kernel) ?_
      refine lv_goto (tgt := 15) hx hb dX7_isAsked_11 (by decide) ?_
      rw [← hQ]
      refine x_reti C rfl hS (Nat.le_of_ble_eq_true rfl) (Nat.le_of_ble_eq_true rfl) dX7_isAsked_15 ?_
      rw [hpost]
      exact ⟨by rw [show cov x k = true by unfold cov; simp [c_1, c_2]]; rfl, hH⟩

set_option maxHeartbeats 4000000 in
set_option maxRecDepth 100000 in
theorem m_isQ (l : Launch) {E : xE} {base : Nat} {al : Tg → Nat} {w : Tg → Option va_E} {th : Int32} {nf np na nw : Nat} {sg : Nat → Nat → Nat → Int32} {rc : Nat → Bool} {fr : Nat → Int32} (hMM : MMf E al w th nf np na nw sg rc fr) {x bit : Int32} : xMet l yX7_isQuestion cX7_isQuestion 3 (some (.boolean)) ({ frames := 1, cells := 0, slots := 0, locals := 22 } : Room) E base [.ref (al (10, 0, 0)), .int x, .int bit] (fun H => xH E base al w H) (fun r H => r = some (.int (ob (qB nf x bit))) ∧ xH E base al w H) := by
  refine xMet.of (by decide +kernel) "DataroomModel" rfl (Nat.le_of_ble_eq_true rfl) ?_
  intro p9 e9 s m9 below meth c9 ls C hin hP hS hl
  have hx := C.hx
  have hb := C.hb
  have hH := hP
  have hl : lv_has ls 3 [(0, .ref (al (10, 0, 0))), (1, .int x), (2, .int bit)] := hl
  obtain ⟨post, hpost⟩ : ∃ zz9 : Option Value → Heap → Prop, zz9 = (fun r H => r = some (.int (ob (qB nf x bit))) ∧ xH E base al w H) := ⟨_, rfl⟩
  rw [← hpost]
  generalize hQ : (MQ below (xQ base post) ([.ref (al (10, 0, 0)), .int x, .int bit] : List Value).toArray s 0 0 (xA base)) = Q
  have hMM0 := hMM
  obtain ⟨hM, mm3, mm4, mm6, mm7, mm8, mm9, mm11, mm12, mm13, mm14, mm15, mm16, mm17, mm18⟩ := hMM
  refine lv_iload_n hx hb dX7_isQuestion_0 rfl (lv_at hl 1 rfl) ?_
  refine lv_if_le (tgt := 28) hx hb dX7_isQuestion_1 (by decide) (fun c_1 => ?_) (fun c_1 => ?_)
  · skip
    refine lv_iconst (v := nI 0) hx hb dX7_isQuestion_28 (by decide +kernel) ?_
    rw [← hQ]
    refine x_reti C rfl hS (Nat.le_of_ble_eq_true rfl) (Nat.le_of_ble_eq_true rfl) dX7_isQuestion_29 ?_
    rw [hpost]
    exact ⟨by rw [show qB nf x bit = false by unfold qB; simp [Int32.not_lt.mpr c_1]]; rfl, hH⟩
  · skip
    refine lv_iload_n hx hb dX7_isQuestion_4 rfl (lv_at hl 1 rfl) ?_
    refine lv_iconst (v := nI 1) hx hb dX7_isQuestion_5 (by decide +kernel) ?_
    refine lv_aload_n hx hb dX7_isQuestion_6 rfl (lv_at hl 0 rfl) ?_
    refine x_get C hH (ci := 8) (T := TX7) (N := 19) hM rfl iWX7 2 (by decide) qw_698 rfl rfl dX7_isQuestion_7 ?_
    refine lv_ishl hx hb dX7_isQuestion_10 ?_
    refine lv_icmp_ge (tgt := 28) hx hb dX7_isQuestion_11 (by decide) (fun c_2 => ?_) (fun c_2 => ?_)
    · skip
      refine lv_iconst (v := nI 0) hx hb dX7_isQuestion_28 (by decide +kernel) ?_
      rw [← hQ]
      refine x_reti C rfl hS (Nat.le_of_ble_eq_true rfl) (Nat.le_of_ble_eq_true rfl) dX7_isQuestion_29 ?_
      rw [hpost]
      exact ⟨by rw [show qB nf x bit = false by unfold qB; simp [Int32.not_le.mp c_1, Int32.not_lt.mpr c_2]]; rfl, hH⟩
    · skip
      refine lv_iload_n hx hb dX7_isQuestion_14 rfl (lv_at hl 2 rfl) ?_
      refine lv_iconst (v := (-1)) hx hb dX7_isQuestion_15 (by decide +kernel) ?_
      refine lv_bipush (v := nI 7) hx hb dX7_isQuestion_16 (by decide +kernel) ?_
      refine x_callS C hS (m_in l (E := E) (base := base) (al := al) (w := w) (v := bit) (a := (-1)) (b := nI 7)) hH kX7_in qw_764 qw_763  rfl [] rfl hl.1 (Nat.le_of_ble_eq_true rfl) ⟨Nat.le_of_ble_eq_true rfl, Nat.le_of_ble_eq_true rfl⟩ dX7_isQuestion_18 ⟨Nat.le_of_ble_eq_true rfl, Nat.le_of_ble_eq_true rfl⟩ (fun r_4 H locs hp_3 hS => ?_)
      obtain ⟨rfl, hH⟩ := hp_3
      refine lv_if_eq (tgt := 28) hx hb dX7_isQuestion_21 (by decide) (fun c_5 => ?_) (fun c_5 => ?_)
      · skip
        replace c_5 := ob_0.mp c_5
        refine lv_iconst (v := nI 0) hx hb dX7_isQuestion_28 (by decide +kernel) ?_
        rw [← hQ]
        refine x_reti C rfl hS (Nat.le_of_ble_eq_true rfl) (Nat.le_of_ble_eq_true rfl) dX7_isQuestion_29 ?_
        rw [hpost]
        exact ⟨by rw [show qB nf x bit = false by unfold qB; simp [Int32.not_le.mp c_1, Int32.not_le.mp c_2, c_5]]; rfl, hH⟩
      · skip
        replace c_5 := ob_n.mp c_5
        refine lv_iconst (v := nI 1) hx hb dX7_isQuestion_24 (by decide +kernel) ?_
        refine lv_goto (tgt := 29) hx hb dX7_isQuestion_25 (by decide) ?_
        rw [← hQ]
        refine x_reti C rfl hS (Nat.le_of_ble_eq_true rfl) (Nat.le_of_ble_eq_true rfl) dX7_isQuestion_29 ?_
        rw [hpost]
        exact ⟨by rw [show qB nf x bit = true by unfold qB; simp [Int32.not_le.mp c_1, Int32.not_le.mp c_2, c_5]]; rfl, hH⟩

set_option maxHeartbeats 4000000 in
set_option maxRecDepth 100000 in
theorem m_thrown (l : Launch) {E : xE} {base : Nat} {al : Tg → Nat} {w : Tg → Option va_E} {th : Int32} {nf np na nw : Nat} {sg : Nat → Nat → Nat → Int32} {rc : Nat → Bool} {fr : Nat → Int32} (hMM : MMf E al w th nf np na nw sg rc fr)  : xMet l yX7_thrown cX7_thrown 1 (some (.int)) ({ frames := 0, cells := 0, slots := 0, locals := 0 } : Room) E base [.ref (al (10, 0, 0))] (fun H => xH E base al w H) (fun r H => r = some (.int th) ∧ xH E base al w H) := by
  refine xMet.of (by decide +kernel) "DataroomModel" rfl (Nat.le_of_ble_eq_true rfl) ?_
  intro p9 e9 s m9 below meth c9 ls C hin hP hS hl
  have hx := C.hx
  have hb := C.hb
  have hH := hP
  have hl : lv_has ls 1 [(0, .ref (al (10, 0, 0)))] := hl
  obtain ⟨post, hpost⟩ : ∃ zz9 : Option Value → Heap → Prop, zz9 = (fun r H => r = some (.int th) ∧ xH E base al w H) := ⟨_, rfl⟩
  rw [← hpost]
  generalize hQ : (MQ below (xQ base post) ([.ref (al (10, 0, 0))] : List Value).toArray s 0 0 (xA base)) = Q
  have hMM0 := hMM
  obtain ⟨hM, mm3, mm4, mm6, mm7, mm8, mm9, mm11, mm12, mm13, mm14, mm15, mm16, mm17, mm18⟩ := hMM
  refine lv_aload_n hx hb dX7_thrown_0 rfl (lv_at hl 0 rfl) ?_
  refine x_get C hH (ci := 8) (T := TX7) (N := 19) hM rfl iWX7 0 (by decide) qw_696 rfl rfl dX7_thrown_1 ?_
  rw [← hQ]
  refine x_reti C rfl hS (Nat.le_of_ble_eq_true rfl) (Nat.le_of_ble_eq_true rfl) dX7_thrown_4 ?_
  rw [hpost]
  exact ⟨rfl, hH⟩

set_option maxHeartbeats 4000000 in
set_option maxRecDepth 100000 in
theorem m_goes (l : Launch) {E : xE} {base : Nat} {al : Tg → Nat} {w : Tg → Option va_E} {th : Int32} {nf np na nw : Nat} {sg : Nat → Nat → Nat → Int32} {rc : Nat → Bool} {fr : Nat → Int32} (hMM : MMf E al w th nf np na nw sg rc fr) {k : Nat} (hk : k < 4) : xMet l yX7_goesWell cX7_goesWell 2 (some (.boolean)) ({ frames := 0, cells := 0, slots := 0, locals := 0 } : Room) E base [.ref (al (10, 0, 0)), .int (nI k)] (fun H => xH E base al w H) (fun r H => r = some (.int (ob (decide (k = 0)))) ∧ xH E base al (xu w (10, 0, 0) (.inr (8, [.int (nI k), .int (nI nw), .int (nI nf), .ref (al (10, 3, 0)), .ref (al (10, 4, 0)), .int (nI np), .ref (al (10, 6, 0)), .ref (al (10, 7, 0)), .ref (al (10, 8, 0)), .ref (al (10, 9, 0)), .int (nI na), .ref (al (10, 11, 0)), .ref (al (10, 12, 0)), .ref (al (10, 13, 0)), .ref (al (10, 14, 0)), .ref (al (10, 15, 0)), .ref (al (10, 16, 0)), .ref (al (10, 17, 0)), .ref (al (10, 18, 0))]))) H) := by
  refine xMet.of (by decide +kernel) "DataroomModel" rfl (Nat.le_of_ble_eq_true rfl) ?_
  intro p9 e9 s m9 below meth c9 ls C hin hP hS hl
  have hx := C.hx
  have hb := C.hb
  have hH := hP
  have hl : lv_has ls 2 [(0, .ref (al (10, 0, 0))), (1, .int (nI k))] := hl
  obtain ⟨post, hpost⟩ : ∃ zz9 : Option Value → Heap → Prop, zz9 = (fun r H => r = some (.int (ob (decide (k = 0)))) ∧ xH E base al (xu w (10, 0, 0) (.inr (8, [.int (nI k), .int (nI nw), .int (nI nf), .ref (al (10, 3, 0)), .ref (al (10, 4, 0)), .int (nI np), .ref (al (10, 6, 0)), .ref (al (10, 7, 0)), .ref (al (10, 8, 0)), .ref (al (10, 9, 0)), .int (nI na), .ref (al (10, 11, 0)), .ref (al (10, 12, 0)), .ref (al (10, 13, 0)), .ref (al (10, 14, 0)), .ref (al (10, 15, 0)), .ref (al (10, 16, 0)), .ref (al (10, 17, 0)), .ref (al (10, 18, 0))]))) H) := ⟨_, rfl⟩
  rw [← hpost]
  generalize hQ : (MQ below (xQ base post) ([.ref (al (10, 0, 0)), .int (nI k)] : List Value).toArray s 0 0 (xA base)) = Q
  have hMM0 := hMM
  obtain ⟨hM, mm3, mm4, mm6, mm7, mm8, mm9, mm11, mm12, mm13, mm14, mm15, mm16, mm17, mm18⟩ := hMM
  refine lv_aload_n hx hb dX7_goesWell_0 rfl (lv_at hl 0 rfl) ?_
  refine lv_iload_n hx hb dX7_goesWell_1 rfl (lv_at hl 1 rfl) ?_
  refine x_put C hH hS (ci := 8) (T := TX7) (N := 19) (fs' := [.int (nI k), .int (nI nw), .int (nI nf), .ref (al (10, 3, 0)), .ref (al (10, 4, 0)), .int (nI np), .ref (al (10, 6, 0)), .ref (al (10, 7, 0)), .ref (al (10, 8, 0)), .ref (al (10, 9, 0)), .int (nI na), .ref (al (10, 11, 0)), .ref (al (10, 12, 0)), .ref (al (10, 13, 0)), .ref (al (10, 14, 0)), .ref (al (10, 15, 0)), .ref (al (10, 16, 0)), .ref (al (10, 17, 0)), .ref (al (10, 18, 0))]) hM rfl iWX7 tyX7 tyX7_ok nmX7 0 (by decide) qw_696 rfl rfl rfl rfl (Nat.le_of_ble_eq_true rfl) rfl dX7_goesWell_2 (fun H locs hH hS => ?_)
  have mm3 := xu_of (t := (10, 0, 0)) (e := .inr (8, [.int (nI k), .int (nI nw), .int (nI nf), .ref (al (10, 3, 0)), .ref (al (10, 4, 0)), .int (nI np), .ref (al (10, 6, 0)), .ref (al (10, 7, 0)), .ref (al (10, 8, 0)), .ref (al (10, 9, 0)), .int (nI na), .ref (al (10, 11, 0)), .ref (al (10, 12, 0)), .ref (al (10, 13, 0)), .ref (al (10, 14, 0)), .ref (al (10, 15, 0)), .ref (al (10, 16, 0)), .ref (al (10, 17, 0)), .ref (al (10, 18, 0))])) (by simp) mm3
  have mm4 := xu_of (t := (10, 0, 0)) (e := .inr (8, [.int (nI k), .int (nI nw), .int (nI nf), .ref (al (10, 3, 0)), .ref (al (10, 4, 0)), .int (nI np), .ref (al (10, 6, 0)), .ref (al (10, 7, 0)), .ref (al (10, 8, 0)), .ref (al (10, 9, 0)), .int (nI na), .ref (al (10, 11, 0)), .ref (al (10, 12, 0)), .ref (al (10, 13, 0)), .ref (al (10, 14, 0)), .ref (al (10, 15, 0)), .ref (al (10, 16, 0)), .ref (al (10, 17, 0)), .ref (al (10, 18, 0))])) (by simp) mm4
  have mm6 := xu_of (t := (10, 0, 0)) (e := .inr (8, [.int (nI k), .int (nI nw), .int (nI nf), .ref (al (10, 3, 0)), .ref (al (10, 4, 0)), .int (nI np), .ref (al (10, 6, 0)), .ref (al (10, 7, 0)), .ref (al (10, 8, 0)), .ref (al (10, 9, 0)), .int (nI na), .ref (al (10, 11, 0)), .ref (al (10, 12, 0)), .ref (al (10, 13, 0)), .ref (al (10, 14, 0)), .ref (al (10, 15, 0)), .ref (al (10, 16, 0)), .ref (al (10, 17, 0)), .ref (al (10, 18, 0))])) (by simp) mm6
  have mm7 := xu_of (t := (10, 0, 0)) (e := .inr (8, [.int (nI k), .int (nI nw), .int (nI nf), .ref (al (10, 3, 0)), .ref (al (10, 4, 0)), .int (nI np), .ref (al (10, 6, 0)), .ref (al (10, 7, 0)), .ref (al (10, 8, 0)), .ref (al (10, 9, 0)), .int (nI na), .ref (al (10, 11, 0)), .ref (al (10, 12, 0)), .ref (al (10, 13, 0)), .ref (al (10, 14, 0)), .ref (al (10, 15, 0)), .ref (al (10, 16, 0)), .ref (al (10, 17, 0)), .ref (al (10, 18, 0))])) (by simp) mm7
  have mm8 := xu_of (t := (10, 0, 0)) (e := .inr (8, [.int (nI k), .int (nI nw), .int (nI nf), .ref (al (10, 3, 0)), .ref (al (10, 4, 0)), .int (nI np), .ref (al (10, 6, 0)), .ref (al (10, 7, 0)), .ref (al (10, 8, 0)), .ref (al (10, 9, 0)), .int (nI na), .ref (al (10, 11, 0)), .ref (al (10, 12, 0)), .ref (al (10, 13, 0)), .ref (al (10, 14, 0)), .ref (al (10, 15, 0)), .ref (al (10, 16, 0)), .ref (al (10, 17, 0)), .ref (al (10, 18, 0))])) (by simp) mm8
  have mm9 := xu_of (t := (10, 0, 0)) (e := .inr (8, [.int (nI k), .int (nI nw), .int (nI nf), .ref (al (10, 3, 0)), .ref (al (10, 4, 0)), .int (nI np), .ref (al (10, 6, 0)), .ref (al (10, 7, 0)), .ref (al (10, 8, 0)), .ref (al (10, 9, 0)), .int (nI na), .ref (al (10, 11, 0)), .ref (al (10, 12, 0)), .ref (al (10, 13, 0)), .ref (al (10, 14, 0)), .ref (al (10, 15, 0)), .ref (al (10, 16, 0)), .ref (al (10, 17, 0)), .ref (al (10, 18, 0))])) (by simp) mm9
  have mm11 := xu_of (t := (10, 0, 0)) (e := .inr (8, [.int (nI k), .int (nI nw), .int (nI nf), .ref (al (10, 3, 0)), .ref (al (10, 4, 0)), .int (nI np), .ref (al (10, 6, 0)), .ref (al (10, 7, 0)), .ref (al (10, 8, 0)), .ref (al (10, 9, 0)), .int (nI na), .ref (al (10, 11, 0)), .ref (al (10, 12, 0)), .ref (al (10, 13, 0)), .ref (al (10, 14, 0)), .ref (al (10, 15, 0)), .ref (al (10, 16, 0)), .ref (al (10, 17, 0)), .ref (al (10, 18, 0))])) (by simp) mm11
  have mm12 := xu_of (t := (10, 0, 0)) (e := .inr (8, [.int (nI k), .int (nI nw), .int (nI nf), .ref (al (10, 3, 0)), .ref (al (10, 4, 0)), .int (nI np), .ref (al (10, 6, 0)), .ref (al (10, 7, 0)), .ref (al (10, 8, 0)), .ref (al (10, 9, 0)), .int (nI na), .ref (al (10, 11, 0)), .ref (al (10, 12, 0)), .ref (al (10, 13, 0)), .ref (al (10, 14, 0)), .ref (al (10, 15, 0)), .ref (al (10, 16, 0)), .ref (al (10, 17, 0)), .ref (al (10, 18, 0))])) (by simp) mm12
  have mm13 := xu_of (t := (10, 0, 0)) (e := .inr (8, [.int (nI k), .int (nI nw), .int (nI nf), .ref (al (10, 3, 0)), .ref (al (10, 4, 0)), .int (nI np), .ref (al (10, 6, 0)), .ref (al (10, 7, 0)), .ref (al (10, 8, 0)), .ref (al (10, 9, 0)), .int (nI na), .ref (al (10, 11, 0)), .ref (al (10, 12, 0)), .ref (al (10, 13, 0)), .ref (al (10, 14, 0)), .ref (al (10, 15, 0)), .ref (al (10, 16, 0)), .ref (al (10, 17, 0)), .ref (al (10, 18, 0))])) (by simp) mm13
  have mm14 := xu_of (t := (10, 0, 0)) (e := .inr (8, [.int (nI k), .int (nI nw), .int (nI nf), .ref (al (10, 3, 0)), .ref (al (10, 4, 0)), .int (nI np), .ref (al (10, 6, 0)), .ref (al (10, 7, 0)), .ref (al (10, 8, 0)), .ref (al (10, 9, 0)), .int (nI na), .ref (al (10, 11, 0)), .ref (al (10, 12, 0)), .ref (al (10, 13, 0)), .ref (al (10, 14, 0)), .ref (al (10, 15, 0)), .ref (al (10, 16, 0)), .ref (al (10, 17, 0)), .ref (al (10, 18, 0))])) (by simp) mm14
  have mm15 := xu_of (t := (10, 0, 0)) (e := .inr (8, [.int (nI k), .int (nI nw), .int (nI nf), .ref (al (10, 3, 0)), .ref (al (10, 4, 0)), .int (nI np), .ref (al (10, 6, 0)), .ref (al (10, 7, 0)), .ref (al (10, 8, 0)), .ref (al (10, 9, 0)), .int (nI na), .ref (al (10, 11, 0)), .ref (al (10, 12, 0)), .ref (al (10, 13, 0)), .ref (al (10, 14, 0)), .ref (al (10, 15, 0)), .ref (al (10, 16, 0)), .ref (al (10, 17, 0)), .ref (al (10, 18, 0))])) (by simp) mm15
  have mm16 := xu_of (t := (10, 0, 0)) (e := .inr (8, [.int (nI k), .int (nI nw), .int (nI nf), .ref (al (10, 3, 0)), .ref (al (10, 4, 0)), .int (nI np), .ref (al (10, 6, 0)), .ref (al (10, 7, 0)), .ref (al (10, 8, 0)), .ref (al (10, 9, 0)), .int (nI na), .ref (al (10, 11, 0)), .ref (al (10, 12, 0)), .ref (al (10, 13, 0)), .ref (al (10, 14, 0)), .ref (al (10, 15, 0)), .ref (al (10, 16, 0)), .ref (al (10, 17, 0)), .ref (al (10, 18, 0))])) (by simp) mm16
  have mm17 := xu_of (t := (10, 0, 0)) (e := .inr (8, [.int (nI k), .int (nI nw), .int (nI nf), .ref (al (10, 3, 0)), .ref (al (10, 4, 0)), .int (nI np), .ref (al (10, 6, 0)), .ref (al (10, 7, 0)), .ref (al (10, 8, 0)), .ref (al (10, 9, 0)), .int (nI na), .ref (al (10, 11, 0)), .ref (al (10, 12, 0)), .ref (al (10, 13, 0)), .ref (al (10, 14, 0)), .ref (al (10, 15, 0)), .ref (al (10, 16, 0)), .ref (al (10, 17, 0)), .ref (al (10, 18, 0))])) (by simp) mm17
  have mm18 := xu_of (t := (10, 0, 0)) (e := .inr (8, [.int (nI k), .int (nI nw), .int (nI nf), .ref (al (10, 3, 0)), .ref (al (10, 4, 0)), .int (nI np), .ref (al (10, 6, 0)), .ref (al (10, 7, 0)), .ref (al (10, 8, 0)), .ref (al (10, 9, 0)), .int (nI na), .ref (al (10, 11, 0)), .ref (al (10, 12, 0)), .ref (al (10, 13, 0)), .ref (al (10, 14, 0)), .ref (al (10, 15, 0)), .ref (al (10, 16, 0)), .ref (al (10, 17, 0)), .ref (al (10, 18, 0))])) (by simp) mm18
  have hM : (xu w (10, 0, 0) (.inr (8, [.int (nI k), .int (nI nw), .int (nI nf), .ref (al (10, 3, 0)), .ref (al (10, 4, 0)), .int (nI np), .ref (al (10, 6, 0)), .ref (al (10, 7, 0)), .ref (al (10, 8, 0)), .ref (al (10, 9, 0)), .int (nI na), .ref (al (10, 11, 0)), .ref (al (10, 12, 0)), .ref (al (10, 13, 0)), .ref (al (10, 14, 0)), .ref (al (10, 15, 0)), .ref (al (10, 16, 0)), .ref (al (10, 17, 0)), .ref (al (10, 18, 0))]))) (10, 0, 0) = some (.inr (8, [.int (nI k), .int (nI nw), .int (nI nf), .ref (al (10, 3, 0)), .ref (al (10, 4, 0)), .int (nI np), .ref (al (10, 6, 0)), .ref (al (10, 7, 0)), .ref (al (10, 8, 0)), .ref (al (10, 9, 0)), .int (nI na), .ref (al (10, 11, 0)), .ref (al (10, 12, 0)), .ref (al (10, 13, 0)), .ref (al (10, 14, 0)), .ref (al (10, 15, 0)), .ref (al (10, 16, 0)), .ref (al (10, 17, 0)), .ref (al (10, 18, 0))])) := xu_self _ _ _
  refine lv_iload_n hx hb dX7_goesWell_5 rfl (lv_at hl 1 rfl) ?_
  refine lv_if_ne (tgt := 13) hx hb dX7_goesWell_6 (by decide) (fun c_1 => ?_) (fun c_1 => ?_)
  · skip
    replace c_1 := mt (nI_eq0 (by omega)).mpr c_1
    refine lv_iconst (v := nI 0) hx hb dX7_goesWell_13 (by decide +kernel) ?_
    rw [← hQ]
    refine x_reti C rfl hS (Nat.le_of_ble_eq_true rfl) (Nat.le_of_ble_eq_true rfl) dX7_goesWell_14 ?_
    rw [hpost]
    exact ⟨by rw [show decide (k = 0) = false from decide_eq_false c_1]; rfl, hH⟩
  · skip
    replace c_1 := (nI_eq0 (by omega)).mp c_1
    refine lv_iconst (v := nI 1) hx hb dX7_goesWell_9 (by decide +kernel) ?_
    refine lv_goto (tgt := 14) hx hb dX7_goesWell_10 (by decide) ?_
    rw [← hQ]
    refine x_reti C rfl hS (Nat.le_of_ble_eq_true rfl) (Nat.le_of_ble_eq_true rfl) dX7_goesWell_14 ?_
    rw [hpost]
    exact ⟨by rw [show decide (k = 0) = true from decide_eq_true c_1]; rfl, hH⟩

set_option maxHeartbeats 4000000 in
set_option maxRecDepth 100000 in
theorem m_rightOf (l : Launch) {E : xE} {base : Nat} {al : Tg → Nat} {w : Tg → Option va_E} {th : Int32} {nf np na nw : Nat} {sg : Nat → Nat → Nat → Int32} {rc : Nat → Bool} {fr : Nat → Int32} (hMM : MMf E al w th nf np na nw sg rc fr) {p f : Nat} (hp : p < 6) (hf : f < 16) : xMet l yX7_rightOf cX7_rightOf 4 (some (.int)) ({ frames := 1, cells := 0, slots := 0, locals := 22 } : Room) E base [.ref (al (10, 0, 0)), .int (nI p), .int (nI f)] (fun H => xH E base al w H) (fun r H => r = some (.int (rIn (sg 4 p f) (sg 5 p f) (sg 6 p f) (nI nw))) ∧ xH E base al w H) := by
  refine xMet.of (by decide +kernel) "DataroomModel" rfl (Nat.le_of_ble_eq_true rfl) ?_
  intro p9 e9 s m9 below meth c9 ls C hin hP hS hl
  have hx := C.hx
  have hb := C.hb
  have hH := hP
  have hl : lv_has ls 4 [(0, .ref (al (10, 0, 0))), (1, .int (nI p)), (2, .int (nI f))] := hl
  obtain ⟨post, hpost⟩ : ∃ zz9 : Option Value → Heap → Prop, zz9 = (fun r H => r = some (.int (rIn (sg 4 p f) (sg 5 p f) (sg 6 p f) (nI nw))) ∧ xH E base al w H) := ⟨_, rfl⟩
  rw [← hpost]
  generalize hQ : (MQ below (xQ base post) ([.ref (al (10, 0, 0)), .int (nI p), .int (nI f)] : List Value).toArray s 0 0 (xA base)) = Q
  have hMM0 := hMM
  obtain ⟨hM, mm3, mm4, mm6, mm7, mm8, mm9, mm11, mm12, mm13, mm14, mm15, mm16, mm17, mm18⟩ := hMM
  refine lv_bipush (v := nI 16) hx hb dX7_rightOf_0 (by decide +kernel) ?_
  refine lv_iload_n hx hb dX7_rightOf_2 rfl (lv_at hl 1 rfl) ?_
  refine lv_imul hx hb dX7_rightOf_3 ?_
  refine lv_re (pk_mul _ _) ?_
  refine lv_iload_n hx hb dX7_rightOf_4 rfl (lv_at hl 2 rfl) ?_
  refine lv_iadd hx hb dX7_rightOf_5 ?_
  refine lv_re (nI_add _ _) ?_
  refine lv_istore_n (lv' := [(3, .int (nI (16 * p + f))), (0, .ref (al (10, 0, 0))), (1, .int (nI p)), (2, .int (nI f))]) hx hb dX7_rightOf_6 rfl hl (by decide) rfl (fun ls hl => ?_)
  refine lv_aload_n hx hb dX7_rightOf_7 rfl (lv_at hl 1 rfl) ?_
  refine x_get C hH (ci := 8) (T := TX7) (N := 19) hM rfl iWX7 7 (by decide) qw_703 rfl rfl dX7_rightOf_8 ?_
  refine lv_iload_n hx hb dX7_rightOf_11 rfl (lv_at hl 0 rfl) ?_
  refine x_iald C hH mm7 (j := 16 * p + f) rfl (by omega) (by omega) dX7_rightOf_12 ?_
  refine lv_re (y := sg 4 p f) (by show sg 4 ((16 * p + f) / 16) ((16 * p + f) % 16) = _; rw [show (16 * p + f) / 16 = p by omega, show (16 * p + f) % 16 = f by omega]) ?_
  refine lv_if_eq (tgt := 47) hx hb dX7_rightOf_13 (by decide) (fun c_1 => ?_) (fun c_1 => ?_)
  · skip
    refine lv_iconst (v := nI 0) hx hb dX7_rightOf_47 (by decide +kernel) ?_
    rw [← hQ]
    refine x_reti C rfl hS (Nat.le_of_ble_eq_true rfl) (Nat.le_of_ble_eq_true rfl) dX7_rightOf_48 ?_
    rw [hpost]
    exact ⟨by unfold rIn; rw [if_pos c_1], hH⟩
  · skip
    refine lv_aload_n hx hb dX7_rightOf_16 rfl (lv_at hl 1 rfl) ?_
    refine x_get C hH (ci := 8) (T := TX7) (N := 19) hM rfl iWX7 1 (by decide) qw_697 rfl rfl dX7_rightOf_17 ?_
    refine lv_aload_n hx hb dX7_rightOf_20 rfl (lv_at hl 1 rfl) ?_
    refine x_get C hH (ci := 8) (T := TX7) (N := 19) hM rfl iWX7 8 (by decide) qw_704 rfl rfl dX7_rightOf_21 ?_
    refine lv_iload_n hx hb dX7_rightOf_24 rfl (lv_at hl 0 rfl) ?_
    refine x_iald C hH mm8 (j := 16 * p + f) rfl (by omega) (by omega) dX7_rightOf_25 ?_
    refine lv_re (y := sg 5 p f) (by show sg 5 ((16 * p + f) / 16) ((16 * p + f) % 16) = _; rw [show (16 * p + f) / 16 = p by omega, show (16 * p + f) % 16 = f by omega]) ?_
    refine lv_aload_n hx hb dX7_rightOf_26 rfl (lv_at hl 1 rfl) ?_
    refine x_get C hH (ci := 8) (T := TX7) (N := 19) hM rfl iWX7 9 (by decide) qw_705 rfl rfl dX7_rightOf_27 ?_
    refine lv_iload_n hx hb dX7_rightOf_30 rfl (lv_at hl 0 rfl) ?_
    refine x_iald C hH mm9 (j := 16 * p + f) rfl (by omega) (by omega) dX7_rightOf_31 ?_
    refine lv_re (y := sg 6 p f) (by show sg 6 ((16 * p + f) / 16) ((16 * p + f) % 16) = _; rw [show (16 * p + f) / 16 = p by omega, show (16 * p + f) % 16 = f by omega]) ?_
    refine x_callS C hS (m_in l (E := E) (base := base) (al := al) (w := w) (v := nI nw) (a := (sg 5 p f)) (b := (sg 6 p f))) hH kX7_in qw_764 qw_763  rfl [] rfl hl.1 (Nat.le_of_ble_eq_true rfl) ⟨Nat.le_of_ble_eq_true rfl, Nat.le_of_ble_eq_true rfl⟩ dX7_rightOf_32 ⟨Nat.le_of_ble_eq_true rfl, Nat.le_of_ble_eq_true rfl⟩ (fun r_3 H locs hp_2 hS => ?_)
    obtain ⟨rfl, hH⟩ := hp_2
    refine lv_if_eq (tgt := 47) hx hb dX7_rightOf_35 (by decide) (fun c_4 => ?_) (fun c_4 => ?_)
    · skip
      replace c_4 := ob_0.mp c_4
      refine lv_iconst (v := nI 0) hx hb dX7_rightOf_47 (by decide +kernel) ?_
      rw [← hQ]
      refine x_reti C rfl hS (Nat.le_of_ble_eq_true rfl) (Nat.le_of_ble_eq_true rfl) dX7_rightOf_48 ?_
      rw [hpost]
      exact ⟨by unfold rIn; rw [if_neg c_1, if_neg (inB_f c_4)], hH⟩
    · skip
      replace c_4 := ob_n.mp c_4
      refine lv_aload_n hx hb dX7_rightOf_38 rfl (lv_at hl 1 rfl) ?_
      refine x_get C hH (ci := 8) (T := TX7) (N := 19) hM rfl iWX7 7 (by decide) qw_703 rfl rfl dX7_rightOf_39 ?_
      refine lv_iload_n hx hb dX7_rightOf_42 rfl (lv_at hl 0 rfl) ?_
      refine x_iald C hH mm7 (j := 16 * p + f) rfl (by omega) (by omega) dX7_rightOf_43 ?_
      refine lv_re (y := sg 4 p f) (by show sg 4 ((16 * p + f) / 16) ((16 * p + f) % 16) = _; rw [show (16 * p + f) / 16 = p by omega, show (16 * p + f) % 16 = f by omega]) ?_
      refine lv_goto (tgt := 48) hx hb dX7_rightOf_44 (by decide) ?_
      rw [← hQ]
      refine x_reti C rfl hS (Nat.le_of_ble_eq_true rfl) (Nat.le_of_ble_eq_true rfl) dX7_rightOf_48 ?_
      rw [hpost]
      exact ⟨by unfold rIn; rw [if_neg c_1, if_pos (inB_t c_4)], hH⟩

set_option maxHeartbeats 4000000 in
set_option maxRecDepth 100000 in
theorem m_reduce (l : Launch) {E : xE} {base : Nat} {al : Tg → Nat} {w : Tg → Option va_E} {th : Int32} {nf np na nw : Nat} {sg : Nat → Nat → Nat → Int32} {rc : Nat → Bool} {fr : Nat → Int32} (hMM : MMf E al w th nf np na nw sg rc fr) {x : Int32} : xMet l yX7_reduce cX7_reduce 4 (some (.int)) ({ frames := 0, cells := 0, slots := 0, locals := 0 } : Room) E base [.ref (al (10, 0, 0)), .int x] (fun H => xH E base al w H) (fun r H => r = some (.int (red fr 16 x)) ∧ xH E base al w H) := by
  refine xMet.of (by decide +kernel) "DataroomModel" rfl (Nat.le_of_ble_eq_true rfl) ?_
  intro p9 e9 s m9 below meth c9 ls C hin hP hS hl
  have hx := C.hx
  have hb := C.hb
  have hH := hP
  have hl : lv_has ls 4 [(0, .ref (al (10, 0, 0))), (1, .int x)] := hl
  obtain ⟨post, hpost⟩ : ∃ zz9 : Option Value → Heap → Prop, zz9 = (fun r H => r = some (.int (red fr 16 x)) ∧ xH E base al w H) := ⟨_, rfl⟩
  rw [← hpost]
  generalize hQ : (MQ below (xQ base post) ([.ref (al (10, 0, 0)), .int x] : List Value).toArray s 0 0 (xA base)) = Q
  have hMM0 := hMM
  obtain ⟨hM, mm3, mm4, mm6, mm7, mm8, mm9, mm11, mm12, mm13, mm14, mm15, mm16, mm17, mm18⟩ := hMM
  refine lv_iload_n hx hb dX7_reduce_0 rfl (lv_at hl 1 rfl) ?_
  refine lv_istore_n (lv' := [(2, .int x), (0, .ref (al (10, 0, 0))), (1, .int x)]) hx hb dX7_reduce_1 rfl hl (by decide) rfl (fun ls hl => ?_)
  refine lv_bipush (v := nI 15) hx hb dX7_reduce_2 (by decide +kernel) ?_
  refine lv_istore_n (lv' := [(3, .int (nI 15)), (2, .int x), (0, .ref (al (10, 0, 0))), (1, .int x)]) hx hb dX7_reduce_4 rfl hl (by decide) rfl (fun ls hl => ?_)
  have lp5 : ∀ (j : Nat), j ≤ 16 → ∀ (y : Int32) (H : Heap) (locs : List Loc) (ls : Array Slot), red fr j y = red fr 16 x → xH E base al w H → va_S (xA base) s.heap H locs → lv_has ls 4 [(3, .int (dI j)), (2, .int y), (1, .int x), (0, .ref (al (10, 0, 0)))] → W p9 l e9 ({ frames := 0, cells := 0, slots := 0, locals := 0 } : Room) s m9 ([.ref (al (10, 0, 0)), .int x] : List Value).toArray below meth c9 H locs 0 0 Q (F0 m9 5 ls []) := by
    refine lp_dn ?_ ?_
    · intro _ y H locs ls hv hH hS hl
      refine lv_iload_n hx hb dX7_reduce_5 rfl (lv_at hl 0 rfl) ?_
      refine lv_if_lt (tgt := 37) hx hb dX7_reduce_6 (by decide) (fun c_1 => ?_) (fun c_1 => absurd (by decide +kernel) c_1)
      clear c_1
      refine lv_iload_n hx hb dX7_reduce_37 rfl (lv_at hl 1 rfl) ?_
      rw [← hQ]
      refine x_reti C rfl hS (Nat.le_of_ble_eq_true rfl) (Nat.le_of_ble_eq_true rfl) dX7_reduce_38 ?_
      rw [hpost]
      exact ⟨by rw [← hv]; rfl, hH⟩
    · intro j ih5 hj y H locs ls hv hH hS hl
      refine lv_iload_n hx hb dX7_reduce_5 rfl (lv_at hl 0 rfl) ?_
      refine lv_if_lt (tgt := 37) hx hb dX7_reduce_6 (by decide) (fun c_2 => absurd ((dI_lt (by omega)).mp c_2) (Nat.succ_ne_zero _)) (fun _ => ?_)
      refine lv_iload_n hx hb dX7_reduce_9 rfl (lv_at hl 1 rfl) ?_
      refine lv_iload_n hx hb dX7_reduce_10 rfl (lv_at hl 1 rfl) ?_
      refine lv_iload_n hx hb dX7_reduce_11 rfl (lv_at hl 0 rfl) ?_
      refine lv_ishr hx hb dX7_reduce_12 ?_
      refine lv_iconst (v := nI 1) hx hb dX7_reduce_13 (by decide +kernel) ?_
      refine lv_iand hx hb dX7_reduce_14 ?_
      refine lv_re (y := ob (bt y j)) (by rw [dI_s]; exact hd_bt y (k := j) (by omega)) ?_
      refine lv_iconst (v := nI 1) hx hb dX7_reduce_15 (by decide +kernel) ?_
      refine lv_icmp_ne (tgt := 28) hx hb dX7_reduce_16 (by decide) (fun c_3 => ?_) (fun c_3 => ?_)
      · skip
        replace c_3 := ob_n1.mp c_3
        refine lv_iconst (v := nI 0) hx hb dX7_reduce_28 (by decide +kernel) ?_
        refine lv_ixor hx hb dX7_reduce_29 ?_
        refine lv_istore_n (lv' := [(2, .int (y ^^^ nI 0)), (3, .int (dI (j + 1))), (1, .int x), (0, .ref (al (10, 0, 0)))]) hx hb dX7_reduce_30 rfl hl (by decide) rfl (fun ls hl => ?_)
        refine lv_iinc (v := dI j) (lv' := [(3, .int (dI j)), (2, .int (y ^^^ nI 0)), (1, .int x), (0, .ref (al (10, 0, 0)))]) hx hb dX7_reduce_31 hl (k := 1) rfl (dI_dec _) (by decide) rfl (fun ls hl => ?_)
        refine lv_goto (tgt := 5) hx hb dX7_reduce_34 (by decide) ?_
        exact ih5 (by omega) (y ^^^ nI 0) _ _ _ (by rw [← hv]; show _ = red fr j (if bt y j then y ^^^ fr j else y); rw [c_3]; simp [nI_0, xor_0]) hH hS (lv_sub hl [0, 1, 2, 3] rfl)
      · skip
        replace c_3 := ob_1.mp c_3
        refine lv_aload_n hx hb dX7_reduce_19 rfl (lv_at hl 3 rfl) ?_
        refine x_get C hH (ci := 8) (T := TX7) (N := 19) hM rfl iWX7 18 (by decide) qw_714 rfl rfl dX7_reduce_20 ?_
        refine lv_iload_n hx hb dX7_reduce_23 rfl (lv_at hl 0 rfl) ?_
        refine x_iald C hH mm18 (j := j) (dI_s _) (by omega) (by omega) dX7_reduce_24 ?_
        refine lv_goto (tgt := 29) hx hb dX7_reduce_25 (by decide) ?_
        refine lv_ixor hx hb dX7_reduce_29 ?_
        refine lv_istore_n (lv' := [(2, .int (y ^^^ fr j)), (3, .int (dI (j + 1))), (1, .int x), (0, .ref (al (10, 0, 0)))]) hx hb dX7_reduce_30 rfl hl (by decide) rfl (fun ls hl => ?_)
        refine lv_iinc (v := dI j) (lv' := [(3, .int (dI j)), (2, .int (y ^^^ fr j)), (1, .int x), (0, .ref (al (10, 0, 0)))]) hx hb dX7_reduce_31 hl (k := 1) rfl (dI_dec _) (by decide) rfl (fun ls hl => ?_)
        refine lv_goto (tgt := 5) hx hb dX7_reduce_34 (by decide) ?_
        exact ih5 (by omega) (y ^^^ fr j) _ _ _ (by rw [← hv]; show _ = red fr j (if bt y j then y ^^^ fr j else y); rw [c_3]; rfl) hH hS (lv_sub hl [0, 1, 2, 3] rfl)
  exact lp5 16 (by omega) x _ _ _ rfl hH hS (lv_sub hl [0, 1, 3, 2] rfl)

set_option maxHeartbeats 4000000 in
set_option maxRecDepth 100000 in
theorem m_highest (l : Launch) {E : xE} {base : Nat} {al : Tg → Nat} {w : Tg → Option va_E} {x : Int32} : xMet l yX7_highest cX7_highest 3 (some (.int)) ({ frames := 0, cells := 0, slots := 0, locals := 0 } : Room) E base [.int x] (fun H => xH E base al w H) (fun r H => r = some (.int (hig x 16)) ∧ xH E base al w H) := by
  refine xMet.of (by decide +kernel) "DataroomModel" rfl (Nat.le_of_ble_eq_true rfl) ?_
  intro p9 e9 s m9 below meth c9 ls C hin hP hS hl
  have hx := C.hx
  have hb := C.hb
  have hH := hP
  have hl : lv_has ls 3 [(0, .int x)] := hl
  obtain ⟨post, hpost⟩ : ∃ zz9 : Option Value → Heap → Prop, zz9 = (fun r H => r = some (.int (hig x 16)) ∧ xH E base al w H) := ⟨_, rfl⟩
  rw [← hpost]
  generalize hQ : (MQ below (xQ base post) ([.int x] : List Value).toArray s 0 0 (xA base)) = Q
  refine lv_iconst (v := (-1)) hx hb dX7_highest_0 (by decide +kernel) ?_
  refine lv_istore_n (lv' := [(1, .int (-1)), (0, .int x)]) hx hb dX7_highest_1 rfl hl (by decide) rfl (fun ls hl => ?_)
  refine lv_iconst (v := nI 0) hx hb dX7_highest_2 (by decide +kernel) ?_
  refine lv_istore_n (lv' := [(2, .int (nI 0)), (1, .int (-1)), (0, .int x)]) hx hb dX7_highest_3 rfl hl (by decide) rfl (fun ls hl => ?_)
  have lp4 : ∀ (i : Nat), i ≤ 16 → ∀ (y : Int32) (H : Heap) (locs : List Loc) (ls : Array Slot), y = hig x i → xH E base al w H → va_S (xA base) s.heap H locs → lv_has ls 3 [(2, .int (nI i)), (1, .int y), (0, .int x)] → W p9 l e9 ({ frames := 0, cells := 0, slots := 0, locals := 0 } : Room) s m9 ([.int x] : List Value).toArray below meth c9 H locs 0 0 Q (F0 m9 4 ls []) := by
    refine lp_up ?_
    intro i hii ih4 y H locs ls hy hH hS hl
    refine lv_iload_n hx hb dX7_highest_4 rfl (lv_at hl 0 rfl) ?_
    refine lv_bipush (v := nI 16) hx hb dX7_highest_5 (by decide +kernel) ?_
    refine lv_icmp_ge (tgt := 31) hx hb dX7_highest_7 (by decide) (fun c_1 => ?_) (fun c_1 => ?_)
    · skip
      replace c_1 := (nI_leI (by omega) (by omega)).mp c_1
      refine lv_iload_n hx hb dX7_highest_31 rfl (lv_at hl 1 rfl) ?_
      rw [← hQ]
      refine x_reti C rfl hS (Nat.le_of_ble_eq_true rfl) (Nat.le_of_ble_eq_true rfl) dX7_highest_32 ?_
      rw [hpost]
      have e8 : i = 16 := by omega
      subst e8
      exact ⟨by rw [hy], hH⟩
    · skip
      replace c_1 := mt (nI_leI (by omega) (by omega)).mpr c_1
      refine lv_iload_n hx hb dX7_highest_10 rfl (lv_at hl 2 rfl) ?_
      refine lv_iload_n hx hb dX7_highest_11 rfl (lv_at hl 0 rfl) ?_
      refine lv_ishr hx hb dX7_highest_12 ?_
      refine lv_iconst (v := nI 1) hx hb dX7_highest_13 (by decide +kernel) ?_
      refine lv_iand hx hb dX7_highest_14 ?_
      refine lv_re (hd_bt x (k := i) (by omega)) ?_
      refine lv_iconst (v := nI 1) hx hb dX7_highest_15 (by decide +kernel) ?_
      refine lv_icmp_ne (tgt := 23) hx hb dX7_highest_16 (by decide) (fun c_2 => ?_) (fun c_2 => ?_)
      · skip
        replace c_2 := ob_n1.mp c_2
        refine lv_iload_n hx hb dX7_highest_23 rfl (lv_at hl 1 rfl) ?_
        refine lv_istore_n (lv' := [(1, .int y), (2, .int (nI i)), (0, .int x)]) hx hb dX7_highest_24 rfl hl (by decide) rfl (fun ls hl => ?_)
        refine lv_iinc (v := nI (i + 1)) (lv' := [(2, .int (nI (i + 1))), (1, .int y), (0, .int x)]) hx hb dX7_highest_25 hl (k := 1) rfl (nI_1 _) (by decide) rfl (fun ls hl => ?_)
        refine lv_goto (tgt := 4) hx hb dX7_highest_28 (by decide) ?_
        exact ih4 (by omega) y _ _ _ (by show _ = (if bt x i then nI i else hig x i); rw [c_2]; exact hy) hH hS (lv_sub hl [0, 1, 2] rfl)
      · skip
        replace c_2 := ob_1.mp c_2
        refine lv_iload_n hx hb dX7_highest_19 rfl (lv_at hl 0 rfl) ?_
        refine lv_goto (tgt := 24) hx hb dX7_highest_20 (by decide) ?_
        refine lv_istore_n (lv' := [(1, .int (nI i)), (2, .int (nI i)), (0, .int x)]) hx hb dX7_highest_24 rfl hl (by decide) rfl (fun ls hl => ?_)
        refine lv_iinc (v := nI (i + 1)) (lv' := [(2, .int (nI (i + 1))), (1, .int (nI i)), (0, .int x)]) hx hb dX7_highest_25 hl (k := 1) rfl (nI_1 _) (by decide) rfl (fun ls hl => ?_)
        refine lv_goto (tgt := 4) hx hb dX7_highest_28 (by decide) ?_
        exact ih4 (by omega) (nI i) _ _ _ (by show _ = (if bt x i then nI i else hig x i); rw [c_2]; rfl) hH hS (lv_sub hl [0, 1, 2] rfl)
  exact lp4 0 (Nat.zero_le _) (-1) _ _ _ rfl hH hS (lv_sub hl [0, 1, 2] rfl)

set_option maxHeartbeats 4000000 in
set_option maxRecDepth 100000 in
theorem m_learn (l : Launch) {E : xE} {base : Nat} {al : Tg → Nat} {w : Tg → Option va_E} {th : Int32} {nf np na nw : Nat} {sg : Nat → Nat → Nat → Int32} {rc : Nat → Bool} {fr : Nat → Int32} (hMM : MMf E al w th nf np na nw sg rc fr) {x : Int32} (hs9 : sml 16 (red fr 16 x)) : xMet l yX7_learn cX7_learn 3 (some (.boolean)) ({ frames := 1, cells := 0, slots := 0, locals := 23 } : Room) E base [.ref (al (10, 0, 0)), .int x] (fun H => xH E base al w H) (fun r H => r = some (.int (ob (!decide (red fr 16 x = 0)))) ∧ xH E base al (xu w (10, 18, 0) (.inl (E.2.1 0, 16, .inl (mlF fr x)))) H) := by
  refine xMet.of (by decide +kernel) "DataroomModel" rfl (Nat.le_of_ble_eq_true rfl) ?_
  intro p9 e9 s m9 below meth c9 ls C hin hP hS hl
  have hx := C.hx
  have hb := C.hb
  have hH := hP
  have hl : lv_has ls 3 [(0, .ref (al (10, 0, 0))), (1, .int x)] := hl
  obtain ⟨post, hpost⟩ : ∃ zz9 : Option Value → Heap → Prop, zz9 = (fun r H => r = some (.int (ob (!decide (red fr 16 x = 0)))) ∧ xH E base al (xu w (10, 18, 0) (.inl (E.2.1 0, 16, .inl (mlF fr x)))) H) := ⟨_, rfl⟩
  rw [← hpost]
  generalize hQ : (MQ below (xQ base post) ([.ref (al (10, 0, 0)), .int x] : List Value).toArray s 0 0 (xA base)) = Q
  have hMM0 := hMM
  obtain ⟨hM, mm3, mm4, mm6, mm7, mm8, mm9, mm11, mm12, mm13, mm14, mm15, mm16, mm17, mm18⟩ := hMM
  refine lv_aload_n hx hb dX7_learn_0 rfl (lv_at hl 0 rfl) ?_
  refine lv_iload_n hx hb dX7_learn_1 rfl (lv_at hl 1 rfl) ?_
  refine x_callV C hH hS (ci := 8) (t := (10, 0, 0)) hM rfl rfl (m_reduce l (E := E) (base := base) hMM0 (x := x)) hH kX7_reduce qw_843 (ws_p (List.mem_of_getElem? (i := 29) rfl) rfl) qw_841  rfl [] rfl hl.1 (Nat.le_of_ble_eq_true rfl) ⟨Nat.le_of_ble_eq_true rfl, Nat.le_of_ble_eq_true rfl⟩ dX7_learn_2 ⟨Nat.le_of_ble_eq_true rfl, Nat.le_of_ble_eq_true rfl⟩ (fun r_2 H locs hp_1 hS => ?_)
  obtain ⟨rfl, hH⟩ := hp_1
  refine lv_istore_n (lv' := [(2, .int (red fr 16 x)), (0, .ref (al (10, 0, 0))), (1, .int x)]) hx hb dX7_learn_5 rfl hl (by decide) rfl (fun ls hl => ?_)
  refine lv_iload_n hx hb dX7_learn_6 rfl (lv_at hl 0 rfl) ?_
  refine lv_if_eq (tgt := 20) hx hb dX7_learn_7 (by decide) (fun c_3 => ?_) (fun c_3 => ?_)
  · skip
    refine lv_iload_n hx hb dX7_learn_20 rfl (lv_at hl 0 rfl) ?_
    refine lv_if_eq (tgt := 28) hx hb dX7_learn_21 (by decide) (fun _ => ?_) (fun c_4 => absurd c_3 c_4)
    refine lv_iconst (v := nI 0) hx hb dX7_learn_28 (by decide +kernel) ?_
    rw [← hQ]
    refine x_reti C rfl hS (Nat.le_of_ble_eq_true rfl) (Nat.le_of_ble_eq_true rfl) dX7_learn_29 ?_
    rw [hpost]
    exact ⟨by rw [show decide (red fr 16 x = 0) = true from decide_eq_true c_3]; rfl, by unfold mlF; rw [if_pos c_3, xu_same mm18]; exact hH⟩
  · skip
    refine lv_aload_n hx hb dX7_learn_10 rfl (lv_at hl 1 rfl) ?_
    refine x_get C hH (ci := 8) (T := TX7) (N := 19) hM rfl iWX7 18 (by decide) qw_714 rfl rfl dX7_learn_11 ?_
    refine lv_iload_n hx hb dX7_learn_14 rfl (lv_at hl 0 rfl) ?_
    refine x_callS C hS (m_highest l (E := E) (base := base) (al := al) (w := w) (x := red fr 16 x)) hH kX7_highest qw_846 qw_845  rfl [.ref (al (10, 18, 0))] rfl hl.1 (Nat.le_of_ble_eq_true rfl) ⟨Nat.le_of_ble_eq_true rfl, Nat.le_of_ble_eq_true rfl⟩ dX7_learn_15 ⟨Nat.le_of_ble_eq_true rfl, Nat.le_of_ble_eq_true rfl⟩ (fun r_6 H locs hp_5 hS => ?_)
    obtain ⟨rfl, hH⟩ := hp_5
    obtain ⟨g1, g2, g3, g4⟩ := hi_eq 16 (fun q => c_3 (sml_0 q)) hs9
    refine lv_re g1 ?_
    refine lv_iload_n hx hb dX7_learn_18 rfl (lv_at hl 0 rfl) ?_
    refine x_iast C hH hS mm18 (j := hiN (red fr 16 x) 16) rfl (by omega) (by omega) dX7_learn_19 (fun H locs hH hS => ?_)
    have hM := xu_of (t := (10, 18, 0)) (e := .inl (E.2.1 0, 16, .inl (upd fr (hiN (red fr 16 x) 16) (red fr 16 x)))) (by simp) hM
    have mm3 := xu_of (t := (10, 18, 0)) (e := .inl (E.2.1 0, 16, .inl (upd fr (hiN (red fr 16 x) 16) (red fr 16 x)))) (by simp) mm3
    have mm4 := xu_of (t := (10, 18, 0)) (e := .inl (E.2.1 0, 16, .inl (upd fr (hiN (red fr 16 x) 16) (red fr 16 x)))) (by simp) mm4
    have mm6 := xu_of (t := (10, 18, 0)) (e := .inl (E.2.1 0, 16, .inl (upd fr (hiN (red fr 16 x) 16) (red fr 16 x)))) (by simp) mm6
    have mm7 := xu_of (t := (10, 18, 0)) (e := .inl (E.2.1 0, 16, .inl (upd fr (hiN (red fr 16 x) 16) (red fr 16 x)))) (by simp) mm7
    have mm8 := xu_of (t := (10, 18, 0)) (e := .inl (E.2.1 0, 16, .inl (upd fr (hiN (red fr 16 x) 16) (red fr 16 x)))) (by simp) mm8
    have mm9 := xu_of (t := (10, 18, 0)) (e := .inl (E.2.1 0, 16, .inl (upd fr (hiN (red fr 16 x) 16) (red fr 16 x)))) (by simp) mm9
    have mm11 := xu_of (t := (10, 18, 0)) (e := .inl (E.2.1 0, 16, .inl (upd fr (hiN (red fr 16 x) 16) (red fr 16 x)))) (by simp) mm11
    have mm12 := xu_of (t := (10, 18, 0)) (e := .inl (E.2.1 0, 16, .inl (upd fr (hiN (red fr 16 x) 16) (red fr 16 x)))) (by simp) mm12
    have mm13 := xu_of (t := (10, 18, 0)) (e := .inl (E.2.1 0, 16, .inl (upd fr (hiN (red fr 16 x) 16) (red fr 16 x)))) (by simp) mm13
    have mm14 := xu_of (t := (10, 18, 0)) (e := .inl (E.2.1 0, 16, .inl (upd fr (hiN (red fr 16 x) 16) (red fr 16 x)))) (by simp) mm14
    have mm15 := xu_of (t := (10, 18, 0)) (e := .inl (E.2.1 0, 16, .inl (upd fr (hiN (red fr 16 x) 16) (red fr 16 x)))) (by simp) mm15
    have mm16 := xu_of (t := (10, 18, 0)) (e := .inl (E.2.1 0, 16, .inl (upd fr (hiN (red fr 16 x) 16) (red fr 16 x)))) (by simp) mm16
    have mm17 := xu_of (t := (10, 18, 0)) (e := .inl (E.2.1 0, 16, .inl (upd fr (hiN (red fr 16 x) 16) (red fr 16 x)))) (by simp) mm17
    have mm18 : (xu w (10, 18, 0) (.inl (E.2.1 0, 16, .inl (upd fr (hiN (red fr 16 x) 16) (red fr 16 x))))) (10, 18, 0) = some (.inl (E.2.1 0, 16, .inl (upd fr (hiN (red fr 16 x) 16) (red fr 16 x)))) := xu_self _ _ _
    refine lv_iload_n hx hb dX7_learn_20 rfl (lv_at hl 0 rfl) ?_
    refine lv_if_eq (tgt := 28) hx hb dX7_learn_21 (by decide) (fun c_7 => absurd c_7 c_3) (fun _ => ?_)
    refine lv_iconst (v := nI 1) hx hb dX7_learn_24 (by decide +kernel) ?_
    refine lv_goto (tgt := 29) hx hb dX7_learn_25 (by decide) ?_
    rw [← hQ]
    refine x_reti C rfl hS (Nat.le_of_ble_eq_true rfl) (Nat.le_of_ble_eq_true rfl) dX7_learn_29 ?_
    rw [hpost]
    exact ⟨by rw [show decide (red fr 16 x = 0) = false from decide_eq_false c_3]; rfl, by unfold mlF; rw [if_neg c_3]; exact hH⟩
