def wre (f : Nat → Int32) (x z : Int32) : Bool := decide (red f 16 (x ^^^ z) = 0) && !decide (red f 16 x = 0)
def cov (x : Int32) (k : Nat) : Bool := decide (x = -1) || decide (x = nI k)
def fz (f : Nat → Int32) (i : Nat) : Nat → Int32 := fun j => if j < i then 0 else f j
theorem fz_0 (f : Nat → Int32) : fz f 0 = f := by funext j; simp [fz]
theorem fz_s (f : Nat → Int32) (i : Nat) : upd (fz f i) i (nI 0) = fz f (i + 1) := by
  funext j
  by_cases h : j = i
  · subst h; simp [upd, fz, nI_0]
  · by_cases k : j < i
    · simp [upd, fz, h, k, Nat.lt_succ_of_lt k]
    · have k2 : ¬ j < i + 1 := by omega
      simp [upd, fz, h, k, k2]
theorem fz_all (f : Nat → Int32) : fz f 16 = fun j => if j < 16 then 0 else f j := rfl
set_option maxHeartbeats 4000000 in
set_option maxRecDepth 100000 in
theorem c_holds (l : Launch) {E : xE} {base : Nat} {al : Tg → Nat} {w : Tg → Option va_E} {x : Int32} {k : Nat} (hk : k < 32) : xMet l yX6_holds cX6_holds 2 (some (.boolean)) ({ frames := 0, cells := 0, slots := 0, locals := 0 } : Room) E base [.int x, .int (nI k)] (fun H => xH E base al w H) (fun r H => r = some (.int (ob (bt x k))) ∧ xH E base al w H) := by
  refine xMet.of (by decide +kernel) "Dataroom" rfl (Nat.le_of_ble_eq_true rfl) ?_
  intro p9 e9 s m9 below meth c9 ls C hin hP hS hl
  have hx := C.hx
  have hb := C.hb
  have hH := hP
  have hl : lv_has ls 2 [(0, .int x), (1, .int (nI k))] := hl
  obtain ⟨post, hpost⟩ : ∃ zz9 : Option Value → Heap → Prop, zz9 = (fun r H => r = some (.int (ob (bt x k))) ∧ xH E base al w H) := ⟨_, rfl⟩
  rw [← hpost]
  generalize hQ : (MQ below (xQ base post) ([.int x, .int (nI k)] : List Value).toArray s 0 0 (xA base)) = Q
  refine lv_iload_n hx hb dX6_holds_0 rfl (lv_at hl 0 rfl) ?_
  refine lv_iload_n hx hb dX6_holds_1 rfl (lv_at hl 1 rfl) ?_
  refine lv_ishr hx hb dX6_holds_2 ?_
  refine lv_iconst (v := nI 1) hx hb dX6_holds_3 (by decide +kernel) ?_
  refine lv_iand hx hb dX6_holds_4 ?_
  refine lv_re (hd_bt x (k := k) (by omega)) ?_
  refine lv_if_eq (tgt := 12) hx hb dX6_holds_5 (by decide) (fun c_1 => ?_) (fun c_1 => ?_)
  · skip
    replace c_1 := ob_0.mp c_1
    refine lv_iconst (v := nI 0) hx hb dX6_holds_12 (by decide +kernel) ?_
    rw [← hQ]
    refine x_reti C rfl hS (Nat.le_of_ble_eq_true rfl) (Nat.le_of_ble_eq_true rfl) dX6_holds_13 ?_
    rw [hpost]
    exact ⟨by rw [c_1]; rfl, hH⟩
  · skip
    replace c_1 := ob_n.mp c_1
    refine lv_iconst (v := nI 1) hx hb dX6_holds_8 (by decide +kernel) ?_
    refine lv_goto (tgt := 13) hx hb dX6_holds_9 (by decide) ?_
    rw [← hQ]
    refine x_reti C rfl hS (Nat.le_of_ble_eq_true rfl) (Nat.le_of_ble_eq_true rfl) dX6_holds_13 ?_
    rw [hpost]
    exact ⟨by rw [c_1]; rfl, hH⟩

set_option maxHeartbeats 4000000 in
set_option maxRecDepth 100000 in
theorem c_covers (l : Launch) {E : xE} {base : Nat} {al : Tg → Nat} {w : Tg → Option va_E} {x : Int32} {k : Nat} : xMet l yX6_covers cX6_covers 2 (some (.boolean)) ({ frames := 0, cells := 0, slots := 0, locals := 0 } : Room) E base [.int x, .int (nI k)] (fun H => xH E base al w H) (fun r H => r = some (.int (ob (cov x k))) ∧ xH E base al w H) := by
  refine xMet.of (by decide +kernel) "Dataroom" rfl (Nat.le_of_ble_eq_true rfl) ?_
  intro p9 e9 s m9 below meth c9 ls C hin hP hS hl
  have hx := C.hx
  have hb := C.hb
  have hH := hP
  have hl : lv_has ls 2 [(0, .int x), (1, .int (nI k))] := hl
  obtain ⟨post, hpost⟩ : ∃ zz9 : Option Value → Heap → Prop, zz9 = (fun r H => r = some (.int (ob (cov x k))) ∧ xH E base al w H) := ⟨_, rfl⟩
  rw [← hpost]
  generalize hQ : (MQ below (xQ base post) ([.int x, .int (nI k)] : List Value).toArray s 0 0 (xA base)) = Q
  refine lv_iload_n hx hb dX6_covers_0 rfl (lv_at hl 0 rfl) ?_
  refine lv_iconst (v := (-1)) hx hb dX6_covers_1 (by decide +kernel) ?_
  refine lv_icmp_eq (tgt := 10) hx hb dX6_covers_2 (by decide) (fun c_1 => ?_) (fun c_1 => ?_)
  · skip
    refine lv_iconst (v := nI 1) hx hb dX6_covers_10 (by decide +kernel) ?_
    refine lv_goto (tgt := 15) hx hb dX6_covers_11 (by decide) ?_
    rw [← hQ]
    refine x_reti C rfl hS (Nat.le_of_ble_eq_true rfl) (Nat.le_of_ble_eq_true rfl) dX6_covers_15 ?_
    rw [hpost]
    exact ⟨by rw [show cov x k = true by unfold cov; simp [c_1]]; rfl, hH⟩
  · skip
    refine lv_iload_n hx hb dX6_covers_5 rfl (lv_at hl 0 rfl) ?_
    refine lv_iload_n hx hb dX6_covers_6 rfl (lv_at hl 1 rfl) ?_
    refine lv_icmp_ne (tgt := 14) hx hb dX6_covers_7 (by decide) (fun c_2 => ?_) (fun c_2 => ?_)
    · skip
      refine lv_iconst (v := nI 0) hx hb dX6_covers_14 (by decide +kernel) ?_
      rw [← hQ]
      refine x_reti C rfl hS (Nat.le_of_ble_eq_true rfl) (Nat.le_of_ble_eq_true rfl) dX6_covers_15 ?_
      rw [hpost]
      exact ⟨by rw [show cov x k = false by unfold cov; simp [c_1, c_2]]; rfl, hH⟩
    · skip
      refine lv_iconst (v := nI 1) hx hb dX6_covers_10 (by decide +kernel) ?_
      refine lv_goto (tgt := 15) hx hb dX6_covers_11 (by decide) ?_
      rw [← hQ]
      refine x_reti C rfl hS (Nat.le_of_ble_eq_true rfl) (Nat.le_of_ble_eq_true rfl) dX6_covers_15 ?_
      rw [hpost]
      exact ⟨by rw [show cov x k = true by unfold cov; simp [c_1, c_2]]; rfl, hH⟩

set_option maxHeartbeats 4000000 in
set_option maxRecDepth 100000 in
theorem c_forget (l : Launch) {E : xE} {base : Nat} {al : Tg → Nat} {w : Tg → Option va_E} {t tr : Tg} {n : Int32} {f : Nat → Int32} (ht : w t = some (.inr (3, [.ref (al tr), .int n]))) (hr : w tr = some (.inl (E.2.1 0, 16, .inl f))) : xMet l yX2_forget cX2_forget 2 none ({ frames := 0, cells := 0, slots := 0, locals := 0 } : Room) E base [.ref (al t)] (fun H => xH E base al w H) (fun r H => r = none ∧ xH E base al (xu (xu w tr (.inl (E.2.1 0, 16, .inl (fun j => if j < 16 then 0 else f j)))) t (.inr (3, [.ref (al tr), .int (nI 0)]))) H) := by
  refine xMet.of (by decide +kernel) "Dataroom$Knowledge" rfl (Nat.le_of_ble_eq_true rfl) ?_
  intro p9 e9 s m9 below meth c9 ls C hin hP hS hl
  have hx := C.hx
  have hb := C.hb
  have hH := hP
  have hl : lv_has ls 2 [(0, .ref (al t))] := hl
  obtain ⟨post, hpost⟩ : ∃ zz9 : Option Value → Heap → Prop, zz9 = (fun r H => r = none ∧ xH E base al (xu (xu w tr (.inl (E.2.1 0, 16, .inl (fun j => if j < 16 then 0 else f j)))) t (.inr (3, [.ref (al tr), .int (nI 0)]))) H) := ⟨_, rfl⟩
  rw [← hpost]
  generalize hQ : (MQ below (xQ base post) ([.ref (al t)] : List Value).toArray s 0 0 (xA base)) = Q
  refine lv_iconst (v := nI 0) hx hb dX2_forget_0 (by decide +kernel) ?_
  refine lv_istore_n (lv' := [(1, .int (nI 0)), (0, .ref (al t))]) hx hb dX2_forget_1 rfl hl (by decide) rfl (fun ls hl => ?_)
  have lp2 : ∀ (i : Nat), i ≤ 16 → ∀  (H : Heap) (locs : List Loc) (ls : Array Slot), xH E base al (xu w tr (.inl (E.2.1 0, 16, .inl (fz f i)))) H → va_S (xA base) s.heap H locs → lv_has ls 2 [(1, .int (nI i)), (0, .ref (al t))] → W p9 l e9 ({ frames := 0, cells := 0, slots := 0, locals := 0 } : Room) s m9 ([.ref (al t)] : List Value).toArray below meth c9 H locs 0 0 Q (F0 m9 2 ls []) := by
    refine lp_up ?_
    intro i hii ih2  H locs ls hH hS hl
    have ht1 : xu w tr (.inl (E.2.1 0, 16, .inl (fz f i))) t = some (.inr (3, [.ref (al tr), .int n])) := xu_of (tg_ne ht hr (by nofun)) ht
    have hr1 : xu w tr (.inl (E.2.1 0, 16, .inl (fz f i))) tr = some (.inl (E.2.1 0, 16, .inl (fz f i))) := xu_self _ _ _
    refine lv_iload_n hx hb dX2_forget_2 rfl (lv_at hl 0 rfl) ?_
    refine lv_aload_n hx hb dX2_forget_3 rfl (lv_at hl 1 rfl) ?_
    refine x_get C hH (ci := 3) (T := TX2) (N := 2) ht1 rfl iWX2 0 (by decide) qw_64 rfl rfl dX2_forget_4 ?_
    refine x_alen (v := nI 16) C hH 0 rfl hr1 rfl dX2_forget_7 ?_
    refine lv_icmp_ge (tgt := 24) hx hb dX2_forget_8 (by decide) (fun c_1 => ?_) (fun c_1 => ?_)
    · skip
      replace c_1 := (nI_leI (by omega) (by omega)).mp c_1
      refine lv_aload_n hx hb dX2_forget_24 rfl (lv_at hl 1 rfl) ?_
      refine lv_iconst (v := nI 0) hx hb dX2_forget_25 (by decide +kernel) ?_
      refine x_put C hH hS (ci := 3) (T := TX2) (N := 2) (fs' := [.ref (al tr), .int (nI 0)]) ht1 rfl iWX2 tyX2 tyX2_ok nmX2 1 (by decide) qw_65 rfl rfl rfl rfl (Nat.le_of_ble_eq_true rfl) rfl dX2_forget_26 (fun H locs hH hS => ?_)
      have hr1 := xu_of (t := t) (e := .inr (3, [.ref (al tr), .int (nI 0)])) (tg_ne hr1 ht1 (by nofun)) hr1
      have ht1 : (xu (xu w tr (.inl (E.2.1 0, 16, .inl (fz f i)))) t (.inr (3, [.ref (al tr), .int (nI 0)]))) t = some (.inr (3, [.ref (al tr), .int (nI 0)])) := xu_self _ _ _
      rw [← hQ]
      refine x_retv C hS (Nat.le_of_ble_eq_true rfl) (Nat.le_of_ble_eq_true rfl) dX2_forget_29 ?_
      rw [hpost]
      have e16 : i = 16 := by omega
      rw [e16, fz_all] at hH
      exact ⟨rfl, hH⟩
    · skip
      replace c_1 := mt (nI_leI (by omega) (by omega)).mpr c_1
      refine lv_aload_n hx hb dX2_forget_11 rfl (lv_at hl 1 rfl) ?_
      refine x_get C hH (ci := 3) (T := TX2) (N := 2) ht1 rfl iWX2 0 (by decide) qw_64 rfl rfl dX2_forget_12 ?_
      refine lv_iload_n hx hb dX2_forget_15 rfl (lv_at hl 0 rfl) ?_
      refine lv_iconst (v := nI 0) hx hb dX2_forget_16 (by decide +kernel) ?_
      refine x_iast C hH hS hr1 (j := i) rfl (by omega) (by omega) dX2_forget_17 (fun H locs hH hS => ?_)
      have ht1 := xu_of (t := tr) (e := .inl (E.2.1 0, 16, .inl (upd (fz f i) i (nI 0)))) (tg_ne ht1 hr1 (by nofun)) ht1
      have hr1 : (xu (xu w tr (.inl (E.2.1 0, 16, .inl (fz f i)))) tr (.inl (E.2.1 0, 16, .inl (upd (fz f i) i (nI 0))))) tr = some (.inl (E.2.1 0, 16, .inl (upd (fz f i) i (nI 0)))) := xu_self _ _ _
      refine lv_iinc (v := nI (i + 1)) (lv' := [(1, .int (nI (i + 1))), (0, .ref (al t))]) hx hb dX2_forget_18 hl (k := 0) rfl (nI_1 _) (by decide) rfl (fun ls hl => ?_)
      refine lv_goto (tgt := 2) hx hb dX2_forget_21 (by decide) ?_
      exact ih2 (by omega)  _ _ _  (by rw [xu_uu, fz_s] at hH; exact hH) hS (lv_sub hl [0, 1] rfl)
  exact lp2 0 (by omega)  _ _ _  (by rw [fz_0, xu_same hr]; exact hH) hS (lv_sub hl [0, 1] rfl)

set_option maxHeartbeats 4000000 in
set_option maxRecDepth 100000 in
theorem c_knows (l : Launch) {E : xE} {base : Nat} {x : Int32} {al : Tg → Nat} {w : Tg → Option va_E} {t tr : Tg} {n : Int32} {f : Nat → Int32} (ht : w t = some (.inr (3, [.ref (al tr), .int n]))) (hr : w tr = some (.inl (E.2.1 0, 16, .inl f))) : xMet l yX2_knows cX2_knows 4 (some (.boolean)) ({ frames := 1, cells := 0, slots := 0, locals := 21 } : Room) E base [.ref (al t), .int x] (fun H => xH E base al w H) (fun r H => r = some (.int (ob (decide (red f 16 x = 0)))) ∧ xH E base al w H) := by
  refine xMet.of (by decide +kernel) "Dataroom$Knowledge" rfl (Nat.le_of_ble_eq_true rfl) ?_
  intro p9 e9 s m9 below meth c9 ls C hin hP hS hl
  have hx := C.hx
  have hb := C.hb
  have hH := hP
  have hl : lv_has ls 4 [(0, .ref (al t)), (1, .int x)] := hl
  obtain ⟨post, hpost⟩ : ∃ zz9 : Option Value → Heap → Prop, zz9 = (fun r H => r = some (.int (ob (decide (red f 16 x = 0)))) ∧ xH E base al w H) := ⟨_, rfl⟩
  rw [← hpost]
  generalize hQ : (MQ below (xQ base post) ([.ref (al t), .int x] : List Value).toArray s 0 0 (xA base)) = Q
  refine lv_iload_n hx hb dX2_knows_0 rfl (lv_at hl 1 rfl) ?_
  refine lv_istore_n (lv' := [(2, .int x), (0, .ref (al t)), (1, .int x)]) hx hb dX2_knows_1 rfl hl (by decide) rfl (fun ls hl => ?_)
  refine lv_aload_n hx hb dX2_knows_2 rfl (lv_at hl 1 rfl) ?_
  refine x_get C hH (ci := 3) (T := TX2) (N := 2) ht rfl iWX2 0 (by decide) qw_64 rfl rfl dX2_knows_3 ?_
  refine x_alen (v := nI 16) C hH 0 rfl hr rfl dX2_knows_6 ?_
  refine lv_iconst (v := nI 1) hx hb dX2_knows_7 (by decide +kernel) ?_
  refine lv_isub hx hb dX2_knows_8 ?_
  refine lv_re (dI_sub _) ?_
  refine lv_istore_n (lv' := [(3, .int (dI 16)), (2, .int x), (0, .ref (al t)), (1, .int x)]) hx hb dX2_knows_9 rfl hl (by decide) rfl (fun ls hl => ?_)
  have lp10 : ∀ (j : Nat), j ≤ 16 → ∀ (y : Int32) (H : Heap) (locs : List Loc) (ls : Array Slot), red f j y = red f 16 x → xH E base al w H → va_S (xA base) s.heap H locs → lv_has ls 4 [(3, .int (dI j)), (2, .int y), (0, .ref (al t))] → W p9 l e9 ({ frames := 1, cells := 0, slots := 0, locals := 21 } : Room) s m9 ([.ref (al t), .int x] : List Value).toArray below meth c9 H locs 0 0 Q (F0 m9 10 ls []) := by
    refine lp_dn ?_ ?_
    · intro _ y H locs ls hv hH hS hl
      refine lv_iload_n hx hb dX2_knows_10 rfl (lv_at hl 0 rfl) ?_
      refine lv_if_lt (tgt := 37) hx hb dX2_knows_11 (by decide) (fun c_1 => ?_) (fun c_1 => absurd (by decide +kernel) c_1)
      clear c_1
      refine lv_iload_n hx hb dX2_knows_37 rfl (lv_at hl 1 rfl) ?_
      refine lv_if_ne (tgt := 45) hx hb dX2_knows_38 (by decide) (fun c_2 => ?_) (fun c_2 => ?_)
      · skip
        refine lv_iconst (v := nI 0) hx hb dX2_knows_45 (by decide +kernel) ?_
        rw [← hQ]
        refine x_reti C rfl hS (Nat.le_of_ble_eq_true rfl) (Nat.le_of_ble_eq_true rfl) dX2_knows_46 ?_
        rw [hpost]
        exact ⟨by rw [show decide (red f 16 x = 0) = false by rw [← hv]; exact decide_eq_false c_2]; rfl, hH⟩
      · skip
        refine lv_iconst (v := nI 1) hx hb dX2_knows_41 (by decide +kernel) ?_
        refine lv_goto (tgt := 46) hx hb dX2_knows_42 (by decide) ?_
        rw [← hQ]
        refine x_reti C rfl hS (Nat.le_of_ble_eq_true rfl) (Nat.le_of_ble_eq_true rfl) dX2_knows_46 ?_
        rw [hpost]
        exact ⟨by rw [show decide (red f 16 x = 0) = true by rw [← hv]; exact decide_eq_true c_2]; rfl, hH⟩
    · intro j ih10 hj y H locs ls hv hH hS hl
      refine lv_iload_n hx hb dX2_knows_10 rfl (lv_at hl 0 rfl) ?_
      refine lv_if_lt (tgt := 37) hx hb dX2_knows_11 (by decide) (fun c_3 => absurd ((dI_lt (by omega)).mp c_3) (Nat.succ_ne_zero _)) (fun _ => ?_)
      refine lv_iload_n hx hb dX2_knows_14 rfl (lv_at hl 1 rfl) ?_
      refine lv_iload_n hx hb dX2_knows_15 rfl (lv_at hl 0 rfl) ?_
      refine x_callSN C hS (by have z := c_holds l (E := E) (base := base) (al := al) (w := w) (x := y) (k := j) (by omega); rw [← dI_s] at z; exact z) hH kX6_holds qw_347 nw_372  rfl [] rfl hl.1 (Nat.le_of_ble_eq_true rfl) ⟨Nat.le_of_ble_eq_true rfl, Nat.le_of_ble_eq_true rfl⟩ dX2_knows_16 ⟨Nat.le_of_ble_eq_true rfl, Nat.le_of_ble_eq_true rfl⟩ (fun r_5 H locs hp_4 hS => ?_)
      obtain ⟨rfl, hH⟩ := hp_4
      refine lv_if_eq (tgt := 31) hx hb dX2_knows_19 (by decide) (fun c_6 => ?_) (fun c_6 => ?_)
      · skip
        replace c_6 := ob_0.mp c_6
        refine lv_iinc (v := dI j) (lv' := [(3, .int (dI j)), (2, .int y), (0, .ref (al t))]) hx hb dX2_knows_31 hl (k := 0) rfl (dI_dec _) (by decide) rfl (fun ls hl => ?_)
        refine lv_goto (tgt := 10) hx hb dX2_knows_34 (by decide) ?_
        exact ih10 (by omega) y _ _ _ (by rw [← hv]; show _ = red f j (if bt y j then y ^^^ f j else y); rw [c_6]; rfl) hH hS (lv_sub hl [0, 1, 2] rfl)
      · skip
        replace c_6 := ob_n.mp c_6
        refine lv_iload_n hx hb dX2_knows_22 rfl (lv_at hl 1 rfl) ?_
        refine lv_aload_n hx hb dX2_knows_23 rfl (lv_at hl 2 rfl) ?_
        refine x_get C hH (ci := 3) (T := TX2) (N := 2) ht rfl iWX2 0 (by decide) qw_64 rfl rfl dX2_knows_24 ?_
        refine lv_iload_n hx hb dX2_knows_27 rfl (lv_at hl 0 rfl) ?_
        refine x_iald C hH hr (j := j) (dI_s _) (by omega) (by omega) dX2_knows_28 ?_
        refine lv_ixor hx hb dX2_knows_29 ?_
        refine lv_istore_n (lv' := [(2, .int (y ^^^ f j)), (3, .int (dI (j + 1))), (0, .ref (al t))]) hx hb dX2_knows_30 rfl hl (by decide) rfl (fun ls hl => ?_)
        refine lv_iinc (v := dI j) (lv' := [(3, .int (dI j)), (2, .int (y ^^^ f j)), (0, .ref (al t))]) hx hb dX2_knows_31 hl (k := 1) rfl (dI_dec _) (by decide) rfl (fun ls hl => ?_)
        refine lv_goto (tgt := 10) hx hb dX2_knows_34 (by decide) ?_
        exact ih10 (by omega) (y ^^^ f j) _ _ _ (by rw [← hv]; show _ = red f j (if bt y j then y ^^^ f j else y); rw [c_6]; rfl) hH hS (lv_sub hl [0, 1, 2] rfl)
  exact lp10 16 (by omega) x _ _ _ rfl hH hS (lv_sub hl [0, 1, 2] rfl)

set_option maxHeartbeats 4000000 in
set_option maxRecDepth 100000 in
theorem c_wouldReach (l : Launch) {E : xE} {base : Nat} {x z : Int32} {al : Tg → Nat} {w : Tg → Option va_E} {t tr : Tg} {n : Int32} {f : Nat → Int32} (ht : w t = some (.inr (3, [.ref (al tr), .int n]))) (hr : w tr = some (.inl (E.2.1 0, 16, .inl f))) : xMet l yX2_wouldReach cX2_wouldReach 3 (some (.boolean)) ({ frames := 2, cells := 0, slots := 0, locals := 44 } : Room) E base [.ref (al t), .int x, .int z] (fun H => xH E base al w H) (fun r H => r = some (.int (ob (wre f x z))) ∧ xH E base al w H) := by
  refine xMet.of (by decide +kernel) "Dataroom$Knowledge" rfl (Nat.le_of_ble_eq_true rfl) ?_
  intro p9 e9 s m9 below meth c9 ls C hin hP hS hl
  have hx := C.hx
  have hb := C.hb
  have hH := hP
  have hl : lv_has ls 3 [(0, .ref (al t)), (1, .int x), (2, .int z)] := hl
  obtain ⟨post, hpost⟩ : ∃ zz9 : Option Value → Heap → Prop, zz9 = (fun r H => r = some (.int (ob (wre f x z))) ∧ xH E base al w H) := ⟨_, rfl⟩
  rw [← hpost]
  generalize hQ : (MQ below (xQ base post) ([.ref (al t), .int x, .int z] : List Value).toArray s 0 0 (xA base)) = Q
  refine lv_aload_n hx hb dX2_wouldReach_0 rfl (lv_at hl 0 rfl) ?_
  refine lv_iload_n hx hb dX2_wouldReach_1 rfl (lv_at hl 1 rfl) ?_
  refine lv_iload_n hx hb dX2_wouldReach_2 rfl (lv_at hl 2 rfl) ?_
  refine lv_ixor hx hb dX2_wouldReach_3 ?_
  refine x_callV C hH hS (ci := 3) (t := t) ht rfl rfl (c_knows l (E := E) (base := base) (x := (x ^^^ z)) ht hr) hH kX2_knows qw_527 qw_528 qw_526  rfl [] rfl hl.1 (Nat.le_of_ble_eq_true rfl) ⟨Nat.le_of_ble_eq_true rfl, Nat.le_of_ble_eq_true rfl⟩ dX2_wouldReach_4 ⟨Nat.le_of_ble_eq_true rfl, Nat.le_of_ble_eq_true rfl⟩ (fun r_2 H locs hp_1 hS => ?_)
  obtain ⟨rfl, hH⟩ := hp_1
  refine lv_if_eq (tgt := 22) hx hb dX2_wouldReach_7 (by decide) (fun c_3 => ?_) (fun c_3 => ?_)
  · skip
    replace c_3 := ob_0.mp c_3
    refine lv_iconst (v := nI 0) hx hb dX2_wouldReach_22 (by decide +kernel) ?_
    rw [← hQ]
    refine x_reti C rfl hS (Nat.le_of_ble_eq_true rfl) (Nat.le_of_ble_eq_true rfl) dX2_wouldReach_23 ?_
    rw [hpost]
    exact ⟨by simp only [wre, c_3]; rfl, hH⟩
  · skip
    replace c_3 := ob_n.mp c_3
    refine lv_aload_n hx hb dX2_wouldReach_10 rfl (lv_at hl 0 rfl) ?_
    refine lv_iload_n hx hb dX2_wouldReach_11 rfl (lv_at hl 1 rfl) ?_
    refine x_callV C hH hS (ci := 3) (t := t) ht rfl rfl (c_knows l (E := E) (base := base) (x := x) ht hr) hH kX2_knows qw_527 qw_528 qw_526  rfl [] rfl hl.1 (Nat.le_of_ble_eq_true rfl) ⟨Nat.le_of_ble_eq_true rfl, Nat.le_of_ble_eq_true rfl⟩ dX2_wouldReach_12 ⟨Nat.le_of_ble_eq_true rfl, Nat.le_of_ble_eq_true rfl⟩ (fun r_5 H locs hp_4 hS => ?_)
    obtain ⟨rfl, hH⟩ := hp_4
    refine lv_if_ne (tgt := 22) hx hb dX2_wouldReach_15 (by decide) (fun c_6 => ?_) (fun c_6 => ?_)
    · skip
      replace c_6 := ob_n.mp c_6
      refine lv_iconst (v := nI 0) hx hb dX2_wouldReach_22 (by decide +kernel) ?_
      rw [← hQ]
      refine x_reti C rfl hS (Nat.le_of_ble_eq_true rfl) (Nat.le_of_ble_eq_true rfl) dX2_wouldReach_23 ?_
      rw [hpost]
      exact ⟨by simp only [wre, c_3, c_6]; rfl, hH⟩
    · skip
      replace c_6 := ob_0.mp c_6
      refine lv_iconst (v := nI 1) hx hb dX2_wouldReach_18 (by decide +kernel) ?_
      refine lv_goto (tgt := 23) hx hb dX2_wouldReach_19 (by decide) ?_
      rw [← hQ]
      refine x_reti C rfl hS (Nat.le_of_ble_eq_true rfl) (Nat.le_of_ble_eq_true rfl) dX2_wouldReach_23 ?_
      rw [hpost]
      exact ⟨by simp only [wre, c_3, c_6]; rfl, hH⟩

set_option maxHeartbeats 4000000 in
set_option maxRecDepth 100000 in
theorem c_learn (l : Launch) {E : xE} {base : Nat} {x : Int32} {al : Tg → Nat} {w : Tg → Option va_E} {t tr : Tg} {n : Int32} {f : Nat → Int32} (ht : w t = some (.inr (3, [.ref (al tr), .int n]))) (hr : w tr = some (.inl (E.2.1 0, 16, .inl f))) : xMet l yX2_learn cX2_learn 4 none ({ frames := 1, cells := 0, slots := 0, locals := 21 } : Room) E base [.ref (al t), .int x] (fun H => xH E base al w H) (fun r H => r = none ∧ xH E base al (xu (xu w tr (.inl (E.2.1 0, 16, .inl (lrF f 16 x)))) t (.inr (3, [.ref (al tr), .int (n + nI (lrG f 16 x))]))) H) := by
  refine xMet.of (by decide +kernel) "Dataroom$Knowledge" rfl (Nat.le_of_ble_eq_true rfl) ?_
  intro p9 e9 s m9 below meth c9 ls C hin hP hS hl
  have hx := C.hx
  have hb := C.hb
  have hH := hP
  have hl : lv_has ls 4 [(0, .ref (al t)), (1, .int x)] := hl
  obtain ⟨post, hpost⟩ : ∃ zz9 : Option Value → Heap → Prop, zz9 = (fun r H => r = none ∧ xH E base al (xu (xu w tr (.inl (E.2.1 0, 16, .inl (lrF f 16 x)))) t (.inr (3, [.ref (al tr), .int (n + nI (lrG f 16 x))]))) H) := ⟨_, rfl⟩
  rw [← hpost]
  generalize hQ : (MQ below (xQ base post) ([.ref (al t), .int x] : List Value).toArray s 0 0 (xA base)) = Q
  refine lv_iload_n hx hb dX2_learn_0 rfl (lv_at hl 1 rfl) ?_
  refine lv_istore_n (lv' := [(2, .int x), (0, .ref (al t)), (1, .int x)]) hx hb dX2_learn_1 rfl hl (by decide) rfl (fun ls hl => ?_)
  refine lv_aload_n hx hb dX2_learn_2 rfl (lv_at hl 1 rfl) ?_
  refine x_get C hH (ci := 3) (T := TX2) (N := 2) ht rfl iWX2 0 (by decide) qw_64 rfl rfl dX2_learn_3 ?_
  refine x_alen (v := nI 16) C hH 0 rfl hr rfl dX2_learn_6 ?_
  refine lv_iconst (v := nI 1) hx hb dX2_learn_7 (by decide +kernel) ?_
  refine lv_isub hx hb dX2_learn_8 ?_
  refine lv_re (dI_sub _) ?_
  refine lv_istore_n (lv' := [(3, .int (dI 16)), (2, .int x), (0, .ref (al t)), (1, .int x)]) hx hb dX2_learn_9 rfl hl (by decide) rfl (fun ls hl => ?_)
  have lp10 : ∀ (j : Nat), j ≤ 16 → ∀ (y : Int32) (H : Heap) (locs : List Loc) (ls : Array Slot), lrF f j y = lrF f 16 x → lrG f j y = lrG f 16 x → xH E base al w H → va_S (xA base) s.heap H locs → lv_has ls 4 [(3, .int (dI j)), (2, .int y), (0, .ref (al t))] → W p9 l e9 ({ frames := 1, cells := 0, slots := 0, locals := 21 } : Room) s m9 ([.ref (al t), .int x] : List Value).toArray below meth c9 H locs 0 0 Q (F0 m9 10 ls []) := by
    refine lp_dn ?_ ?_
    · intro _ y H locs ls hv hg hH hS hl
      refine lv_iload_n hx hb dX2_learn_10 rfl (lv_at hl 0 rfl) ?_
      refine lv_if_lt (tgt := 67) hx hb dX2_learn_11 (by decide) (fun c_1 => ?_) (fun c_1 => absurd (by decide +kernel) c_1)
      clear c_1
      rw [← hQ]
      refine x_retv C hS (Nat.le_of_ble_eq_true rfl) (Nat.le_of_ble_eq_true rfl) dX2_learn_67 ?_
      rw [hpost]
      exact ⟨rfl, by rw [← hv, ← hg]; simp only [lrF, lrG]; rw [xu_same (xu_of (tg_ne ht hr (by nofun)) ht |> fun z => by simpa [nI_0] using z), xu_same hr]; exact hH⟩
    · intro j ih10 hj y H locs ls hv hg hH hS hl
      refine lv_iload_n hx hb dX2_learn_10 rfl (lv_at hl 0 rfl) ?_
      refine lv_if_lt (tgt := 67) hx hb dX2_learn_11 (by decide) (fun c_2 => absurd ((dI_lt (by omega)).mp c_2) (Nat.succ_ne_zero _)) (fun _ => ?_)
      refine lv_iload_n hx hb dX2_learn_14 rfl (lv_at hl 1 rfl) ?_
      refine lv_iload_n hx hb dX2_learn_15 rfl (lv_at hl 0 rfl) ?_
      refine x_callSN C hS (by have z := c_holds l (E := E) (base := base) (al := al) (w := w) (x := y) (k := j) (by omega); rw [← dI_s] at z; exact z) hH kX6_holds qw_347 nw_372  rfl [] rfl hl.1 (Nat.le_of_ble_eq_true rfl) ⟨Nat.le_of_ble_eq_true rfl, Nat.le_of_ble_eq_true rfl⟩ dX2_learn_16 ⟨Nat.le_of_ble_eq_true rfl, Nat.le_of_ble_eq_true rfl⟩ (fun r_4 H locs hp_3 hS => ?_)
      obtain ⟨rfl, hH⟩ := hp_3
      refine lv_if_ne (tgt := 25) hx hb dX2_learn_19 (by decide) (fun c_5 => ?_) (fun c_5 => ?_)
      · skip
        replace c_5 := ob_n.mp c_5
        refine lv_aload_n hx hb dX2_learn_25 rfl (lv_at hl 2 rfl) ?_
        refine x_get C hH (ci := 3) (T := TX2) (N := 2) ht rfl iWX2 0 (by decide) qw_64 rfl rfl dX2_learn_26 ?_
        refine lv_iload_n hx hb dX2_learn_29 rfl (lv_at hl 0 rfl) ?_
        refine x_iald C hH hr (j := j) (dI_s _) (by omega) (by omega) dX2_learn_30 ?_
        refine lv_if_ne (tgt := 52) hx hb dX2_learn_31 (by decide) (fun c_6 => ?_) (fun c_6 => ?_)
        · skip
          refine lv_iload_n hx hb dX2_learn_52 rfl (lv_at hl 1 rfl) ?_
          refine lv_aload_n hx hb dX2_learn_53 rfl (lv_at hl 2 rfl) ?_
          refine x_get C hH (ci := 3) (T := TX2) (N := 2) ht rfl iWX2 0 (by decide) qw_64 rfl rfl dX2_learn_54 ?_
          refine lv_iload_n hx hb dX2_learn_57 rfl (lv_at hl 0 rfl) ?_
          refine x_iald C hH hr (j := j) (dI_s _) (by omega) (by omega) dX2_learn_58 ?_
          refine lv_ixor hx hb dX2_learn_59 ?_
          refine lv_istore_n (lv' := [(2, .int (y ^^^ f j)), (3, .int (dI (j + 1))), (0, .ref (al t))]) hx hb dX2_learn_60 rfl hl (by decide) rfl (fun ls hl => ?_)
          refine lv_iinc (v := dI j) (lv' := [(3, .int (dI j)), (2, .int (y ^^^ f j)), (0, .ref (al t))]) hx hb dX2_learn_61 hl (k := 1) rfl (dI_dec _) (by decide) rfl (fun ls hl => ?_)
          refine lv_goto (tgt := 10) hx hb dX2_learn_64 (by decide) ?_
          exact ih10 (by omega) (y ^^^ f j) _ _ _ (by rw [← hv]; simp only [lrF, c_5, c_6]; rfl) (by rw [← hg]; simp only [lrG, c_5, c_6]; rfl) hH hS (lv_sub hl [0, 1, 2] rfl)
        · skip
          refine lv_aload_n hx hb dX2_learn_34 rfl (lv_at hl 2 rfl) ?_
          refine x_get C hH (ci := 3) (T := TX2) (N := 2) ht rfl iWX2 0 (by decide) qw_64 rfl rfl dX2_learn_35 ?_
          refine lv_iload_n hx hb dX2_learn_38 rfl (lv_at hl 0 rfl) ?_
          refine lv_iload_n hx hb dX2_learn_39 rfl (lv_at hl 1 rfl) ?_
          refine x_iast C hH hS hr (j := j) (dI_s _) (by omega) (by omega) dX2_learn_40 (fun H locs hH hS => ?_)
          have ht := xu_of (t := tr) (e := .inl (E.2.1 0, 16, .inl (upd f j y))) (tg_ne ht hr (by nofun)) ht
          have hr : (xu w tr (.inl (E.2.1 0, 16, .inl (upd f j y)))) tr = some (.inl (E.2.1 0, 16, .inl (upd f j y))) := xu_self _ _ _
          refine lv_aload_n hx hb dX2_learn_41 rfl (lv_at hl 2 rfl) ?_
          refine lv_dup hx hb dX2_learn_42 rfl ?_
          refine x_get C hH (ci := 3) (T := TX2) (N := 2) ht rfl iWX2 1 (by decide) qw_65 rfl rfl dX2_learn_43 ?_
          refine lv_iconst (v := nI 1) hx hb dX2_learn_46 (by decide +kernel) ?_
          refine lv_iadd hx hb dX2_learn_47 ?_
          refine x_put C hH hS (ci := 3) (T := TX2) (N := 2) (fs' := [.ref (al tr), .int (n + nI 1)]) ht rfl iWX2 tyX2 tyX2_ok nmX2 1 (by decide) qw_65 rfl rfl rfl rfl (Nat.le_of_ble_eq_true rfl) rfl dX2_learn_48 (fun H locs hH hS => ?_)
          have hr := xu_of (t := t) (e := .inr (3, [.ref (al tr), .int (n + nI 1)])) (tg_ne hr ht (by nofun)) hr
          have ht : (xu (xu w tr (.inl (E.2.1 0, 16, .inl (upd f j y)))) t (.inr (3, [.ref (al tr), .int (n + nI 1)]))) t = some (.inr (3, [.ref (al tr), .int (n + nI 1)])) := xu_self _ _ _
          rw [← hQ]
          refine x_retv C hS (Nat.le_of_ble_eq_true rfl) (Nat.le_of_ble_eq_true rfl) dX2_learn_51 ?_
          rw [hpost]
          exact ⟨rfl, by rw [← hv, ← hg]; simp only [lrF, lrG, c_5, c_6, if_true]; exact hH⟩
      · skip
        replace c_5 := ob_0.mp c_5
        refine lv_goto (tgt := 61) hx hb dX2_learn_22 (by decide) ?_
        refine lv_iinc (v := dI j) (lv' := [(3, .int (dI j)), (2, .int y), (0, .ref (al t))]) hx hb dX2_learn_61 hl (k := 0) rfl (dI_dec _) (by decide) rfl (fun ls hl => ?_)
        refine lv_goto (tgt := 10) hx hb dX2_learn_64 (by decide) ?_
        exact ih10 (by omega) y _ _ _ (by rw [← hv]; simp only [lrF, c_5]; rfl) (by rw [← hg]; simp only [lrG, c_5]; rfl) hH hS (lv_sub hl [0, 1, 2] rfl)
  exact lp10 16 (by omega) x _ _ _ rfl rfl hH hS (lv_sub hl [0, 1, 2] rfl)
