theorem or_0 (y : Int32) : y ||| 0 = y := b_ext fun i _ => by rw [b_or, b_0, Bool.or_false]
section KCB
variable {nf np na nw : Nat} {sg : Nat → Nat → Nat → Int32} {rc : Nat → Bool} {p b : Nat}
theorem kc_std (hI : INV nf np na nw sg rc) (hp : p < np) : ∀ a, a < na → kc sg rc (nI 1 <<< (nI p &&& 31)) b a = stdb sg rc p b a := by
  obtain ⟨v16, v6, v150, vnow, vA, vS, vP, vK, vR⟩ := hI
  intro a ha
  obtain ⟨q, hq, e⟩ := (vA a ha).1
  unfold kc stdb
  rw [e, wb_nI (by omega), b_shl p (by omega) _ (by omega), b_1, show decide (nI q = nI p) = decide (q = p) from decide_eq_decide.mpr (nI_eq (by omega) (by omega))]
  congr 2
  by_cases k : q = p
  · subst k; simp
  · rw [decide_eq_false k]
    by_cases k2 : p ≤ q
    · rw [decide_eq_false (by omega : ¬ q - p = 0)]; simp
    · rw [decide_eq_false k2]; rfl
theorem mrw_cong {c d : Nat → Bool} {S : Nat → Int32} : ∀ n, (∀ a, a < n → c a = d a) → mrw c S n = mrw d S n ∧ mct c S n = mct d S n
  | 0, _ => ⟨rfl, rfl⟩
  | n + 1, h => by
    obtain ⟨h1, h2⟩ := mrw_cong (S := S) n (fun a ha => h a (by omega))
    have h3 := h n (Nat.lt_succ_self n)
    constructor
    · show (if c n then mlF (mrw c S n) (S n) else mrw c S n) = if d n then mlF (mrw d S n) (S n) else mrw d S n
      rw [h1, h3]
    · show mct c S n + (if (c n && !decide (red (mrw c S n) 16 (S n) = 0)) = true then 1 else 0) = mct d S n + (if (d n && !decide (red (mrw d S n) 16 (S n) = 0)) = true then 1 else 0)
      rw [h1, h2, h3]
theorem sml_16 (hI : INV nf np na nw sg rc) : ∀ a, a < na → sml 16 (sets sg a) := fun a ha j hj => (hI.2.2.2.2.1 a ha).2.1 j (by have := hI.1; omega)
theorem mct_kc (hI : INV nf np na nw sg rc) (hp : p < np) : mct (kc sg rc (nI 1 <<< (nI p &&& 31)) b) (sets sg) na = KCs sg rc na p b := by
  rw [(mrw_cong na (kc_std hI hp)).2]
  exact mct_eq na (fun a ha _ => sml_16 hI a ha)
theorem red_kc (hI : INV nf np na nw sg rc) (hp : p < np) {y : Int32} : red (mrw (kc sg rc (nI 1 <<< (nI p &&& 31)) b) (sets sg) na) 16 y = 0 ↔ red (KFs sg rc na p b) 16 y = 0 := by
  rw [(mrw_cong na (kc_std hI hp)).1]
  exact mr_eq (fun a ha _ => sml_16 hI a ha) y
end KCB
set_option maxHeartbeats 4000000 in
set_option maxRecDepth 100000 in
theorem m_spentBy (l : Launch) {E : xE} {base : Nat} {al : Tg → Nat} {w : Tg → Option va_E} {th : Int32} {nf np na nw : Nat} {sg : Nat → Nat → Nat → Int32} {rc : Nat → Bool} {fr : Nat → Int32} (hMM : MMf E al w th nf np na nw sg rc fr) (hI : INV nf np na nw sg rc) {p : Nat} (hp : p < np) : xMet l yX7_spentBy cX7_spentBy 4 (some (.int)) ({ frames := 3, cells := 0, slots := 0, locals := 70 } : Room) E base [.ref (al (10, 0, 0)), .int (nI p)] (fun H => xH E base al w H) (fun r H => r = some (.int (nI (sC (KCs sg rc na p) 8))) ∧ ∃ fr9 : Nat → Int32, xH E base al (xu w (10, 18, 0) (.inl (E.2.1 0, 16, .inl fr9))) H) := by
  refine xMet.of (by decide +kernel) "DataroomModel" rfl (Nat.le_of_ble_eq_true rfl) ?_
  intro p9 e9 s m9 below meth c9 ls C hin hP hS hl
  have hx := C.hx
  have hb := C.hb
  have hH := hP
  have hl : lv_has ls 4 [(0, .ref (al (10, 0, 0))), (1, .int (nI p))] := hl
  obtain ⟨post, hpost⟩ : ∃ zz9 : Option Value → Heap → Prop, zz9 = (fun r H => r = some (.int (nI (sC (KCs sg rc na p) 8))) ∧ ∃ fr9 : Nat → Int32, xH E base al (xu w (10, 18, 0) (.inl (E.2.1 0, 16, .inl fr9))) H) := ⟨_, rfl⟩
  rw [← hpost]
  generalize hQ : (MQ below (xQ base post) ([.ref (al (10, 0, 0)), .int (nI p)] : List Value).toArray s 0 0 (xA base)) = Q
  have hMM0 := hMM
  obtain ⟨hM, mm3, mm4, mm6, mm7, mm8, mm9, mm11, mm12, mm13, mm14, mm15, mm16, mm17, mm18⟩ := hMM
  have hI0 := hI
  obtain ⟨v16, v6, v150, vnow, vA, vS, vP, vK, vR⟩ := hI
  refine lv_iconst (v := nI 0) hx hb dX7_spentBy_0 (by decide +kernel) ?_
  refine lv_istore_n (lv' := [(2, .int (nI 0)), (0, .ref (al (10, 0, 0))), (1, .int (nI p))]) hx hb dX7_spentBy_1 rfl hl (by decide) rfl (fun ls hl => ?_)
  refine lv_iconst (v := nI 0) hx hb dX7_spentBy_2 (by decide +kernel) ?_
  refine lv_istore_n (lv' := [(3, .int (nI 0)), (2, .int (nI 0)), (0, .ref (al (10, 0, 0))), (1, .int (nI p))]) hx hb dX7_spentBy_3 rfl hl (by decide) rfl (fun ls hl => ?_)
  have lp4 : ∀ (i : Nat), i ≤ 8 → ∀ (fr9 : Nat → Int32) (H : Heap) (locs : List Loc) (ls : Array Slot), xH E base al (xu w (10, 18, 0) (.inl (E.2.1 0, 16, .inl fr9))) H → va_S (xA base) s.heap H locs → lv_has ls 4 [(3, .int (nI i)), (2, .int (nI (sC (KCs sg rc na p) i))), (1, .int (nI p)), (0, .ref (al (10, 0, 0)))] → W p9 l e9 ({ frames := 3, cells := 0, slots := 0, locals := 70 } : Room) s m9 ([.ref (al (10, 0, 0)), .int (nI p)] : List Value).toArray below meth c9 H locs 0 0 Q (F0 m9 4 ls []) := by
    refine lp_up ?_
    intro i hii ih4 fr9 H locs ls hH hS hl
    have hMM1 := hMM0.fr fr9
    have hMMx := hMM1
    obtain ⟨hM, mm3, mm4, mm6, mm7, mm8, mm9, mm11, mm12, mm13, mm14, mm15, mm16, mm17, mm18⟩ := hMMx
    refine lv_iload_n hx hb dX7_spentBy_4 rfl (lv_at hl 0 rfl) ?_
    refine lv_bipush (v := nI 8) hx hb dX7_spentBy_5 (by decide +kernel) ?_
    refine lv_icmp_ge (tgt := 27) hx hb dX7_spentBy_7 (by decide) (fun c_1 => ?_) (fun c_1 => ?_)
    · skip
      replace c_1 := (nI_leI (by omega) (by omega)).mp c_1
      refine lv_iload_n hx hb dX7_spentBy_27 rfl (lv_at hl 1 rfl) ?_
      rw [← hQ]
      refine x_reti C rfl hS (Nat.le_of_ble_eq_true rfl) (Nat.le_of_ble_eq_true rfl) dX7_spentBy_28 ?_
      rw [hpost]
      have e8 : i = 8 := by omega
      subst e8
      exact ⟨rfl, fr9, hH⟩
    · skip
      replace c_1 := mt (nI_leI (by omega) (by omega)).mpr c_1
      refine lv_iload_n hx hb dX7_spentBy_10 rfl (lv_at hl 1 rfl) ?_
      refine lv_aload_n hx hb dX7_spentBy_11 rfl (lv_at hl 3 rfl) ?_
      refine lv_iconst (v := nI 1) hx hb dX7_spentBy_12 (by decide +kernel) ?_
      refine lv_iload_n hx hb dX7_spentBy_13 rfl (lv_at hl 2 rfl) ?_
      refine lv_ishl hx hb dX7_spentBy_14 ?_
      refine lv_iload_n hx hb dX7_spentBy_15 rfl (lv_at hl 0 rfl) ?_
      refine x_callV C hH hS (ci := 8) (t := (10, 0, 0)) hM rfl rfl (m_know l (E := E) (base := base) hMM1 hI0 (x := (nI 1 <<< (nI p &&& 31))) (b := i) (by omega)) hH kX7_know qw_835 (ws_p (List.mem_of_getElem? (i := 27) rfl) rfl) qw_833  rfl [.int (nI (sC (KCs sg rc na p) i))] rfl hl.1 (Nat.le_of_ble_eq_true rfl) ⟨Nat.le_of_ble_eq_true rfl, Nat.le_of_ble_eq_true rfl⟩ dX7_spentBy_16 ⟨Nat.le_of_ble_eq_true rfl, Nat.le_of_ble_eq_true rfl⟩ (fun r_3 H locs hp_2 hS => ?_)
      obtain ⟨rfl, hH⟩ := hp_2
      rw [xu_uu] at hH
      have hMM2 := hMM0.fr (mrw (kc sg rc (nI 1 <<< (nI p &&& 31)) i) (sets sg) na)
      have hMMx := hMM2
      obtain ⟨hM, mm3, mm4, mm6, mm7, mm8, mm9, mm11, mm12, mm13, mm14, mm15, mm16, mm17, mm18⟩ := hMMx
      refine lv_re (y := nI (KCs sg rc na p i)) (by rw [mct_kc hI0 hp]) ?_
      refine lv_iadd hx hb dX7_spentBy_19 ?_
      refine lv_re (nI_add _ _) ?_
      refine lv_istore_n (lv' := [(2, .int (nI (sC (KCs sg rc na p) i + KCs sg rc na p i))), (3, .int (nI i)), (1, .int (nI p)), (0, .ref (al (10, 0, 0)))]) hx hb dX7_spentBy_20 rfl hl (by decide) rfl (fun ls hl => ?_)
      refine lv_iinc (v := nI (i + 1)) (lv' := [(3, .int (nI (i + 1))), (2, .int (nI (sC (KCs sg rc na p) i + KCs sg rc na p i))), (1, .int (nI p)), (0, .ref (al (10, 0, 0)))]) hx hb dX7_spentBy_21 hl (k := 1) rfl (nI_1 _) (by decide) rfl (fun ls hl => ?_)
      refine lv_goto (tgt := 4) hx hb dX7_spentBy_24 (by decide) ?_
      exact ih4 (by omega) _ _ _ _  hH hS (lv_sub hl [0, 1, 2, 3] rfl)
  exact lp4 0 (Nat.zero_le _)  fr _ _ _  (by rw [xu_same mm18]; exact hH) hS (lv_sub hl [0, 1, 3, 2] rfl)

set_option maxHeartbeats 4000000 in
set_option maxRecDepth 100000 in
theorem m_costOf (l : Launch) {E : xE} {base : Nat} {al : Tg → Nat} {w : Tg → Option va_E} {th : Int32} {nf np na nw : Nat} {sg : Nat → Nat → Nat → Int32} {rc : Nat → Bool} {fr : Nat → Int32} (hMM : MMf E al w th nf np na nw sg rc fr) (hI : INV nf np na nw sg rc) {p : Nat} {x bit : Int32} (hp : p < np) : xMet l yX7_costOf cX7_costOf 6 (some (.int)) ({ frames := 3, cells := 0, slots := 0, locals := 70 } : Room) E base [.ref (al (10, 0, 0)), .int (nI p), .int x, .int bit] (fun H => xH E base al w H) (fun r H => r = some (.int (nI (cC (KFs sg rc na p) bit x 8))) ∧ ∃ fr9 : Nat → Int32, xH E base al (xu w (10, 18, 0) (.inl (E.2.1 0, 16, .inl fr9))) H) := by
  refine xMet.of (by decide +kernel) "DataroomModel" rfl (Nat.le_of_ble_eq_true rfl) ?_
  intro p9 e9 s m9 below meth c9 ls C hin hP hS hl
  have hx := C.hx
  have hb := C.hb
  have hH := hP
  have hl : lv_has ls 6 [(0, .ref (al (10, 0, 0))), (1, .int (nI p)), (2, .int x), (3, .int bit)] := hl
  obtain ⟨post, hpost⟩ : ∃ zz9 : Option Value → Heap → Prop, zz9 = (fun r H => r = some (.int (nI (cC (KFs sg rc na p) bit x 8))) ∧ ∃ fr9 : Nat → Int32, xH E base al (xu w (10, 18, 0) (.inl (E.2.1 0, 16, .inl fr9))) H) := ⟨_, rfl⟩
  rw [← hpost]
  generalize hQ : (MQ below (xQ base post) ([.ref (al (10, 0, 0)), .int (nI p), .int x, .int bit] : List Value).toArray s 0 0 (xA base)) = Q
  have hMM0 := hMM
  obtain ⟨hM, mm3, mm4, mm6, mm7, mm8, mm9, mm11, mm12, mm13, mm14, mm15, mm16, mm17, mm18⟩ := hMM
  have hI0 := hI
  obtain ⟨v16, v6, v150, vnow, vA, vS, vP, vK, vR⟩ := hI
  refine lv_iconst (v := nI 0) hx hb dX7_costOf_0 (by decide +kernel) ?_
  refine lv_istore (lv' := [(4, .int (nI 0)), (0, .ref (al (10, 0, 0))), (1, .int (nI p)), (2, .int x), (3, .int bit)]) hx hb dX7_costOf_1 hl (by decide) rfl (fun ls hl => ?_)
  refine lv_iconst (v := nI 0) hx hb dX7_costOf_3 (by decide +kernel) ?_
  refine lv_istore (lv' := [(5, .int (nI 0)), (4, .int (nI 0)), (0, .ref (al (10, 0, 0))), (1, .int (nI p)), (2, .int x), (3, .int bit)]) hx hb dX7_costOf_4 hl (by decide) rfl (fun ls hl => ?_)
  have lp6 : ∀ (i : Nat), i ≤ 8 → ∀ (y : Nat) (fr9 : Nat → Int32) (H : Heap) (locs : List Loc) (ls : Array Slot), y = cC (KFs sg rc na p) bit x i → xH E base al (xu w (10, 18, 0) (.inl (E.2.1 0, 16, .inl fr9))) H → va_S (xA base) s.heap H locs → lv_has ls 6 [(5, .int (nI i)), (4, .int (nI y)), (3, .int bit), (2, .int x), (1, .int (nI p)), (0, .ref (al (10, 0, 0)))] → W p9 l e9 ({ frames := 3, cells := 0, slots := 0, locals := 70 } : Room) s m9 ([.ref (al (10, 0, 0)), .int (nI p), .int x, .int bit] : List Value).toArray below meth c9 H locs 0 0 Q (F0 m9 6 ls []) := by
    refine lp_up ?_
    intro i hii ih6 y fr9 H locs ls hy hH hS hl
    have hMM1 := hMM0.fr fr9
    have hMMx := hMM1
    obtain ⟨hM, mm3, mm4, mm6, mm7, mm8, mm9, mm11, mm12, mm13, mm14, mm15, mm16, mm17, mm18⟩ := hMMx
    refine lv_iload hx hb dX7_costOf_6 (lv_at hl 0 rfl) ?_
    refine lv_bipush (v := nI 8) hx hb dX7_costOf_8 (by decide +kernel) ?_
    refine lv_icmp_ge (tgt := 56) hx hb dX7_costOf_10 (by decide) (fun c_1 => ?_) (fun c_1 => ?_)
    · skip
      replace c_1 := (nI_leI (by omega) (by omega)).mp c_1
      refine lv_iload hx hb dX7_costOf_56 (lv_at hl 1 rfl) ?_
      rw [← hQ]
      refine x_reti C rfl hS (Nat.le_of_ble_eq_true rfl) (Nat.le_of_ble_eq_true rfl) dX7_costOf_58 ?_
      rw [hpost]
      have e8 : i = 8 := by omega
      subst e8
      exact ⟨by rw [hy], fr9, hH⟩
    · skip
      replace c_1 := mt (nI_leI (by omega) (by omega)).mpr c_1
      refine lv_iload_n hx hb dX7_costOf_13 rfl (lv_at hl 2 rfl) ?_
      refine lv_iload hx hb dX7_costOf_14 (lv_at hl 0 rfl) ?_
      refine x_callS C hS (m_isAsked l (E := E) (base := base) (al := al) (w := (xu w (10, 18, 0) (.inl (E.2.1 0, 16, .inl fr9)))) (x := bit) (k := i)) hH kX7_isAsked qw_831 qw_830  rfl [] rfl hl.1 (Nat.le_of_ble_eq_true rfl) ⟨Nat.le_of_ble_eq_true rfl, Nat.le_of_ble_eq_true rfl⟩ dX7_costOf_16 ⟨Nat.le_of_ble_eq_true rfl, Nat.le_of_ble_eq_true rfl⟩ (fun r_3 H locs hp_2 hS => ?_)
      obtain ⟨rfl, hH⟩ := hp_2
      refine lv_if_eq (tgt := 50) hx hb dX7_costOf_19 (by decide) (fun c_4 => ?_) (fun c_4 => ?_)
      · skip
        replace c_4 := ob_0.mp c_4
        refine lv_iinc (v := nI (i + 1)) (lv' := [(5, .int (nI (i + 1))), (4, .int (nI y)), (3, .int bit), (2, .int x), (1, .int (nI p)), (0, .ref (al (10, 0, 0)))]) hx hb dX7_costOf_50 hl (k := 0) rfl (nI_1 _) (by decide) rfl (fun ls hl => ?_)
        refine lv_goto (tgt := 6) hx hb dX7_costOf_53 (by decide) ?_
        exact ih6 (by omega) y _ _ _ _ (by rw [hy]; show _ = cC _ bit x i + (if (cov bit i && _) = true then 1 else 0); rw [c_4]; rfl) hH hS (lv_sub hl [0, 1, 2, 3, 4, 5] rfl)
      · skip
        replace c_4 := ob_n.mp c_4
        refine lv_aload_n hx hb dX7_costOf_22 rfl (lv_at hl 5 rfl) ?_
        refine lv_iconst (v := nI 1) hx hb dX7_costOf_23 (by decide +kernel) ?_
        refine lv_iload_n hx hb dX7_costOf_24 rfl (lv_at hl 4 rfl) ?_
        refine lv_ishl hx hb dX7_costOf_25 ?_
        refine lv_iload hx hb dX7_costOf_26 (lv_at hl 0 rfl) ?_
        refine x_callV C hH hS (ci := 8) (t := (10, 0, 0)) hM rfl rfl (m_know l (E := E) (base := base) hMM1 hI0 (x := (nI 1 <<< (nI p &&& 31))) (b := i) (by omega)) hH kX7_know qw_835 (ws_p (List.mem_of_getElem? (i := 27) rfl) rfl) qw_833  rfl [] rfl hl.1 (Nat.le_of_ble_eq_true rfl) ⟨Nat.le_of_ble_eq_true rfl, Nat.le_of_ble_eq_true rfl⟩ dX7_costOf_28 ⟨Nat.le_of_ble_eq_true rfl, Nat.le_of_ble_eq_true rfl⟩ (fun r_6 H locs hp_5 hS => ?_)
        obtain ⟨rfl, hH⟩ := hp_5
        rw [xu_uu] at hH
        have hMM2 := hMM0.fr (mrw (kc sg rc (nI 1 <<< (nI p &&& 31)) i) (sets sg) na)
        have hMMx := hMM2
        obtain ⟨hM, mm3, mm4, mm6, mm7, mm8, mm9, mm11, mm12, mm13, mm14, mm15, mm16, mm17, mm18⟩ := hMMx
        refine lv_pop hx hb dX7_costOf_31 rfl ?_
        refine lv_iload hx hb dX7_costOf_32 (lv_at hl 1 rfl) ?_
        refine lv_aload_n hx hb dX7_costOf_34 rfl (lv_at hl 5 rfl) ?_
        refine lv_iload_n hx hb dX7_costOf_35 rfl (lv_at hl 3 rfl) ?_
        refine x_callV C hH hS (ci := 8) (t := (10, 0, 0)) hM rfl rfl (m_reduce l (E := E) (base := base) hMM2 (x := x)) hH kX7_reduce qw_843 (ws_p (List.mem_of_getElem? (i := 29) rfl) rfl) qw_841  rfl [.int (nI y)] rfl hl.1 (Nat.le_of_ble_eq_true rfl) ⟨Nat.le_of_ble_eq_true rfl, Nat.le_of_ble_eq_true rfl⟩ dX7_costOf_36 ⟨Nat.le_of_ble_eq_true rfl, Nat.le_of_ble_eq_true rfl⟩ (fun r_8 H locs hp_7 hS => ?_)
        obtain ⟨rfl, hH⟩ := hp_7
        refine lv_if_eq (tgt := 46) hx hb dX7_costOf_39 (by decide) (fun c_9 => ?_) (fun c_9 => ?_)
        · skip
          refine lv_iconst (v := nI 0) hx hb dX7_costOf_46 (by decide +kernel) ?_
          refine lv_iadd hx hb dX7_costOf_47 ?_
          refine lv_re (nI_add _ _) ?_
          refine lv_istore (lv' := [(4, .int (nI (y + 0))), (5, .int (nI i)), (3, .int bit), (2, .int x), (1, .int (nI p)), (0, .ref (al (10, 0, 0)))]) hx hb dX7_costOf_48 hl (by decide) rfl (fun ls hl => ?_)
          refine lv_iinc (v := nI (i + 1)) (lv' := [(5, .int (nI (i + 1))), (4, .int (nI (y + 0))), (3, .int bit), (2, .int x), (1, .int (nI p)), (0, .ref (al (10, 0, 0)))]) hx hb dX7_costOf_50 hl (k := 1) rfl (nI_1 _) (by decide) rfl (fun ls hl => ?_)
          refine lv_goto (tgt := 6) hx hb dX7_costOf_53 (by decide) ?_
          exact ih6 (by omega) (y + 0) _ _ _ _ (by rw [hy]; show _ = cC _ bit x i + (if (cov bit i && !decide (red (KFs sg rc na p i) 16 x = 0)) = true then 1 else 0); rw [c_4, decide_eq_true (show red (KFs sg rc na p i) 16 x = 0 from (red_kc hI0 hp).mp c_9)]; rfl) hH hS (lv_sub hl [0, 1, 2, 3, 4, 5] rfl)
        · skip
          refine lv_iconst (v := nI 1) hx hb dX7_costOf_42 (by decide +kernel) ?_
          refine lv_goto (tgt := 47) hx hb dX7_costOf_43 (by decide) ?_
          refine lv_iadd hx hb dX7_costOf_47 ?_
          refine lv_re (nI_add _ _) ?_
          refine lv_istore (lv' := [(4, .int (nI (y + 1))), (5, .int (nI i)), (3, .int bit), (2, .int x), (1, .int (nI p)), (0, .ref (al (10, 0, 0)))]) hx hb dX7_costOf_48 hl (by decide) rfl (fun ls hl => ?_)
          refine lv_iinc (v := nI (i + 1)) (lv' := [(5, .int (nI (i + 1))), (4, .int (nI (y + 1))), (3, .int bit), (2, .int x), (1, .int (nI p)), (0, .ref (al (10, 0, 0)))]) hx hb dX7_costOf_50 hl (k := 1) rfl (nI_1 _) (by decide) rfl (fun ls hl => ?_)
          refine lv_goto (tgt := 6) hx hb dX7_costOf_53 (by decide) ?_
          exact ih6 (by omega) (y + 1) _ _ _ _ (by rw [hy]; show _ = cC _ bit x i + (if (cov bit i && !decide (red (KFs sg rc na p i) 16 x = 0)) = true then 1 else 0); rw [c_4, decide_eq_false (show ¬ red (KFs sg rc na p i) 16 x = 0 from mt (red_kc hI0 hp).mpr c_9)]; rfl) hH hS (lv_sub hl [0, 1, 2, 3, 4, 5] rfl)
  exact lp6 0 (Nat.zero_le _) 0 fr _ _ _ rfl (by rw [xu_same mm18]; exact hH) hS (lv_sub hl [0, 1, 5, 4, 3, 2] rfl)

set_option maxHeartbeats 4000000 in
set_option maxRecDepth 100000 in
theorem m_findsBy (l : Launch) {E : xE} {base : Nat} {al : Tg → Nat} {w : Tg → Option va_E} {th : Int32} {nf np na nw : Nat} {sg : Nat → Nat → Nat → Int32} {rc : Nat → Bool} {fr : Nat → Int32} (hMM : MMf E al w th nf np na nw sg rc fr) (hI : INV nf np na nw sg rc) {x : Int32} {f : Nat} (hf : f < 16) : xMet l yX7_findsBy cX7_findsBy 5 (some (.int)) ({ frames := 3, cells := 0, slots := 0, locals := 70 } : Room) E base [.ref (al (10, 0, 0)), .int x, .int (nI f)] (fun H => xH E base al w H) (fun r H => r = some (.int (fBs (fun b => decide (red (mrw (kc sg rc x b) (sets sg) na) 16 (nI 1 <<< (nI f &&& 31)) = 0)) 8)) ∧ ∃ fr9 : Nat → Int32, xH E base al (xu w (10, 18, 0) (.inl (E.2.1 0, 16, .inl fr9))) H) := by
  refine xMet.of (by decide +kernel) "DataroomModel" rfl (Nat.le_of_ble_eq_true rfl) ?_
  intro p9 e9 s m9 below meth c9 ls C hin hP hS hl
  have hx := C.hx
  have hb := C.hb
  have hH := hP
  have hl : lv_has ls 5 [(0, .ref (al (10, 0, 0))), (1, .int x), (2, .int (nI f))] := hl
  obtain ⟨post, hpost⟩ : ∃ zz9 : Option Value → Heap → Prop, zz9 = (fun r H => r = some (.int (fBs (fun b => decide (red (mrw (kc sg rc x b) (sets sg) na) 16 (nI 1 <<< (nI f &&& 31)) = 0)) 8)) ∧ ∃ fr9 : Nat → Int32, xH E base al (xu w (10, 18, 0) (.inl (E.2.1 0, 16, .inl fr9))) H) := ⟨_, rfl⟩
  rw [← hpost]
  generalize hQ : (MQ below (xQ base post) ([.ref (al (10, 0, 0)), .int x, .int (nI f)] : List Value).toArray s 0 0 (xA base)) = Q
  have hMM0 := hMM
  obtain ⟨hM, mm3, mm4, mm6, mm7, mm8, mm9, mm11, mm12, mm13, mm14, mm15, mm16, mm17, mm18⟩ := hMM
  have hI0 := hI
  obtain ⟨v16, v6, v150, vnow, vA, vS, vP, vK, vR⟩ := hI
  refine lv_iconst (v := nI 0) hx hb dX7_findsBy_0 (by decide +kernel) ?_
  refine lv_istore_n (lv' := [(3, .int (nI 0)), (0, .ref (al (10, 0, 0))), (1, .int x), (2, .int (nI f))]) hx hb dX7_findsBy_1 rfl hl (by decide) rfl (fun ls hl => ?_)
  refine lv_iconst (v := nI 0) hx hb dX7_findsBy_2 (by decide +kernel) ?_
  refine lv_istore (lv' := [(4, .int (nI 0)), (3, .int (nI 0)), (0, .ref (al (10, 0, 0))), (1, .int x), (2, .int (nI f))]) hx hb dX7_findsBy_3 hl (by decide) rfl (fun ls hl => ?_)
  have lp5 : ∀ (i : Nat), i ≤ 8 → ∀ (y : Int32) (fr9 : Nat → Int32) (H : Heap) (locs : List Loc) (ls : Array Slot), y = fBs (fun b => decide (red (mrw (kc sg rc x b) (sets sg) na) 16 (nI 1 <<< (nI f &&& 31)) = 0)) i → xH E base al (xu w (10, 18, 0) (.inl (E.2.1 0, 16, .inl fr9))) H → va_S (xA base) s.heap H locs → lv_has ls 5 [(4, .int (nI i)), (3, .int y), (2, .int (nI f)), (1, .int x), (0, .ref (al (10, 0, 0)))] → W p9 l e9 ({ frames := 3, cells := 0, slots := 0, locals := 70 } : Room) s m9 ([.ref (al (10, 0, 0)), .int x, .int (nI f)] : List Value).toArray below meth c9 H locs 0 0 Q (F0 m9 5 ls []) := by
    refine lp_up ?_
    intro i hii ih5 y fr9 H locs ls hy hH hS hl
    have hMM1 := hMM0.fr fr9
    have hMMx := hMM1
    obtain ⟨hM, mm3, mm4, mm6, mm7, mm8, mm9, mm11, mm12, mm13, mm14, mm15, mm16, mm17, mm18⟩ := hMMx
    refine lv_iload hx hb dX7_findsBy_5 (lv_at hl 0 rfl) ?_
    refine lv_bipush (v := nI 8) hx hb dX7_findsBy_7 (by decide +kernel) ?_
    refine lv_icmp_ge (tgt := 47) hx hb dX7_findsBy_9 (by decide) (fun c_1 => ?_) (fun c_1 => ?_)
    · skip
      replace c_1 := (nI_leI (by omega) (by omega)).mp c_1
      refine lv_iload_n hx hb dX7_findsBy_47 rfl (lv_at hl 1 rfl) ?_
      rw [← hQ]
      refine x_reti C rfl hS (Nat.le_of_ble_eq_true rfl) (Nat.le_of_ble_eq_true rfl) dX7_findsBy_48 ?_
      rw [hpost]
      have e8 : i = 8 := by omega
      subst e8
      exact ⟨by rw [hy], fr9, hH⟩
    · skip
      replace c_1 := mt (nI_leI (by omega) (by omega)).mpr c_1
      refine lv_aload_n hx hb dX7_findsBy_12 rfl (lv_at hl 4 rfl) ?_
      refine lv_iload_n hx hb dX7_findsBy_13 rfl (lv_at hl 3 rfl) ?_
      refine lv_iload hx hb dX7_findsBy_14 (lv_at hl 0 rfl) ?_
      refine x_callV C hH hS (ci := 8) (t := (10, 0, 0)) hM rfl rfl (m_know l (E := E) (base := base) hMM1 hI0 (x := x) (b := i) (by omega)) hH kX7_know qw_835 (ws_p (List.mem_of_getElem? (i := 27) rfl) rfl) qw_833  rfl [] rfl hl.1 (Nat.le_of_ble_eq_true rfl) ⟨Nat.le_of_ble_eq_true rfl, Nat.le_of_ble_eq_true rfl⟩ dX7_findsBy_16 ⟨Nat.le_of_ble_eq_true rfl, Nat.le_of_ble_eq_true rfl⟩ (fun r_3 H locs hp_2 hS => ?_)
      obtain ⟨rfl, hH⟩ := hp_2
      rw [xu_uu] at hH
      have hMM2 := hMM0.fr (mrw (kc sg rc x i) (sets sg) na)
      have hMMx := hMM2
      obtain ⟨hM, mm3, mm4, mm6, mm7, mm8, mm9, mm11, mm12, mm13, mm14, mm15, mm16, mm17, mm18⟩ := hMMx
      refine lv_pop hx hb dX7_findsBy_19 rfl ?_
      refine lv_iload_n hx hb dX7_findsBy_20 rfl (lv_at hl 1 rfl) ?_
      refine lv_aload_n hx hb dX7_findsBy_21 rfl (lv_at hl 4 rfl) ?_
      refine lv_iconst (v := nI 1) hx hb dX7_findsBy_22 (by decide +kernel) ?_
      refine lv_iload_n hx hb dX7_findsBy_23 rfl (lv_at hl 2 rfl) ?_
      refine lv_ishl hx hb dX7_findsBy_24 ?_
      refine x_callV C hH hS (ci := 8) (t := (10, 0, 0)) hM rfl rfl (m_reduce l (E := E) (base := base) hMM2 (x := (nI 1 <<< (nI f &&& 31)))) hH kX7_reduce qw_843 (ws_p (List.mem_of_getElem? (i := 29) rfl) rfl) qw_841  rfl [.int y] rfl hl.1 (Nat.le_of_ble_eq_true rfl) ⟨Nat.le_of_ble_eq_true rfl, Nat.le_of_ble_eq_true rfl⟩ dX7_findsBy_25 ⟨Nat.le_of_ble_eq_true rfl, Nat.le_of_ble_eq_true rfl⟩ (fun r_5 H locs hp_4 hS => ?_)
      obtain ⟨rfl, hH⟩ := hp_4
      refine lv_if_ne (tgt := 38) hx hb dX7_findsBy_28 (by decide) (fun c_6 => ?_) (fun c_6 => ?_)
      · skip
        refine lv_iconst (v := nI 0) hx hb dX7_findsBy_38 (by decide +kernel) ?_
        refine lv_ior hx hb dX7_findsBy_39 ?_
        refine lv_istore_n (lv' := [(3, .int (y ||| nI 0)), (4, .int (nI i)), (2, .int (nI f)), (1, .int x), (0, .ref (al (10, 0, 0)))]) hx hb dX7_findsBy_40 rfl hl (by decide) rfl (fun ls hl => ?_)
        refine lv_iinc (v := nI (i + 1)) (lv' := [(4, .int (nI (i + 1))), (3, .int (y ||| nI 0)), (2, .int (nI f)), (1, .int x), (0, .ref (al (10, 0, 0)))]) hx hb dX7_findsBy_41 hl (k := 1) rfl (nI_1 _) (by decide) rfl (fun ls hl => ?_)
        refine lv_goto (tgt := 5) hx hb dX7_findsBy_44 (by decide) ?_
        exact ih5 (by omega) (y ||| nI 0) _ _ _ _ (by rw [hy, nI_0, or_0]; exact fBs_n (P := (fun b => decide (red (mrw (kc sg rc x b) (sets sg) na) 16 (nI 1 <<< (nI f &&& 31)) = 0))) (decide_eq_false c_6)) hH hS (lv_sub hl [0, 1, 2, 3, 4] rfl)
      · skip
        refine lv_iconst (v := nI 1) hx hb dX7_findsBy_31 (by decide +kernel) ?_
        refine lv_iload hx hb dX7_findsBy_32 (lv_at hl 0 rfl) ?_
        refine lv_ishl hx hb dX7_findsBy_34 ?_
        refine lv_goto (tgt := 39) hx hb dX7_findsBy_35 (by decide) ?_
        refine lv_ior hx hb dX7_findsBy_39 ?_
        refine lv_istore_n (lv' := [(3, .int (y ||| (nI 1 <<< (nI i &&& 31)))), (4, .int (nI i)), (2, .int (nI f)), (1, .int x), (0, .ref (al (10, 0, 0)))]) hx hb dX7_findsBy_40 rfl hl (by decide) rfl (fun ls hl => ?_)
        refine lv_iinc (v := nI (i + 1)) (lv' := [(4, .int (nI (i + 1))), (3, .int (y ||| (nI 1 <<< (nI i &&& 31)))), (2, .int (nI f)), (1, .int x), (0, .ref (al (10, 0, 0)))]) hx hb dX7_findsBy_41 hl (k := 1) rfl (nI_1 _) (by decide) rfl (fun ls hl => ?_)
        refine lv_goto (tgt := 5) hx hb dX7_findsBy_44 (by decide) ?_
        exact ih5 (by omega) (y ||| (nI 1 <<< (nI i &&& 31))) _ _ _ _ (by rw [hy]; exact fBs_p (P := (fun b => decide (red (mrw (kc sg rc x b) (sets sg) na) 16 (nI 1 <<< (nI f &&& 31)) = 0))) (decide_eq_true c_6)) hH hS (lv_sub hl [0, 1, 2, 3, 4] rfl)
  exact lp5 0 (Nat.zero_le _) (nI 0) fr _ _ _ rfl (by rw [xu_same mm18]; exact hH) hS (lv_sub hl [0, 1, 4, 3, 2] rfl)

set_option maxHeartbeats 4000000 in
set_option maxRecDepth 100000 in
theorem m_found (l : Launch) {E : xE} {base : Nat} {al : Tg → Nat} {w : Tg → Option va_E} {th : Int32} {nf np na nw : Nat} {sg : Nat → Nat → Nat → Int32} {rc : Nat → Bool} {fr : Nat → Int32} (hMM : MMf E al w th nf np na nw sg rc fr) (hnf : nf ≤ 16) : xMet l yX7_found cX7_found 3 (some (.int)) ({ frames := 1, cells := 0, slots := 0, locals := 23 } : Room) E base [.ref (al (10, 0, 0))] (fun H => xH E base al w H) (fun r H => r = some (.int (fBs (fun f => decide (red fr 16 (nI 1 <<< (nI f &&& 31)) = 0)) nf)) ∧ xH E base al w H) := by
  refine xMet.of (by decide +kernel) "DataroomModel" rfl (Nat.le_of_ble_eq_true rfl) ?_
  intro p9 e9 s m9 below meth c9 ls C hin hP hS hl
  have hx := C.hx
  have hb := C.hb
  have hH := hP
  have hl : lv_has ls 3 [(0, .ref (al (10, 0, 0)))] := hl
  obtain ⟨post, hpost⟩ : ∃ zz9 : Option Value → Heap → Prop, zz9 = (fun r H => r = some (.int (fBs (fun f => decide (red fr 16 (nI 1 <<< (nI f &&& 31)) = 0)) nf)) ∧ xH E base al w H) := ⟨_, rfl⟩
  rw [← hpost]
  generalize hQ : (MQ below (xQ base post) ([.ref (al (10, 0, 0))] : List Value).toArray s 0 0 (xA base)) = Q
  have hMM0 := hMM
  obtain ⟨hM, mm3, mm4, mm6, mm7, mm8, mm9, mm11, mm12, mm13, mm14, mm15, mm16, mm17, mm18⟩ := hMM
  refine lv_iconst (v := nI 0) hx hb dX7_found_0 (by decide +kernel) ?_
  refine lv_istore_n (lv' := [(1, .int (nI 0)), (0, .ref (al (10, 0, 0)))]) hx hb dX7_found_1 rfl hl (by decide) rfl (fun ls hl => ?_)
  refine lv_iconst (v := nI 0) hx hb dX7_found_2 (by decide +kernel) ?_
  refine lv_istore_n (lv' := [(2, .int (nI 0)), (1, .int (nI 0)), (0, .ref (al (10, 0, 0)))]) hx hb dX7_found_3 rfl hl (by decide) rfl (fun ls hl => ?_)
  have lp4 : ∀ (i : Nat), i ≤ nf → ∀ (y : Int32) (H : Heap) (locs : List Loc) (ls : Array Slot), y = fBs (fun f => decide (red fr 16 (nI 1 <<< (nI f &&& 31)) = 0)) i → xH E base al w H → va_S (xA base) s.heap H locs → lv_has ls 3 [(2, .int (nI i)), (1, .int y), (0, .ref (al (10, 0, 0)))] → W p9 l e9 ({ frames := 1, cells := 0, slots := 0, locals := 23 } : Room) s m9 ([.ref (al (10, 0, 0))] : List Value).toArray below meth c9 H locs 0 0 Q (F0 m9 4 ls []) := by
    refine lp_up ?_
    intro i hii ih4 y H locs ls hy hH hS hl
    refine lv_iload_n hx hb dX7_found_4 rfl (lv_at hl 0 rfl) ?_
    refine lv_aload_n hx hb dX7_found_5 rfl (lv_at hl 2 rfl) ?_
    refine x_get C hH (ci := 8) (T := TX7) (N := 19) hM rfl iWX7 2 (by decide) qw_698 rfl rfl dX7_found_6 ?_
    refine lv_icmp_ge (tgt := 38) hx hb dX7_found_9 (by decide) (fun c_1 => ?_) (fun c_1 => ?_)
    · skip
      replace c_1 := (nI_leI (by omega) (by omega)).mp c_1
      refine lv_iload_n hx hb dX7_found_38 rfl (lv_at hl 1 rfl) ?_
      rw [← hQ]
      refine x_reti C rfl hS (Nat.le_of_ble_eq_true rfl) (Nat.le_of_ble_eq_true rfl) dX7_found_39 ?_
      rw [hpost]
      have e8 : i = nf := by omega
      subst e8
      exact ⟨by rw [hy], hH⟩
    · skip
      replace c_1 := mt (nI_leI (by omega) (by omega)).mpr c_1
      refine lv_iload_n hx hb dX7_found_12 rfl (lv_at hl 1 rfl) ?_
      refine lv_aload_n hx hb dX7_found_13 rfl (lv_at hl 2 rfl) ?_
      refine lv_iconst (v := nI 1) hx hb dX7_found_14 (by decide +kernel) ?_
      refine lv_iload_n hx hb dX7_found_15 rfl (lv_at hl 0 rfl) ?_
      refine lv_ishl hx hb dX7_found_16 ?_
      refine x_callV C hH hS (ci := 8) (t := (10, 0, 0)) hM rfl rfl (m_reduce l (E := E) (base := base) hMM0 (x := (nI 1 <<< (nI i &&& 31)))) hH kX7_reduce qw_843 (ws_p (List.mem_of_getElem? (i := 29) rfl) rfl) qw_841  rfl [.int y] rfl hl.1 (Nat.le_of_ble_eq_true rfl) ⟨Nat.le_of_ble_eq_true rfl, Nat.le_of_ble_eq_true rfl⟩ dX7_found_17 ⟨Nat.le_of_ble_eq_true rfl, Nat.le_of_ble_eq_true rfl⟩ (fun r_3 H locs hp_2 hS => ?_)
      obtain ⟨rfl, hH⟩ := hp_2
      refine lv_if_ne (tgt := 29) hx hb dX7_found_20 (by decide) (fun c_4 => ?_) (fun c_4 => ?_)
      · skip
        refine lv_iconst (v := nI 0) hx hb dX7_found_29 (by decide +kernel) ?_
        refine lv_ior hx hb dX7_found_30 ?_
        refine lv_istore_n (lv' := [(1, .int (y ||| nI 0)), (2, .int (nI i)), (0, .ref (al (10, 0, 0)))]) hx hb dX7_found_31 rfl hl (by decide) rfl (fun ls hl => ?_)
        refine lv_iinc (v := nI (i + 1)) (lv' := [(2, .int (nI (i + 1))), (1, .int (y ||| nI 0)), (0, .ref (al (10, 0, 0)))]) hx hb dX7_found_32 hl (k := 1) rfl (nI_1 _) (by decide) rfl (fun ls hl => ?_)
        refine lv_goto (tgt := 4) hx hb dX7_found_35 (by decide) ?_
        exact ih4 (by omega) (y ||| nI 0) _ _ _ (by rw [hy, nI_0, or_0]; exact fBs_n (P := (fun f => decide (red fr 16 (nI 1 <<< (nI f &&& 31)) = 0))) (decide_eq_false c_4)) hH hS (lv_sub hl [0, 1, 2] rfl)
      · skip
        refine lv_iconst (v := nI 1) hx hb dX7_found_23 (by decide +kernel) ?_
        refine lv_iload_n hx hb dX7_found_24 rfl (lv_at hl 0 rfl) ?_
        refine lv_ishl hx hb dX7_found_25 ?_
        refine lv_goto (tgt := 30) hx hb dX7_found_26 (by decide) ?_
        refine lv_ior hx hb dX7_found_30 ?_
        refine lv_istore_n (lv' := [(1, .int (y ||| (nI 1 <<< (nI i &&& 31)))), (2, .int (nI i)), (0, .ref (al (10, 0, 0)))]) hx hb dX7_found_31 rfl hl (by decide) rfl (fun ls hl => ?_)
        refine lv_iinc (v := nI (i + 1)) (lv' := [(2, .int (nI (i + 1))), (1, .int (y ||| (nI 1 <<< (nI i &&& 31)))), (0, .ref (al (10, 0, 0)))]) hx hb dX7_found_32 hl (k := 1) rfl (nI_1 _) (by decide) rfl (fun ls hl => ?_)
        refine lv_goto (tgt := 4) hx hb dX7_found_35 (by decide) ?_
        exact ih4 (by omega) (y ||| (nI 1 <<< (nI i &&& 31))) _ _ _ (by rw [hy]; exact fBs_p (P := (fun f => decide (red fr 16 (nI 1 <<< (nI f &&& 31)) = 0))) (decide_eq_true c_4)) hH hS (lv_sub hl [0, 1, 2] rfl)
  exact lp4 0 (Nat.zero_le _) (nI 0) _ _ _ rfl hH hS (lv_sub hl [0, 1, 2] rfl)
