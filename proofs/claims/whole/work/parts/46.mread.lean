theorem tg_eq {nf np na nw : Nat} {sg : Nat → Nat → Nat → Int32} {rc : Nat → Bool} {b : Nat} {xs y : Int32} (hI : INV nf np na nw sg rc) : red (mrw (kc sg rc xs b) (sets sg) na) 16 y = 0 ↔ red (shF xs (fun p => KFs sg rc na p b) np) 16 y = 0 := by
  have h1 := (mrw_ok (c := kc sg rc xs b) (S := sets sg) na (fun a ha _ => sml_16 hI a ha)).2 y
  have h2 := (sh_ok (xs := xs) (D := fun p => stdb sg rc p b) (S := sets sg) (n := na) (fun _ a ha _ => sml_16 hI a ha) np).2 y
  refine h1.trans (Iff.trans ?_ h2.symm)
  have e : ∀ a, a < na → kc sg rc xs b a = anyB (fun p => bt xs p && stdb sg rc p b a) np := by
    intro a ha
    obtain ⟨q, hq, e⟩ := (hI.2.2.2.2.1 a ha).1
    have h6 : np ≤ 6 := hI.2.1
    have s : ∀ p, p < np → (bt xs p && stdb sg rc p b a) = (decide (q = p) && (bt xs p && (!rc a && cov (sg 9 a 0) b))) := by
      intro p hp
      unfold stdb
      rw [e, show decide (nI q = nI p) = decide (q = p) from decide_eq_decide.mpr (nI_eq (by omega) (by omega))]
      cases bt xs p <;> cases rc a <;> cases decide (q = p) <;> cases cov (sg 9 a 0) b <;> rfl
    rw [anyB_cong s]
    unfold kc
    rw [e, wb_nI (by omega)]
    cases hz : (!rc a && bt xs q) && cov (sg 9 a 0) b with
    | true =>
      refine (anyB_t (i := q) ?_ np hq).symm
      rw [decide_eq_true rfl]
      revert hz
      cases bt xs q <;> cases rc a <;> cases cov (sg 9 a 0) b <;> simp
    | false =>
      cases hy : anyB (fun p => decide (q = p) && (bt xs p && (!rc a && cov (sg 9 a 0) b))) np with
      | false => rfl
      | true =>
        obtain ⟨p, hp, h⟩ := (anyB_iff np).mp hy
        rw [Bool.and_eq_true, decide_eq_true_iff] at h
        obtain ⟨rfl, h⟩ := h
        revert hz h
        cases bt xs q <;> cases rc a <;> cases cov (sg 9 a 0) b <;> simp
  constructor
  · exact sp_mono na y (fun a ha hc => by rw [← e a ha]; exact hc)
  · exact sp_mono na y (fun a ha hc => by rw [e a ha]; exact hc)
set_option maxHeartbeats 4000000 in
set_option maxRecDepth 100000 in
theorem m_rightTo (l : Launch) {E : xE} {base : Nat} {al : Tg → Nat} {w : Tg → Option va_E} {th : Int32} {nf np na nw : Nat} {sg : Nat → Nat → Nat → Int32} {rc : Nat → Bool} {fr : Nat → Int32} (hMM : MMf E al w th nf np na nw sg rc fr) (hI : INV nf np na nw sg rc) {x z : Int32} : xMet l yX7_rightTo cX7_rightTo 3 (some (.int)) ({ frames := 2, cells := 0, slots := 0, locals := 45 } : Room) E base [.ref (al (10, 0, 0)), .int x, .int z] (fun H => xH E base al w H) (fun r H => (∃ v9, r = some (.int v9)) ∧ ((¬ (inR x np ∧ inR z nf) ∧ PM E base al w (nI 1) nf np na nw sg rc H) ∨ (∃ p f, p < np ∧ f < nf ∧ x = nI p ∧ z = nI f ∧ r = some (.int (rIn (sg 4 p f) (sg 5 p f) (sg 6 p f) (nI nw))) ∧ PM E base al w (nI 0) nf np na nw sg rc H))) := by
  refine xMet.of (by decide +kernel) "DataroomModel" rfl (Nat.le_of_ble_eq_true rfl) ?_
  intro p9 e9 s m9 below meth c9 ls C hin hP hS hl
  have hx := C.hx
  have hb := C.hb
  have hH := hP
  have hl : lv_has ls 3 [(0, .ref (al (10, 0, 0))), (1, .int x), (2, .int z)] := hl
  obtain ⟨post, hpost⟩ : ∃ zz9 : Option Value → Heap → Prop, zz9 = (fun r H => (∃ v9, r = some (.int v9)) ∧ ((¬ (inR x np ∧ inR z nf) ∧ PM E base al w (nI 1) nf np na nw sg rc H) ∨ (∃ p f, p < np ∧ f < nf ∧ x = nI p ∧ z = nI f ∧ r = some (.int (rIn (sg 4 p f) (sg 5 p f) (sg 6 p f) (nI nw))) ∧ PM E base al w (nI 0) nf np na nw sg rc H))) := ⟨_, rfl⟩
  rw [← hpost]
  generalize hQ : (MQ below (xQ base post) ([.ref (al (10, 0, 0)), .int x, .int z] : List Value).toArray s 0 0 (xA base)) = Q
  have hMM0 := hMM
  obtain ⟨hM, mm3, mm4, mm6, mm7, mm8, mm9, mm11, mm12, mm13, mm14, mm15, mm16, mm17, mm18⟩ := hMM
  have hI0 := hI
  obtain ⟨v16, v6, v150, vnow, vA, vS, vP, vK, vR⟩ := hI
  refine lv_aload_n hx hb dX7_rightTo_0 rfl (lv_at hl 0 rfl) ?_
  refine lv_aload_n hx hb dX7_rightTo_1 rfl (lv_at hl 0 rfl) ?_
  refine lv_iload_n hx hb dX7_rightTo_2 rfl (lv_at hl 1 rfl) ?_
  refine x_callV C hH hS (ci := 8) (t := (10, 0, 0)) hM rfl rfl (m_isParty l (E := E) (base := base) hMM0 (x := x)) hH kX7_isParty qw_792 (ws_p (List.mem_of_getElem? (i := 22) rfl) rfl) qw_790  rfl [.ref (al (10, 0, 0))] rfl hl.1 (Nat.le_of_ble_eq_true rfl) ⟨Nat.le_of_ble_eq_true rfl, Nat.le_of_ble_eq_true rfl⟩ dX7_rightTo_3 ⟨Nat.le_of_ble_eq_true rfl, Nat.le_of_ble_eq_true rfl⟩ (fun r_2 H locs hp_1 hS => ?_)
  obtain ⟨rfl, hH⟩ := hp_1
  refine lv_if_eq (tgt := 21) hx hb dX7_rightTo_6 (by decide) (fun c_3 => ?_) (fun c_3 => ?_)
  · skip
    replace c_3 := ob_0.mp c_3
    refine lv_iconst (v := nI 1) hx hb dX7_rightTo_21 (by decide +kernel) ?_
    refine x_callV C hH hS (ci := 8) (t := (10, 0, 0)) hM rfl rfl (m_goes l (E := E) (base := base) hMM0 (k := 1) (by omega)) hH kX7_goesWell qw_768 (ws_p (List.mem_of_getElem? (i := 19) rfl) rfl) qw_766  rfl [] rfl hl.1 (Nat.le_of_ble_eq_true rfl) ⟨Nat.le_of_ble_eq_true rfl, Nat.le_of_ble_eq_true rfl⟩ dX7_rightTo_22 ⟨Nat.le_of_ble_eq_true rfl, Nat.le_of_ble_eq_true rfl⟩ (fun r_5 H locs hp_4 hS => ?_)
    obtain ⟨rfl, hH⟩ := hp_4
    have hMM1 := hMM0.goes (nI 1)
    have hMMx := hMM1
    obtain ⟨hM, mm3, mm4, mm6, mm7, mm8, mm9, mm11, mm12, mm13, mm14, mm15, mm16, mm17, mm18⟩ := hMMx
    refine lv_re (y := nI 0) rfl ?_
    refine lv_if_eq (tgt := 37) hx hb dX7_rightTo_25 (by decide) (fun c_6 => ?_) (fun c_6 => absurd (by decide +kernel) c_6)
    clear c_6
    refine lv_iconst (v := nI 0) hx hb dX7_rightTo_37 (by decide +kernel) ?_
    rw [← hQ]
    refine x_reti C rfl hS (Nat.le_of_ble_eq_true rfl) (Nat.le_of_ble_eq_true rfl) dX7_rightTo_38 ?_
    rw [hpost]
    exact ⟨⟨_, rfl⟩, Or.inl ⟨(fun q => by rw [(inRb_iff (by omega)).mpr q.1] at c_3; cases c_3), PM_th hH hMM0⟩⟩
  · skip
    replace c_3 := ob_n.mp c_3
    refine lv_aload_n hx hb dX7_rightTo_9 rfl (lv_at hl 0 rfl) ?_
    refine lv_iload_n hx hb dX7_rightTo_10 rfl (lv_at hl 2 rfl) ?_
    refine x_callV C hH hS (ci := 8) (t := (10, 0, 0)) hM rfl rfl (m_isFile l (E := E) (base := base) hMM0 (x := z)) hH kX7_isFile qw_776 (ws_p (List.mem_of_getElem? (i := 20) rfl) rfl) qw_774  rfl [.ref (al (10, 0, 0))] rfl hl.1 (Nat.le_of_ble_eq_true rfl) ⟨Nat.le_of_ble_eq_true rfl, Nat.le_of_ble_eq_true rfl⟩ dX7_rightTo_11 ⟨Nat.le_of_ble_eq_true rfl, Nat.le_of_ble_eq_true rfl⟩ (fun r_8 H locs hp_7 hS => ?_)
    obtain ⟨rfl, hH⟩ := hp_7
    refine lv_if_eq (tgt := 21) hx hb dX7_rightTo_14 (by decide) (fun c_9 => ?_) (fun c_9 => ?_)
    · skip
      replace c_9 := ob_0.mp c_9
      refine lv_iconst (v := nI 1) hx hb dX7_rightTo_21 (by decide +kernel) ?_
      refine x_callV C hH hS (ci := 8) (t := (10, 0, 0)) hM rfl rfl (m_goes l (E := E) (base := base) hMM0 (k := 1) (by omega)) hH kX7_goesWell qw_768 (ws_p (List.mem_of_getElem? (i := 19) rfl) rfl) qw_766  rfl [] rfl hl.1 (Nat.le_of_ble_eq_true rfl) ⟨Nat.le_of_ble_eq_true rfl, Nat.le_of_ble_eq_true rfl⟩ dX7_rightTo_22 ⟨Nat.le_of_ble_eq_true rfl, Nat.le_of_ble_eq_true rfl⟩ (fun r_11 H locs hp_10 hS => ?_)
      obtain ⟨rfl, hH⟩ := hp_10
      have hMM1 := hMM0.goes (nI 1)
      have hMMx := hMM1
      obtain ⟨hM, mm3, mm4, mm6, mm7, mm8, mm9, mm11, mm12, mm13, mm14, mm15, mm16, mm17, mm18⟩ := hMMx
      refine lv_re (y := nI 0) rfl ?_
      refine lv_if_eq (tgt := 37) hx hb dX7_rightTo_25 (by decide) (fun c_12 => ?_) (fun c_12 => absurd (by decide +kernel) c_12)
      clear c_12
      refine lv_iconst (v := nI 0) hx hb dX7_rightTo_37 (by decide +kernel) ?_
      rw [← hQ]
      refine x_reti C rfl hS (Nat.le_of_ble_eq_true rfl) (Nat.le_of_ble_eq_true rfl) dX7_rightTo_38 ?_
      rw [hpost]
      exact ⟨⟨_, rfl⟩, Or.inl ⟨(fun q => by rw [(inRb_iff (by omega)).mpr q.2] at c_9; cases c_9), PM_th hH hMM0⟩⟩
    · skip
      replace c_9 := ob_n.mp c_9
      refine lv_iconst (v := nI 0) hx hb dX7_rightTo_17 (by decide +kernel) ?_
      refine lv_goto (tgt := 22) hx hb dX7_rightTo_18 (by decide) ?_
      refine x_callV C hH hS (ci := 8) (t := (10, 0, 0)) hM rfl rfl (m_goes l (E := E) (base := base) hMM0 (k := 0) (by omega)) hH kX7_goesWell qw_768 (ws_p (List.mem_of_getElem? (i := 19) rfl) rfl) qw_766  rfl [] rfl hl.1 (Nat.le_of_ble_eq_true rfl) ⟨Nat.le_of_ble_eq_true rfl, Nat.le_of_ble_eq_true rfl⟩ dX7_rightTo_22 ⟨Nat.le_of_ble_eq_true rfl, Nat.le_of_ble_eq_true rfl⟩ (fun r_14 H locs hp_13 hS => ?_)
      obtain ⟨rfl, hH⟩ := hp_13
      have hMM1 := hMM0.goes (nI 0)
      have hMMx := hMM1
      obtain ⟨hM, mm3, mm4, mm6, mm7, mm8, mm9, mm11, mm12, mm13, mm14, mm15, mm16, mm17, mm18⟩ := hMMx
      refine lv_re (y := nI 1) rfl ?_
      obtain ⟨p, hp9, rfl⟩ := (inRb_iff (by omega)).mp c_3
      obtain ⟨f, hf9, rfl⟩ := (inRb_iff (by omega)).mp c_9
      refine lv_if_eq (tgt := 37) hx hb dX7_rightTo_25 (by decide) (fun c_15 => absurd c_15 (by decide +kernel)) (fun c_15 => ?_)
      clear c_15
      refine lv_aload_n hx hb dX7_rightTo_28 rfl (lv_at hl 0 rfl) ?_
      refine lv_iload_n hx hb dX7_rightTo_29 rfl (lv_at hl 1 rfl) ?_
      refine lv_iload_n hx hb dX7_rightTo_30 rfl (lv_at hl 2 rfl) ?_
      refine x_callV C hH hS (ci := 8) (t := (10, 0, 0)) hM rfl rfl (m_rightOf l (E := E) (base := base) hMM1 (p := p) (f := f) (by omega) (by omega)) hH kX7_rightOf qw_824 (ws_p (List.mem_of_getElem? (i := 25) rfl) rfl) qw_822  rfl [] rfl hl.1 (Nat.le_of_ble_eq_true rfl) ⟨Nat.le_of_ble_eq_true rfl, Nat.le_of_ble_eq_true rfl⟩ dX7_rightTo_31 ⟨Nat.le_of_ble_eq_true rfl, Nat.le_of_ble_eq_true rfl⟩ (fun r_17 H locs hp_16 hS => ?_)
      obtain ⟨rfl, hH⟩ := hp_16
      refine lv_goto (tgt := 38) hx hb dX7_rightTo_34 (by decide) ?_
      rw [← hQ]
      refine x_reti C rfl hS (Nat.le_of_ble_eq_true rfl) (Nat.le_of_ble_eq_true rfl) dX7_rightTo_38 ?_
      rw [hpost]
      exact ⟨⟨_, rfl⟩, Or.inr ⟨p, f, hp9, hf9, rfl, rfl, rfl, PM_of hH hMM1 (fun t ht => by rw [xu_ne (fun e => ht (by rw [e]))])⟩⟩

set_option maxHeartbeats 4000000 in
set_option maxRecDepth 100000 in
theorem m_finds (l : Launch) {E : xE} {base : Nat} {al : Tg → Nat} {w : Tg → Option va_E} {th : Int32} {nf np na nw : Nat} {sg : Nat → Nat → Nat → Int32} {rc : Nat → Bool} {fr : Nat → Int32} (hMM : MMf E al w th nf np na nw sg rc fr) (hI : INV nf np na nw sg rc) {x z : Int32} : xMet l yX7_finds cX7_finds 3 (some (.int)) ({ frames := 4, cells := 0, slots := 0, locals := 94 } : Room) E base [.ref (al (10, 0, 0)), .int x, .int z] (fun H => xH E base al w H) (fun r H => (∃ v9, r = some (.int v9)) ∧ ((¬ (inR x np ∧ inR z nf) ∧ PM E base al w (nI 1) nf np na nw sg rc H) ∨ (∃ p f, p < np ∧ f < nf ∧ x = nI p ∧ z = nI f ∧ r = some (.int (fBs (fun b => decide (red (KFs sg rc na p b) 16 (nI 1 <<< (nI f &&& 31)) = 0)) 8)) ∧ PM E base al w (nI 0) nf np na nw sg rc H))) := by
  refine xMet.of (by decide +kernel) "DataroomModel" rfl (Nat.le_of_ble_eq_true rfl) ?_
  intro p9 e9 s m9 below meth c9 ls C hin hP hS hl
  have hx := C.hx
  have hb := C.hb
  have hH := hP
  have hl : lv_has ls 3 [(0, .ref (al (10, 0, 0))), (1, .int x), (2, .int z)] := hl
  obtain ⟨post, hpost⟩ : ∃ zz9 : Option Value → Heap → Prop, zz9 = (fun r H => (∃ v9, r = some (.int v9)) ∧ ((¬ (inR x np ∧ inR z nf) ∧ PM E base al w (nI 1) nf np na nw sg rc H) ∨ (∃ p f, p < np ∧ f < nf ∧ x = nI p ∧ z = nI f ∧ r = some (.int (fBs (fun b => decide (red (KFs sg rc na p b) 16 (nI 1 <<< (nI f &&& 31)) = 0)) 8)) ∧ PM E base al w (nI 0) nf np na nw sg rc H))) := ⟨_, rfl⟩
  rw [← hpost]
  generalize hQ : (MQ below (xQ base post) ([.ref (al (10, 0, 0)), .int x, .int z] : List Value).toArray s 0 0 (xA base)) = Q
  have hMM0 := hMM
  obtain ⟨hM, mm3, mm4, mm6, mm7, mm8, mm9, mm11, mm12, mm13, mm14, mm15, mm16, mm17, mm18⟩ := hMM
  have hI0 := hI
  obtain ⟨v16, v6, v150, vnow, vA, vS, vP, vK, vR⟩ := hI
  refine lv_aload_n hx hb dX7_finds_0 rfl (lv_at hl 0 rfl) ?_
  refine lv_aload_n hx hb dX7_finds_1 rfl (lv_at hl 0 rfl) ?_
  refine lv_iload_n hx hb dX7_finds_2 rfl (lv_at hl 1 rfl) ?_
  refine x_callV C hH hS (ci := 8) (t := (10, 0, 0)) hM rfl rfl (m_isParty l (E := E) (base := base) hMM0 (x := x)) hH kX7_isParty qw_792 (ws_p (List.mem_of_getElem? (i := 22) rfl) rfl) qw_790  rfl [.ref (al (10, 0, 0))] rfl hl.1 (Nat.le_of_ble_eq_true rfl) ⟨Nat.le_of_ble_eq_true rfl, Nat.le_of_ble_eq_true rfl⟩ dX7_finds_3 ⟨Nat.le_of_ble_eq_true rfl, Nat.le_of_ble_eq_true rfl⟩ (fun r_2 H locs hp_1 hS => ?_)
  obtain ⟨rfl, hH⟩ := hp_1
  refine lv_if_eq (tgt := 21) hx hb dX7_finds_6 (by decide) (fun c_3 => ?_) (fun c_3 => ?_)
  · skip
    replace c_3 := ob_0.mp c_3
    refine lv_iconst (v := nI 1) hx hb dX7_finds_21 (by decide +kernel) ?_
    refine x_callV C hH hS (ci := 8) (t := (10, 0, 0)) hM rfl rfl (m_goes l (E := E) (base := base) hMM0 (k := 1) (by omega)) hH kX7_goesWell qw_768 (ws_p (List.mem_of_getElem? (i := 19) rfl) rfl) qw_766  rfl [] rfl hl.1 (Nat.le_of_ble_eq_true rfl) ⟨Nat.le_of_ble_eq_true rfl, Nat.le_of_ble_eq_true rfl⟩ dX7_finds_22 ⟨Nat.le_of_ble_eq_true rfl, Nat.le_of_ble_eq_true rfl⟩ (fun r_5 H locs hp_4 hS => ?_)
    obtain ⟨rfl, hH⟩ := hp_4
    have hMM1 := hMM0.goes (nI 1)
    have hMMx := hMM1
    obtain ⟨hM, mm3, mm4, mm6, mm7, mm8, mm9, mm11, mm12, mm13, mm14, mm15, mm16, mm17, mm18⟩ := hMMx
    refine lv_re (y := nI 0) rfl ?_
    refine lv_if_eq (tgt := 39) hx hb dX7_finds_25 (by decide) (fun c_6 => ?_) (fun c_6 => absurd (by decide +kernel) c_6)
    clear c_6
    refine lv_iconst (v := nI 0) hx hb dX7_finds_39 (by decide +kernel) ?_
    rw [← hQ]
    refine x_reti C rfl hS (Nat.le_of_ble_eq_true rfl) (Nat.le_of_ble_eq_true rfl) dX7_finds_40 ?_
    rw [hpost]
    exact ⟨⟨_, rfl⟩, Or.inl ⟨(fun q => by rw [(inRb_iff (by omega)).mpr q.1] at c_3; cases c_3), PM_th hH hMM0⟩⟩
  · skip
    replace c_3 := ob_n.mp c_3
    refine lv_aload_n hx hb dX7_finds_9 rfl (lv_at hl 0 rfl) ?_
    refine lv_iload_n hx hb dX7_finds_10 rfl (lv_at hl 2 rfl) ?_
    refine x_callV C hH hS (ci := 8) (t := (10, 0, 0)) hM rfl rfl (m_isFile l (E := E) (base := base) hMM0 (x := z)) hH kX7_isFile qw_776 (ws_p (List.mem_of_getElem? (i := 20) rfl) rfl) qw_774  rfl [.ref (al (10, 0, 0))] rfl hl.1 (Nat.le_of_ble_eq_true rfl) ⟨Nat.le_of_ble_eq_true rfl, Nat.le_of_ble_eq_true rfl⟩ dX7_finds_11 ⟨Nat.le_of_ble_eq_true rfl, Nat.le_of_ble_eq_true rfl⟩ (fun r_8 H locs hp_7 hS => ?_)
    obtain ⟨rfl, hH⟩ := hp_7
    refine lv_if_eq (tgt := 21) hx hb dX7_finds_14 (by decide) (fun c_9 => ?_) (fun c_9 => ?_)
    · skip
      replace c_9 := ob_0.mp c_9
      refine lv_iconst (v := nI 1) hx hb dX7_finds_21 (by decide +kernel) ?_
      refine x_callV C hH hS (ci := 8) (t := (10, 0, 0)) hM rfl rfl (m_goes l (E := E) (base := base) hMM0 (k := 1) (by omega)) hH kX7_goesWell qw_768 (ws_p (List.mem_of_getElem? (i := 19) rfl) rfl) qw_766  rfl [] rfl hl.1 (Nat.le_of_ble_eq_true rfl) ⟨Nat.le_of_ble_eq_true rfl, Nat.le_of_ble_eq_true rfl⟩ dX7_finds_22 ⟨Nat.le_of_ble_eq_true rfl, Nat.le_of_ble_eq_true rfl⟩ (fun r_11 H locs hp_10 hS => ?_)
      obtain ⟨rfl, hH⟩ := hp_10
      have hMM1 := hMM0.goes (nI 1)
      have hMMx := hMM1
      obtain ⟨hM, mm3, mm4, mm6, mm7, mm8, mm9, mm11, mm12, mm13, mm14, mm15, mm16, mm17, mm18⟩ := hMMx
      refine lv_re (y := nI 0) rfl ?_
      refine lv_if_eq (tgt := 39) hx hb dX7_finds_25 (by decide) (fun c_12 => ?_) (fun c_12 => absurd (by decide +kernel) c_12)
      clear c_12
      refine lv_iconst (v := nI 0) hx hb dX7_finds_39 (by decide +kernel) ?_
      rw [← hQ]
      refine x_reti C rfl hS (Nat.le_of_ble_eq_true rfl) (Nat.le_of_ble_eq_true rfl) dX7_finds_40 ?_
      rw [hpost]
      exact ⟨⟨_, rfl⟩, Or.inl ⟨(fun q => by rw [(inRb_iff (by omega)).mpr q.2] at c_9; cases c_9), PM_th hH hMM0⟩⟩
    · skip
      replace c_9 := ob_n.mp c_9
      refine lv_iconst (v := nI 0) hx hb dX7_finds_17 (by decide +kernel) ?_
      refine lv_goto (tgt := 22) hx hb dX7_finds_18 (by decide) ?_
      refine x_callV C hH hS (ci := 8) (t := (10, 0, 0)) hM rfl rfl (m_goes l (E := E) (base := base) hMM0 (k := 0) (by omega)) hH kX7_goesWell qw_768 (ws_p (List.mem_of_getElem? (i := 19) rfl) rfl) qw_766  rfl [] rfl hl.1 (Nat.le_of_ble_eq_true rfl) ⟨Nat.le_of_ble_eq_true rfl, Nat.le_of_ble_eq_true rfl⟩ dX7_finds_22 ⟨Nat.le_of_ble_eq_true rfl, Nat.le_of_ble_eq_true rfl⟩ (fun r_14 H locs hp_13 hS => ?_)
      obtain ⟨rfl, hH⟩ := hp_13
      have hMM1 := hMM0.goes (nI 0)
      have hMMx := hMM1
      obtain ⟨hM, mm3, mm4, mm6, mm7, mm8, mm9, mm11, mm12, mm13, mm14, mm15, mm16, mm17, mm18⟩ := hMMx
      refine lv_re (y := nI 1) rfl ?_
      obtain ⟨p, hp9, rfl⟩ := (inRb_iff (by omega)).mp c_3
      obtain ⟨f, hf9, rfl⟩ := (inRb_iff (by omega)).mp c_9
      refine lv_if_eq (tgt := 39) hx hb dX7_finds_25 (by decide) (fun c_15 => absurd c_15 (by decide +kernel)) (fun c_15 => ?_)
      clear c_15
      refine lv_aload_n hx hb dX7_finds_28 rfl (lv_at hl 0 rfl) ?_
      refine lv_iconst (v := nI 1) hx hb dX7_finds_29 (by decide +kernel) ?_
      refine lv_iload_n hx hb dX7_finds_30 rfl (lv_at hl 1 rfl) ?_
      refine lv_ishl hx hb dX7_finds_31 ?_
      refine lv_iload_n hx hb dX7_finds_32 rfl (lv_at hl 2 rfl) ?_
      refine x_callV C hH hS (ci := 8) (t := (10, 0, 0)) hM rfl rfl (m_findsBy l (E := E) (base := base) hMM1 hI0 (x := (nI 1 <<< (nI p &&& 31))) (f := f) (by omega)) hH kX7_findsBy qw_882 (ws_p (List.mem_of_getElem? (i := 33) rfl) rfl) qw_880  rfl [] rfl hl.1 (Nat.le_of_ble_eq_true rfl) ⟨Nat.le_of_ble_eq_true rfl, Nat.le_of_ble_eq_true rfl⟩ dX7_finds_33 ⟨Nat.le_of_ble_eq_true rfl, Nat.le_of_ble_eq_true rfl⟩ (fun r_17 H locs hp_16 hS => ?_)
      obtain ⟨rfl, fr9, hH⟩ := hp_16
      refine lv_re (y := (fBs (fun b => decide (red (KFs sg rc na p b) 16 (nI 1 <<< (nI f &&& 31)) = 0)) 8)) (fBs_cong (fun b _ => decide_eq_decide.mpr (red_kc hI0 hp9))) ?_
      refine lv_goto (tgt := 40) hx hb dX7_finds_36 (by decide) ?_
      rw [← hQ]
      refine x_reti C rfl hS (Nat.le_of_ble_eq_true rfl) (Nat.le_of_ble_eq_true rfl) dX7_finds_40 ?_
      rw [hpost]
      exact ⟨⟨_, rfl⟩, Or.inr ⟨p, f, hp9, hf9, rfl, rfl, rfl, PM_of hH (hMM1.fr _) (fun t ht => by rw [xu_ne (fun e => ht (by rw [e])), xu_ne (fun e => ht (by rw [e]))])⟩⟩

set_option maxHeartbeats 4000000 in
set_option maxRecDepth 100000 in
theorem m_together (l : Launch) {E : xE} {base : Nat} {al : Tg → Nat} {w : Tg → Option va_E} {th : Int32} {nf np na nw : Nat} {sg : Nat → Nat → Nat → Int32} {rc : Nat → Bool} {fr : Nat → Int32} (hMM : MMf E al w th nf np na nw sg rc fr) (hI : INV nf np na nw sg rc) {xs z : Int32} : xMet l yX7_together cX7_together 4 (some (.int)) ({ frames := 4, cells := 0, slots := 0, locals := 94 } : Room) E base [.ref (al (10, 0, 0)), .int xs, .int z] (fun H => xH E base al w H) (fun r H => (∃ v9, r = some (.int v9)) ∧ ((¬ inR z nf ∧ PM E base al w (nI 1) nf np na nw sg rc H) ∨ (inR z nf ∧ ¬ (nI 0 ≤ xs ∧ xs ≤ (nI 1 <<< (nI np &&& 31)) - nI 1) ∧ PM E base al w (nI 2) nf np na nw sg rc H) ∨ (∃ f, f < nf ∧ z = nI f ∧ (nI 0 ≤ xs ∧ xs ≤ (nI 1 <<< (nI np &&& 31)) - nI 1) ∧ r = some (.int (fBs (fun b => decide (red (shF xs (fun p => KFs sg rc na p b) np) 16 (nI 1 <<< (nI f &&& 31)) = 0)) 8)) ∧ PM E base al w (nI 0) nf np na nw sg rc H))) := by
  refine xMet.of (by decide +kernel) "DataroomModel" rfl (Nat.le_of_ble_eq_true rfl) ?_
  intro p9 e9 s m9 below meth c9 ls C hin hP hS hl
  have hx := C.hx
  have hb := C.hb
  have hH := hP
  have hl : lv_has ls 4 [(0, .ref (al (10, 0, 0))), (1, .int xs), (2, .int z)] := hl
  obtain ⟨post, hpost⟩ : ∃ zz9 : Option Value → Heap → Prop, zz9 = (fun r H => (∃ v9, r = some (.int v9)) ∧ ((¬ inR z nf ∧ PM E base al w (nI 1) nf np na nw sg rc H) ∨ (inR z nf ∧ ¬ (nI 0 ≤ xs ∧ xs ≤ (nI 1 <<< (nI np &&& 31)) - nI 1) ∧ PM E base al w (nI 2) nf np na nw sg rc H) ∨ (∃ f, f < nf ∧ z = nI f ∧ (nI 0 ≤ xs ∧ xs ≤ (nI 1 <<< (nI np &&& 31)) - nI 1) ∧ r = some (.int (fBs (fun b => decide (red (shF xs (fun p => KFs sg rc na p b) np) 16 (nI 1 <<< (nI f &&& 31)) = 0)) 8)) ∧ PM E base al w (nI 0) nf np na nw sg rc H))) := ⟨_, rfl⟩
  rw [← hpost]
  generalize hQ : (MQ below (xQ base post) ([.ref (al (10, 0, 0)), .int xs, .int z] : List Value).toArray s 0 0 (xA base)) = Q
  have hMM0 := hMM
  obtain ⟨hM, mm3, mm4, mm6, mm7, mm8, mm9, mm11, mm12, mm13, mm14, mm15, mm16, mm17, mm18⟩ := hMM
  have hI0 := hI
  obtain ⟨v16, v6, v150, vnow, vA, vS, vP, vK, vR⟩ := hI
  refine lv_aload_n hx hb dX7_together_0 rfl (lv_at hl 0 rfl) ?_
  refine lv_iload_n hx hb dX7_together_1 rfl (lv_at hl 2 rfl) ?_
  refine x_callV C hH hS (ci := 8) (t := (10, 0, 0)) hM rfl rfl (m_isFile l (E := E) (base := base) hMM0 (x := z)) hH kX7_isFile qw_776 (ws_p (List.mem_of_getElem? (i := 20) rfl) rfl) qw_774  rfl [] rfl hl.1 (Nat.le_of_ble_eq_true rfl) ⟨Nat.le_of_ble_eq_true rfl, Nat.le_of_ble_eq_true rfl⟩ dX7_together_2 ⟨Nat.le_of_ble_eq_true rfl, Nat.le_of_ble_eq_true rfl⟩ (fun r_2 H locs hp_1 hS => ?_)
  obtain ⟨rfl, hH⟩ := hp_1
  refine lv_istore_n (lv' := [(3, .int (ob (inRb z nf))), (0, .ref (al (10, 0, 0))), (1, .int xs), (2, .int z)]) hx hb dX7_together_5 rfl hl (by decide) rfl (fun ls hl => ?_)
  refine lv_aload_n hx hb dX7_together_6 rfl (lv_at hl 1 rfl) ?_
  refine lv_iload_n hx hb dX7_together_7 rfl (lv_at hl 0 rfl) ?_
  refine lv_if_ne (tgt := 15) hx hb dX7_together_8 (by decide) (fun c_3 => ?_) (fun c_3 => ?_)
  · skip
    replace c_3 := ob_n.mp c_3
    refine lv_iload_n hx hb dX7_together_15 rfl (lv_at hl 2 rfl) ?_
    refine lv_iconst (v := nI 0) hx hb dX7_together_16 (by decide +kernel) ?_
    refine lv_iconst (v := nI 1) hx hb dX7_together_17 (by decide +kernel) ?_
    refine lv_aload_n hx hb dX7_together_18 rfl (lv_at hl 1 rfl) ?_
    refine x_get C hH (ci := 8) (T := TX7) (N := 19) hM rfl iWX7 5 (by decide) qw_701 rfl rfl dX7_together_19 ?_
    refine lv_ishl hx hb dX7_together_22 ?_
    refine lv_iconst (v := nI 1) hx hb dX7_together_23 (by decide +kernel) ?_
    refine lv_isub hx hb dX7_together_24 ?_
    refine x_callS C hS (m_in l (E := E) (base := base) (al := al) (w := w) (v := xs) (a := nI 0) (b := ((nI 1 <<< (nI np &&& 31)) - nI 1))) hH kX7_in qw_764 qw_763  rfl [.ref (al (10, 0, 0))] rfl hl.1 (Nat.le_of_ble_eq_true rfl) ⟨Nat.le_of_ble_eq_true rfl, Nat.le_of_ble_eq_true rfl⟩ dX7_together_25 ⟨Nat.le_of_ble_eq_true rfl, Nat.le_of_ble_eq_true rfl⟩ (fun r_5 H locs hp_4 hS => ?_)
    obtain ⟨rfl, hH⟩ := hp_4
    refine lv_if_eq (tgt := 35) hx hb dX7_together_28 (by decide) (fun c_6 => ?_) (fun c_6 => ?_)
    · skip
      replace c_6 := ob_0.mp c_6
      refine lv_iconst (v := nI 2) hx hb dX7_together_35 (by decide +kernel) ?_
      refine x_callV C hH hS (ci := 8) (t := (10, 0, 0)) hM rfl rfl (m_goes l (E := E) (base := base) hMM0 (k := 2) (by omega)) hH kX7_goesWell qw_768 (ws_p (List.mem_of_getElem? (i := 19) rfl) rfl) qw_766  rfl [] rfl hl.1 (Nat.le_of_ble_eq_true rfl) ⟨Nat.le_of_ble_eq_true rfl, Nat.le_of_ble_eq_true rfl⟩ dX7_together_36 ⟨Nat.le_of_ble_eq_true rfl, Nat.le_of_ble_eq_true rfl⟩ (fun r_8 H locs hp_7 hS => ?_)
      obtain ⟨rfl, hH⟩ := hp_7
      have hMM1 := hMM0.goes (nI 2)
      have hMMx := hMM1
      obtain ⟨hM, mm3, mm4, mm6, mm7, mm8, mm9, mm11, mm12, mm13, mm14, mm15, mm16, mm17, mm18⟩ := hMMx
      refine lv_re (y := nI 0) rfl ?_
      refine lv_if_eq (tgt := 51) hx hb dX7_together_39 (by decide) (fun c_9 => ?_) (fun c_9 => absurd (by decide +kernel) c_9)
      clear c_9
      refine lv_iconst (v := nI 0) hx hb dX7_together_51 (by decide +kernel) ?_
      rw [← hQ]
      refine x_reti C rfl hS (Nat.le_of_ble_eq_true rfl) (Nat.le_of_ble_eq_true rfl) dX7_together_52 ?_
      rw [hpost]
      exact ⟨⟨_, rfl⟩, Or.inr (Or.inl ⟨((inRb_iff (by omega)).mp c_3), inB_f c_6, PM_th hH hMM0⟩)⟩
    · skip
      replace c_6 := ob_n.mp c_6
      refine lv_iconst (v := nI 0) hx hb dX7_together_31 (by decide +kernel) ?_
      refine lv_goto (tgt := 36) hx hb dX7_together_32 (by decide) ?_
      refine x_callV C hH hS (ci := 8) (t := (10, 0, 0)) hM rfl rfl (m_goes l (E := E) (base := base) hMM0 (k := 0) (by omega)) hH kX7_goesWell qw_768 (ws_p (List.mem_of_getElem? (i := 19) rfl) rfl) qw_766  rfl [] rfl hl.1 (Nat.le_of_ble_eq_true rfl) ⟨Nat.le_of_ble_eq_true rfl, Nat.le_of_ble_eq_true rfl⟩ dX7_together_36 ⟨Nat.le_of_ble_eq_true rfl, Nat.le_of_ble_eq_true rfl⟩ (fun r_11 H locs hp_10 hS => ?_)
      obtain ⟨rfl, hH⟩ := hp_10
      have hMM1 := hMM0.goes (nI 0)
      have hMMx := hMM1
      obtain ⟨hM, mm3, mm4, mm6, mm7, mm8, mm9, mm11, mm12, mm13, mm14, mm15, mm16, mm17, mm18⟩ := hMMx
      refine lv_re (y := nI 1) rfl ?_
      obtain ⟨f, hf9, rfl⟩ := (inRb_iff (by omega)).mp c_3
      refine lv_if_eq (tgt := 51) hx hb dX7_together_39 (by decide) (fun c_12 => absurd c_12 (by decide +kernel)) (fun c_12 => ?_)
      clear c_12
      refine lv_aload_n hx hb dX7_together_42 rfl (lv_at hl 1 rfl) ?_
      refine lv_iload_n hx hb dX7_together_43 rfl (lv_at hl 2 rfl) ?_
      refine lv_iload_n hx hb dX7_together_44 rfl (lv_at hl 3 rfl) ?_
      refine x_callV C hH hS (ci := 8) (t := (10, 0, 0)) hM rfl rfl (m_findsBy l (E := E) (base := base) hMM1 hI0 (x := xs) (f := f) (by omega)) hH kX7_findsBy qw_882 (ws_p (List.mem_of_getElem? (i := 33) rfl) rfl) qw_880  rfl [] rfl hl.1 (Nat.le_of_ble_eq_true rfl) ⟨Nat.le_of_ble_eq_true rfl, Nat.le_of_ble_eq_true rfl⟩ dX7_together_45 ⟨Nat.le_of_ble_eq_true rfl, Nat.le_of_ble_eq_true rfl⟩ (fun r_14 H locs hp_13 hS => ?_)
      obtain ⟨rfl, fr9, hH⟩ := hp_13
      refine lv_re (y := (fBs (fun b => decide (red (shF xs (fun p => KFs sg rc na p b) np) 16 (nI 1 <<< (nI f &&& 31)) = 0)) 8)) (fBs_cong (fun b _ => decide_eq_decide.mpr (tg_eq hI0))) ?_
      refine lv_goto (tgt := 52) hx hb dX7_together_48 (by decide) ?_
      rw [← hQ]
      refine x_reti C rfl hS (Nat.le_of_ble_eq_true rfl) (Nat.le_of_ble_eq_true rfl) dX7_together_52 ?_
      rw [hpost]
      exact ⟨⟨_, rfl⟩, Or.inr (Or.inr ⟨f, hf9, rfl, inB_t c_6, rfl, PM_of hH (hMM1.fr _) (fun t ht => by rw [xu_ne (fun e => ht (by rw [e])), xu_ne (fun e => ht (by rw [e]))])⟩)⟩
  · skip
    replace c_3 := ob_0.mp c_3
    refine lv_iconst (v := nI 1) hx hb dX7_together_11 (by decide +kernel) ?_
    refine lv_goto (tgt := 36) hx hb dX7_together_12 (by decide) ?_
    refine x_callV C hH hS (ci := 8) (t := (10, 0, 0)) hM rfl rfl (m_goes l (E := E) (base := base) hMM0 (k := 1) (by omega)) hH kX7_goesWell qw_768 (ws_p (List.mem_of_getElem? (i := 19) rfl) rfl) qw_766  rfl [] rfl hl.1 (Nat.le_of_ble_eq_true rfl) ⟨Nat.le_of_ble_eq_true rfl, Nat.le_of_ble_eq_true rfl⟩ dX7_together_36 ⟨Nat.le_of_ble_eq_true rfl, Nat.le_of_ble_eq_true rfl⟩ (fun r_16 H locs hp_15 hS => ?_)
    obtain ⟨rfl, hH⟩ := hp_15
    have hMM1 := hMM0.goes (nI 1)
    have hMMx := hMM1
    obtain ⟨hM, mm3, mm4, mm6, mm7, mm8, mm9, mm11, mm12, mm13, mm14, mm15, mm16, mm17, mm18⟩ := hMMx
    refine lv_re (y := nI 0) rfl ?_
    refine lv_if_eq (tgt := 51) hx hb dX7_together_39 (by decide) (fun c_17 => ?_) (fun c_17 => absurd (by decide +kernel) c_17)
    clear c_17
    refine lv_iconst (v := nI 0) hx hb dX7_together_51 (by decide +kernel) ?_
    rw [← hQ]
    refine x_reti C rfl hS (Nat.le_of_ble_eq_true rfl) (Nat.le_of_ble_eq_true rfl) dX7_together_52 ?_
    rw [hpost]
    exact ⟨⟨_, rfl⟩, Or.inl ⟨(fun q => by rw [(inRb_iff (by omega)).mpr q] at c_3; cases c_3), PM_th hH hMM0⟩⟩

set_option maxHeartbeats 4000000 in
set_option maxRecDepth 100000 in
theorem m_spent (l : Launch) {E : xE} {base : Nat} {al : Tg → Nat} {w : Tg → Option va_E} {th : Int32} {nf np na nw : Nat} {sg : Nat → Nat → Nat → Int32} {rc : Nat → Bool} {fr : Nat → Int32} (hMM : MMf E al w th nf np na nw sg rc fr) (hI : INV nf np na nw sg rc) {x : Int32} : xMet l yX7_spent cX7_spent 2 (some (.int)) ({ frames := 4, cells := 0, slots := 0, locals := 93 } : Room) E base [.ref (al (10, 0, 0)), .int x] (fun H => xH E base al w H) (fun r H => (∃ v9, r = some (.int v9)) ∧ ((¬ inR x np ∧ PM E base al w (nI 1) nf np na nw sg rc H) ∨ (∃ p, p < np ∧ x = nI p ∧ r = some (.int (nI (sC (KCs sg rc na p) 8))) ∧ PM E base al w (nI 0) nf np na nw sg rc H))) := by
  refine xMet.of (by decide +kernel) "DataroomModel" rfl (Nat.le_of_ble_eq_true rfl) ?_
  intro p9 e9 s m9 below meth c9 ls C hin hP hS hl
  have hx := C.hx
  have hb := C.hb
  have hH := hP
  have hl : lv_has ls 2 [(0, .ref (al (10, 0, 0))), (1, .int x)] := hl
  obtain ⟨post, hpost⟩ : ∃ zz9 : Option Value → Heap → Prop, zz9 = (fun r H => (∃ v9, r = some (.int v9)) ∧ ((¬ inR x np ∧ PM E base al w (nI 1) nf np na nw sg rc H) ∨ (∃ p, p < np ∧ x = nI p ∧ r = some (.int (nI (sC (KCs sg rc na p) 8))) ∧ PM E base al w (nI 0) nf np na nw sg rc H))) := ⟨_, rfl⟩
  rw [← hpost]
  generalize hQ : (MQ below (xQ base post) ([.ref (al (10, 0, 0)), .int x] : List Value).toArray s 0 0 (xA base)) = Q
  have hMM0 := hMM
  obtain ⟨hM, mm3, mm4, mm6, mm7, mm8, mm9, mm11, mm12, mm13, mm14, mm15, mm16, mm17, mm18⟩ := hMM
  have hI0 := hI
  obtain ⟨v16, v6, v150, vnow, vA, vS, vP, vK, vR⟩ := hI
  refine lv_aload_n hx hb dX7_spent_0 rfl (lv_at hl 0 rfl) ?_
  refine lv_aload_n hx hb dX7_spent_1 rfl (lv_at hl 0 rfl) ?_
  refine lv_iload_n hx hb dX7_spent_2 rfl (lv_at hl 1 rfl) ?_
  refine x_callV C hH hS (ci := 8) (t := (10, 0, 0)) hM rfl rfl (m_isParty l (E := E) (base := base) hMM0 (x := x)) hH kX7_isParty qw_792 (ws_p (List.mem_of_getElem? (i := 22) rfl) rfl) qw_790  rfl [.ref (al (10, 0, 0))] rfl hl.1 (Nat.le_of_ble_eq_true rfl) ⟨Nat.le_of_ble_eq_true rfl, Nat.le_of_ble_eq_true rfl⟩ dX7_spent_3 ⟨Nat.le_of_ble_eq_true rfl, Nat.le_of_ble_eq_true rfl⟩ (fun r_2 H locs hp_1 hS => ?_)
  obtain ⟨rfl, hH⟩ := hp_1
  refine lv_if_eq (tgt := 13) hx hb dX7_spent_6 (by decide) (fun c_3 => ?_) (fun c_3 => ?_)
  · skip
    replace c_3 := ob_0.mp c_3
    refine lv_iconst (v := nI 1) hx hb dX7_spent_13 (by decide +kernel) ?_
    refine x_callV C hH hS (ci := 8) (t := (10, 0, 0)) hM rfl rfl (m_goes l (E := E) (base := base) hMM0 (k := 1) (by omega)) hH kX7_goesWell qw_768 (ws_p (List.mem_of_getElem? (i := 19) rfl) rfl) qw_766  rfl [] rfl hl.1 (Nat.le_of_ble_eq_true rfl) ⟨Nat.le_of_ble_eq_true rfl, Nat.le_of_ble_eq_true rfl⟩ dX7_spent_14 ⟨Nat.le_of_ble_eq_true rfl, Nat.le_of_ble_eq_true rfl⟩ (fun r_5 H locs hp_4 hS => ?_)
    obtain ⟨rfl, hH⟩ := hp_4
    have hMM1 := hMM0.goes (nI 1)
    have hMMx := hMM1
    obtain ⟨hM, mm3, mm4, mm6, mm7, mm8, mm9, mm11, mm12, mm13, mm14, mm15, mm16, mm17, mm18⟩ := hMMx
    refine lv_re (y := nI 0) rfl ?_
    refine lv_if_eq (tgt := 28) hx hb dX7_spent_17 (by decide) (fun c_6 => ?_) (fun c_6 => absurd (by decide +kernel) c_6)
    clear c_6
    refine lv_iconst (v := nI 0) hx hb dX7_spent_28 (by decide +kernel) ?_
    rw [← hQ]
    refine x_reti C rfl hS (Nat.le_of_ble_eq_true rfl) (Nat.le_of_ble_eq_true rfl) dX7_spent_29 ?_
    rw [hpost]
    exact ⟨⟨_, rfl⟩, Or.inl ⟨(fun q => by rw [(inRb_iff (by omega)).mpr q] at c_3; cases c_3), PM_th hH hMM0⟩⟩
  · skip
    replace c_3 := ob_n.mp c_3
    refine lv_iconst (v := nI 0) hx hb dX7_spent_9 (by decide +kernel) ?_
    refine lv_goto (tgt := 14) hx hb dX7_spent_10 (by decide) ?_
    refine x_callV C hH hS (ci := 8) (t := (10, 0, 0)) hM rfl rfl (m_goes l (E := E) (base := base) hMM0 (k := 0) (by omega)) hH kX7_goesWell qw_768 (ws_p (List.mem_of_getElem? (i := 19) rfl) rfl) qw_766  rfl [] rfl hl.1 (Nat.le_of_ble_eq_true rfl) ⟨Nat.le_of_ble_eq_true rfl, Nat.le_of_ble_eq_true rfl⟩ dX7_spent_14 ⟨Nat.le_of_ble_eq_true rfl, Nat.le_of_ble_eq_true rfl⟩ (fun r_8 H locs hp_7 hS => ?_)
    obtain ⟨rfl, hH⟩ := hp_7
    have hMM1 := hMM0.goes (nI 0)
    have hMMx := hMM1
    obtain ⟨hM, mm3, mm4, mm6, mm7, mm8, mm9, mm11, mm12, mm13, mm14, mm15, mm16, mm17, mm18⟩ := hMMx
    refine lv_re (y := nI 1) rfl ?_
    obtain ⟨p, hp9, rfl⟩ := (inRb_iff (by omega)).mp c_3
    refine lv_if_eq (tgt := 28) hx hb dX7_spent_17 (by decide) (fun c_9 => absurd c_9 (by decide +kernel)) (fun c_9 => ?_)
    clear c_9
    refine lv_aload_n hx hb dX7_spent_20 rfl (lv_at hl 0 rfl) ?_
    refine lv_iload_n hx hb dX7_spent_21 rfl (lv_at hl 1 rfl) ?_
    refine x_callV C hH hS (ci := 8) (t := (10, 0, 0)) hM rfl rfl (m_spentBy l (E := E) (base := base) hMM1 hI0 hp9) hH kX7_spentBy qw_854 (ws_p (List.mem_of_getElem? (i := 31) rfl) rfl) qw_852  rfl [] rfl hl.1 (Nat.le_of_ble_eq_true rfl) ⟨Nat.le_of_ble_eq_true rfl, Nat.le_of_ble_eq_true rfl⟩ dX7_spent_22 ⟨Nat.le_of_ble_eq_true rfl, Nat.le_of_ble_eq_true rfl⟩ (fun r_11 H locs hp_10 hS => ?_)
    obtain ⟨rfl, fr9, hH⟩ := hp_10
    refine lv_goto (tgt := 29) hx hb dX7_spent_25 (by decide) ?_
    rw [← hQ]
    refine x_reti C rfl hS (Nat.le_of_ble_eq_true rfl) (Nat.le_of_ble_eq_true rfl) dX7_spent_29 ?_
    rw [hpost]
    exact ⟨⟨_, rfl⟩, Or.inr ⟨p, hp9, rfl, rfl, PM_of hH (hMM1.fr _) (fun t ht => by rw [xu_ne (fun e => ht (by rw [e])), xu_ne (fun e => ht (by rw [e]))])⟩⟩

set_option maxHeartbeats 4000000 in
set_option maxRecDepth 100000 in
theorem m_spentAnew (l : Launch) {E : xE} {base : Nat} {al : Tg → Nat} {w : Tg → Option va_E} {th : Int32} {nf np na nw : Nat} {sg : Nat → Nat → Nat → Int32} {rc : Nat → Bool} {fr : Nat → Int32} (hMM : MMf E al w th nf np na nw sg rc fr) (hI : INV nf np na nw sg rc) {x : Int32} : xMet l yX7_spentAnew cX7_spentAnew 2 (some (.int)) ({ frames := 4, cells := 0, slots := 0, locals := 93 } : Room) E base [.ref (al (10, 0, 0)), .int x] (fun H => xH E base al w H) (fun r H => (∃ v9, r = some (.int v9)) ∧ ((¬ inR x np ∧ PM E base al w (nI 1) nf np na nw sg rc H) ∨ (∃ p, p < np ∧ x = nI p ∧ r = some (.int (nI (sC (KCs sg rc na p) 8))) ∧ PM E base al w (nI 0) nf np na nw sg rc H))) := by
  refine xMet.of (by decide +kernel) "DataroomModel" rfl (Nat.le_of_ble_eq_true rfl) ?_
  intro p9 e9 s m9 below meth c9 ls C hin hP hS hl
  have hx := C.hx
  have hb := C.hb
  have hH := hP
  have hl : lv_has ls 2 [(0, .ref (al (10, 0, 0))), (1, .int x)] := hl
  obtain ⟨post, hpost⟩ : ∃ zz9 : Option Value → Heap → Prop, zz9 = (fun r H => (∃ v9, r = some (.int v9)) ∧ ((¬ inR x np ∧ PM E base al w (nI 1) nf np na nw sg rc H) ∨ (∃ p, p < np ∧ x = nI p ∧ r = some (.int (nI (sC (KCs sg rc na p) 8))) ∧ PM E base al w (nI 0) nf np na nw sg rc H))) := ⟨_, rfl⟩
  rw [← hpost]
  generalize hQ : (MQ below (xQ base post) ([.ref (al (10, 0, 0)), .int x] : List Value).toArray s 0 0 (xA base)) = Q
  have hMM0 := hMM
  obtain ⟨hM, mm3, mm4, mm6, mm7, mm8, mm9, mm11, mm12, mm13, mm14, mm15, mm16, mm17, mm18⟩ := hMM
  have hI0 := hI
  obtain ⟨v16, v6, v150, vnow, vA, vS, vP, vK, vR⟩ := hI
  refine lv_aload_n hx hb dX7_spentAnew_0 rfl (lv_at hl 0 rfl) ?_
  refine lv_aload_n hx hb dX7_spentAnew_1 rfl (lv_at hl 0 rfl) ?_
  refine lv_iload_n hx hb dX7_spentAnew_2 rfl (lv_at hl 1 rfl) ?_
  refine x_callV C hH hS (ci := 8) (t := (10, 0, 0)) hM rfl rfl (m_isParty l (E := E) (base := base) hMM0 (x := x)) hH kX7_isParty qw_792 (ws_p (List.mem_of_getElem? (i := 22) rfl) rfl) qw_790  rfl [.ref (al (10, 0, 0))] rfl hl.1 (Nat.le_of_ble_eq_true rfl) ⟨Nat.le_of_ble_eq_true rfl, Nat.le_of_ble_eq_true rfl⟩ dX7_spentAnew_3 ⟨Nat.le_of_ble_eq_true rfl, Nat.le_of_ble_eq_true rfl⟩ (fun r_2 H locs hp_1 hS => ?_)
  obtain ⟨rfl, hH⟩ := hp_1
  refine lv_if_eq (tgt := 13) hx hb dX7_spentAnew_6 (by decide) (fun c_3 => ?_) (fun c_3 => ?_)
  · skip
    replace c_3 := ob_0.mp c_3
    refine lv_iconst (v := nI 1) hx hb dX7_spentAnew_13 (by decide +kernel) ?_
    refine x_callV C hH hS (ci := 8) (t := (10, 0, 0)) hM rfl rfl (m_goes l (E := E) (base := base) hMM0 (k := 1) (by omega)) hH kX7_goesWell qw_768 (ws_p (List.mem_of_getElem? (i := 19) rfl) rfl) qw_766  rfl [] rfl hl.1 (Nat.le_of_ble_eq_true rfl) ⟨Nat.le_of_ble_eq_true rfl, Nat.le_of_ble_eq_true rfl⟩ dX7_spentAnew_14 ⟨Nat.le_of_ble_eq_true rfl, Nat.le_of_ble_eq_true rfl⟩ (fun r_5 H locs hp_4 hS => ?_)
    obtain ⟨rfl, hH⟩ := hp_4
    have hMM1 := hMM0.goes (nI 1)
    have hMMx := hMM1
    obtain ⟨hM, mm3, mm4, mm6, mm7, mm8, mm9, mm11, mm12, mm13, mm14, mm15, mm16, mm17, mm18⟩ := hMMx
    refine lv_re (y := nI 0) rfl ?_
    refine lv_if_eq (tgt := 28) hx hb dX7_spentAnew_17 (by decide) (fun c_6 => ?_) (fun c_6 => absurd (by decide +kernel) c_6)
    clear c_6
    refine lv_iconst (v := nI 0) hx hb dX7_spentAnew_28 (by decide +kernel) ?_
    rw [← hQ]
    refine x_reti C rfl hS (Nat.le_of_ble_eq_true rfl) (Nat.le_of_ble_eq_true rfl) dX7_spentAnew_29 ?_
    rw [hpost]
    exact ⟨⟨_, rfl⟩, Or.inl ⟨(fun q => by rw [(inRb_iff (by omega)).mpr q] at c_3; cases c_3), PM_th hH hMM0⟩⟩
  · skip
    replace c_3 := ob_n.mp c_3
    refine lv_iconst (v := nI 0) hx hb dX7_spentAnew_9 (by decide +kernel) ?_
    refine lv_goto (tgt := 14) hx hb dX7_spentAnew_10 (by decide) ?_
    refine x_callV C hH hS (ci := 8) (t := (10, 0, 0)) hM rfl rfl (m_goes l (E := E) (base := base) hMM0 (k := 0) (by omega)) hH kX7_goesWell qw_768 (ws_p (List.mem_of_getElem? (i := 19) rfl) rfl) qw_766  rfl [] rfl hl.1 (Nat.le_of_ble_eq_true rfl) ⟨Nat.le_of_ble_eq_true rfl, Nat.le_of_ble_eq_true rfl⟩ dX7_spentAnew_14 ⟨Nat.le_of_ble_eq_true rfl, Nat.le_of_ble_eq_true rfl⟩ (fun r_8 H locs hp_7 hS => ?_)
    obtain ⟨rfl, hH⟩ := hp_7
    have hMM1 := hMM0.goes (nI 0)
    have hMMx := hMM1
    obtain ⟨hM, mm3, mm4, mm6, mm7, mm8, mm9, mm11, mm12, mm13, mm14, mm15, mm16, mm17, mm18⟩ := hMMx
    refine lv_re (y := nI 1) rfl ?_
    obtain ⟨p, hp9, rfl⟩ := (inRb_iff (by omega)).mp c_3
    refine lv_if_eq (tgt := 28) hx hb dX7_spentAnew_17 (by decide) (fun c_9 => absurd c_9 (by decide +kernel)) (fun c_9 => ?_)
    clear c_9
    refine lv_aload_n hx hb dX7_spentAnew_20 rfl (lv_at hl 0 rfl) ?_
    refine lv_iload_n hx hb dX7_spentAnew_21 rfl (lv_at hl 1 rfl) ?_
    refine x_callV C hH hS (ci := 8) (t := (10, 0, 0)) hM rfl rfl (m_spentBy l (E := E) (base := base) hMM1 hI0 hp9) hH kX7_spentBy qw_854 (ws_p (List.mem_of_getElem? (i := 31) rfl) rfl) qw_852  rfl [] rfl hl.1 (Nat.le_of_ble_eq_true rfl) ⟨Nat.le_of_ble_eq_true rfl, Nat.le_of_ble_eq_true rfl⟩ dX7_spentAnew_22 ⟨Nat.le_of_ble_eq_true rfl, Nat.le_of_ble_eq_true rfl⟩ (fun r_11 H locs hp_10 hS => ?_)
    obtain ⟨rfl, fr9, hH⟩ := hp_10
    refine lv_goto (tgt := 29) hx hb dX7_spentAnew_25 (by decide) ?_
    rw [← hQ]
    refine x_reti C rfl hS (Nat.le_of_ble_eq_true rfl) (Nat.le_of_ble_eq_true rfl) dX7_spentAnew_29 ?_
    rw [hpost]
    exact ⟨⟨_, rfl⟩, Or.inr ⟨p, hp9, rfl, rfl, PM_of hH (hMM1.fr _) (fun t ht => by rw [xu_ne (fun e => ht (by rw [e])), xu_ne (fun e => ht (by rw [e]))])⟩⟩

set_option maxHeartbeats 4000000 in
set_option maxRecDepth 100000 in
theorem m_cost (l : Launch) {E : xE} {base : Nat} {al : Tg → Nat} {w : Tg → Option va_E} {th : Int32} {nf np na nw : Nat} {sg : Nat → Nat → Nat → Int32} {rc : Nat → Bool} {fr : Nat → Int32} (hMM : MMf E al w th nf np na nw sg rc fr) (hI : INV nf np na nw sg rc) {x z bit : Int32} : xMet l yX7_cost cX7_cost 5 (some (.int)) ({ frames := 4, cells := 0, slots := 0, locals := 95 } : Room) E base [.ref (al (10, 0, 0)), .int x, .int z, .int bit] (fun H => xH E base al w H) (fun r H => (∃ v9, r = some (.int v9)) ∧ ((¬ inR x np ∧ PM E base al w (nI 1) nf np na nw sg rc H) ∨ (inR x np ∧ ¬ Qok nf z bit ∧ PM E base al w (nI 2) nf np na nw sg rc H) ∨ (∃ p, p < np ∧ x = nI p ∧ Qok nf z bit ∧ r = some (.int (nI (cC (KFs sg rc na p) bit z 8))) ∧ PM E base al w (nI 0) nf np na nw sg rc H))) := by
  refine xMet.of (by decide +kernel) "DataroomModel" rfl (Nat.le_of_ble_eq_true rfl) ?_
  intro p9 e9 s m9 below meth c9 ls C hin hP hS hl
  have hx := C.hx
  have hb := C.hb
  have hH := hP
  have hl : lv_has ls 5 [(0, .ref (al (10, 0, 0))), (1, .int x), (2, .int z), (3, .int bit)] := hl
  obtain ⟨post, hpost⟩ : ∃ zz9 : Option Value → Heap → Prop, zz9 = (fun r H => (∃ v9, r = some (.int v9)) ∧ ((¬ inR x np ∧ PM E base al w (nI 1) nf np na nw sg rc H) ∨ (inR x np ∧ ¬ Qok nf z bit ∧ PM E base al w (nI 2) nf np na nw sg rc H) ∨ (∃ p, p < np ∧ x = nI p ∧ Qok nf z bit ∧ r = some (.int (nI (cC (KFs sg rc na p) bit z 8))) ∧ PM E base al w (nI 0) nf np na nw sg rc H))) := ⟨_, rfl⟩
  rw [← hpost]
  generalize hQ : (MQ below (xQ base post) ([.ref (al (10, 0, 0)), .int x, .int z, .int bit] : List Value).toArray s 0 0 (xA base)) = Q
  have hMM0 := hMM
  obtain ⟨hM, mm3, mm4, mm6, mm7, mm8, mm9, mm11, mm12, mm13, mm14, mm15, mm16, mm17, mm18⟩ := hMM
  have hI0 := hI
  obtain ⟨v16, v6, v150, vnow, vA, vS, vP, vK, vR⟩ := hI
  refine lv_aload_n hx hb dX7_cost_0 rfl (lv_at hl 0 rfl) ?_
  refine lv_iload_n hx hb dX7_cost_1 rfl (lv_at hl 1 rfl) ?_
  refine x_callV C hH hS (ci := 8) (t := (10, 0, 0)) hM rfl rfl (m_isParty l (E := E) (base := base) hMM0 (x := x)) hH kX7_isParty qw_792 (ws_p (List.mem_of_getElem? (i := 22) rfl) rfl) qw_790  rfl [] rfl hl.1 (Nat.le_of_ble_eq_true rfl) ⟨Nat.le_of_ble_eq_true rfl, Nat.le_of_ble_eq_true rfl⟩ dX7_cost_2 ⟨Nat.le_of_ble_eq_true rfl, Nat.le_of_ble_eq_true rfl⟩ (fun r_2 H locs hp_1 hS => ?_)
  obtain ⟨rfl, hH⟩ := hp_1
  refine lv_istore (lv' := [(4, .int (ob (inRb x np))), (0, .ref (al (10, 0, 0))), (1, .int x), (2, .int z), (3, .int bit)]) hx hb dX7_cost_5 hl (by decide) rfl (fun ls hl => ?_)
  refine lv_aload_n hx hb dX7_cost_7 rfl (lv_at hl 1 rfl) ?_
  refine lv_iload hx hb dX7_cost_8 (lv_at hl 0 rfl) ?_
  refine lv_if_ne (tgt := 17) hx hb dX7_cost_10 (by decide) (fun c_3 => ?_) (fun c_3 => ?_)
  · skip
    replace c_3 := ob_n.mp c_3
    refine lv_aload_n hx hb dX7_cost_17 rfl (lv_at hl 1 rfl) ?_
    refine lv_iload_n hx hb dX7_cost_18 rfl (lv_at hl 3 rfl) ?_
    refine lv_iload_n hx hb dX7_cost_19 rfl (lv_at hl 4 rfl) ?_
    refine x_callV C hH hS (ci := 8) (t := (10, 0, 0)) hM rfl rfl (m_isQ l (E := E) (base := base) hMM0 (x := z) (bit := bit)) hH kX7_isQuestion qw_816 (ws_p (List.mem_of_getElem? (i := 23) rfl) rfl) qw_814  rfl [.ref (al (10, 0, 0))] rfl hl.1 (Nat.le_of_ble_eq_true rfl) ⟨Nat.le_of_ble_eq_true rfl, Nat.le_of_ble_eq_true rfl⟩ dX7_cost_20 ⟨Nat.le_of_ble_eq_true rfl, Nat.le_of_ble_eq_true rfl⟩ (fun r_5 H locs hp_4 hS => ?_)
    obtain ⟨rfl, hH⟩ := hp_4
    refine lv_if_eq (tgt := 30) hx hb dX7_cost_23 (by decide) (fun c_6 => ?_) (fun c_6 => ?_)
    · skip
      replace c_6 := ob_0.mp c_6
      refine lv_iconst (v := nI 2) hx hb dX7_cost_30 (by decide +kernel) ?_
      refine x_callV C hH hS (ci := 8) (t := (10, 0, 0)) hM rfl rfl (m_goes l (E := E) (base := base) hMM0 (k := 2) (by omega)) hH kX7_goesWell qw_768 (ws_p (List.mem_of_getElem? (i := 19) rfl) rfl) qw_766  rfl [] rfl hl.1 (Nat.le_of_ble_eq_true rfl) ⟨Nat.le_of_ble_eq_true rfl, Nat.le_of_ble_eq_true rfl⟩ dX7_cost_31 ⟨Nat.le_of_ble_eq_true rfl, Nat.le_of_ble_eq_true rfl⟩ (fun r_8 H locs hp_7 hS => ?_)
      obtain ⟨rfl, hH⟩ := hp_7
      have hMM1 := hMM0.goes (nI 2)
      have hMMx := hMM1
      obtain ⟨hM, mm3, mm4, mm6, mm7, mm8, mm9, mm11, mm12, mm13, mm14, mm15, mm16, mm17, mm18⟩ := hMMx
      refine lv_re (y := nI 0) rfl ?_
      refine lv_if_eq (tgt := 47) hx hb dX7_cost_34 (by decide) (fun c_9 => ?_) (fun c_9 => absurd (by decide +kernel) c_9)
      clear c_9
      refine lv_iconst (v := nI 0) hx hb dX7_cost_47 (by decide +kernel) ?_
      rw [← hQ]
      refine x_reti C rfl hS (Nat.le_of_ble_eq_true rfl) (Nat.le_of_ble_eq_true rfl) dX7_cost_48 ?_
      rw [hpost]
      exact ⟨⟨_, rfl⟩, Or.inr (Or.inl ⟨((inRb_iff (by omega)).mp c_3), (fun q => by rw [(qB_iff v16).mpr q] at c_6; cases c_6), PM_th hH hMM0⟩)⟩
    · skip
      replace c_6 := ob_n.mp c_6
      refine lv_iconst (v := nI 0) hx hb dX7_cost_26 (by decide +kernel) ?_
      refine lv_goto (tgt := 31) hx hb dX7_cost_27 (by decide) ?_
      refine x_callV C hH hS (ci := 8) (t := (10, 0, 0)) hM rfl rfl (m_goes l (E := E) (base := base) hMM0 (k := 0) (by omega)) hH kX7_goesWell qw_768 (ws_p (List.mem_of_getElem? (i := 19) rfl) rfl) qw_766  rfl [] rfl hl.1 (Nat.le_of_ble_eq_true rfl) ⟨Nat.le_of_ble_eq_true rfl, Nat.le_of_ble_eq_true rfl⟩ dX7_cost_31 ⟨Nat.le_of_ble_eq_true rfl, Nat.le_of_ble_eq_true rfl⟩ (fun r_11 H locs hp_10 hS => ?_)
      obtain ⟨rfl, hH⟩ := hp_10
      have hMM1 := hMM0.goes (nI 0)
      have hMMx := hMM1
      obtain ⟨hM, mm3, mm4, mm6, mm7, mm8, mm9, mm11, mm12, mm13, mm14, mm15, mm16, mm17, mm18⟩ := hMMx
      refine lv_re (y := nI 1) rfl ?_
      obtain ⟨p, hp9, rfl⟩ := (inRb_iff (by omega)).mp c_3
      refine lv_if_eq (tgt := 47) hx hb dX7_cost_34 (by decide) (fun c_12 => absurd c_12 (by decide +kernel)) (fun c_12 => ?_)
      clear c_12
      refine lv_aload_n hx hb dX7_cost_37 rfl (lv_at hl 1 rfl) ?_
      refine lv_iload_n hx hb dX7_cost_38 rfl (lv_at hl 2 rfl) ?_
      refine lv_iload_n hx hb dX7_cost_39 rfl (lv_at hl 3 rfl) ?_
      refine lv_iload_n hx hb dX7_cost_40 rfl (lv_at hl 4 rfl) ?_
      refine x_callV C hH hS (ci := 8) (t := (10, 0, 0)) hM rfl rfl (m_costOf l (E := E) (base := base) hMM1 hI0 (x := z) (bit := bit) hp9) hH kX7_costOf qw_858 (ws_p (List.mem_of_getElem? (i := 32) rfl) rfl) qw_856  rfl [] rfl hl.1 (Nat.le_of_ble_eq_true rfl) ⟨Nat.le_of_ble_eq_true rfl, Nat.le_of_ble_eq_true rfl⟩ dX7_cost_41 ⟨Nat.le_of_ble_eq_true rfl, Nat.le_of_ble_eq_true rfl⟩ (fun r_14 H locs hp_13 hS => ?_)
      obtain ⟨rfl, fr9, hH⟩ := hp_13
      refine lv_goto (tgt := 48) hx hb dX7_cost_44 (by decide) ?_
      rw [← hQ]
      refine x_reti C rfl hS (Nat.le_of_ble_eq_true rfl) (Nat.le_of_ble_eq_true rfl) dX7_cost_48 ?_
      rw [hpost]
      exact ⟨⟨_, rfl⟩, Or.inr (Or.inr ⟨p, hp9, rfl, (qB_iff v16).mp c_6, rfl, PM_of hH (hMM1.fr _) (fun t ht => by rw [xu_ne (fun e => ht (by rw [e])), xu_ne (fun e => ht (by rw [e]))])⟩)⟩
  · skip
    replace c_3 := ob_0.mp c_3
    refine lv_iconst (v := nI 1) hx hb dX7_cost_13 (by decide +kernel) ?_
    refine lv_goto (tgt := 31) hx hb dX7_cost_14 (by decide) ?_
    refine x_callV C hH hS (ci := 8) (t := (10, 0, 0)) hM rfl rfl (m_goes l (E := E) (base := base) hMM0 (k := 1) (by omega)) hH kX7_goesWell qw_768 (ws_p (List.mem_of_getElem? (i := 19) rfl) rfl) qw_766  rfl [] rfl hl.1 (Nat.le_of_ble_eq_true rfl) ⟨Nat.le_of_ble_eq_true rfl, Nat.le_of_ble_eq_true rfl⟩ dX7_cost_31 ⟨Nat.le_of_ble_eq_true rfl, Nat.le_of_ble_eq_true rfl⟩ (fun r_16 H locs hp_15 hS => ?_)
    obtain ⟨rfl, hH⟩ := hp_15
    have hMM1 := hMM0.goes (nI 1)
    have hMMx := hMM1
    obtain ⟨hM, mm3, mm4, mm6, mm7, mm8, mm9, mm11, mm12, mm13, mm14, mm15, mm16, mm17, mm18⟩ := hMMx
    refine lv_re (y := nI 0) rfl ?_
    refine lv_if_eq (tgt := 47) hx hb dX7_cost_34 (by decide) (fun c_17 => ?_) (fun c_17 => absurd (by decide +kernel) c_17)
    clear c_17
    refine lv_iconst (v := nI 0) hx hb dX7_cost_47 (by decide +kernel) ?_
    rw [← hQ]
    refine x_reti C rfl hS (Nat.le_of_ble_eq_true rfl) (Nat.le_of_ble_eq_true rfl) dX7_cost_48 ?_
    rw [hpost]
    exact ⟨⟨_, rfl⟩, Or.inl ⟨(fun q => by rw [(inRb_iff (by omega)).mpr q] at c_3; cases c_3), PM_th hH hMM0⟩⟩

set_option maxHeartbeats 4000000 in
set_option maxRecDepth 100000 in
theorem m_isSealed (l : Launch) {E : xE} {base : Nat} {al : Tg → Nat} {w : Tg → Option va_E} {th : Int32} {nf np na nw : Nat} {sg : Nat → Nat → Nat → Int32} {rc : Nat → Bool} {fr : Nat → Int32} (hMM : MMf E al w th nf np na nw sg rc fr) (hI : INV nf np na nw sg rc) {x : Int32} : xMet l yX7_isSealed cX7_isSealed 2 (some (.boolean)) ({ frames := 2, cells := 0, slots := 0, locals := 43 } : Room) E base [.ref (al (10, 0, 0)), .int x] (fun H => xH E base al w H) (fun r H => (∃ v9, r = some (.int v9)) ∧ ((¬ inR x nf ∧ PM E base al w (nI 1) nf np na nw sg rc H) ∨ (∃ f, f < nf ∧ x = nI f ∧ r = some (.int (ob (decide (nI nw ≤ sg 2 f 0)))) ∧ PM E base al w (nI 0) nf np na nw sg rc H))) := by
  refine xMet.of (by decide +kernel) "DataroomModel" rfl (Nat.le_of_ble_eq_true rfl) ?_
  intro p9 e9 s m9 below meth c9 ls C hin hP hS hl
  have hx := C.hx
  have hb := C.hb
  have hH := hP
  have hl : lv_has ls 2 [(0, .ref (al (10, 0, 0))), (1, .int x)] := hl
  obtain ⟨post, hpost⟩ : ∃ zz9 : Option Value → Heap → Prop, zz9 = (fun r H => (∃ v9, r = some (.int v9)) ∧ ((¬ inR x nf ∧ PM E base al w (nI 1) nf np na nw sg rc H) ∨ (∃ f, f < nf ∧ x = nI f ∧ r = some (.int (ob (decide (nI nw ≤ sg 2 f 0)))) ∧ PM E base al w (nI 0) nf np na nw sg rc H))) := ⟨_, rfl⟩
  rw [← hpost]
  generalize hQ : (MQ below (xQ base post) ([.ref (al (10, 0, 0)), .int x] : List Value).toArray s 0 0 (xA base)) = Q
  have hMM0 := hMM
  obtain ⟨hM, mm3, mm4, mm6, mm7, mm8, mm9, mm11, mm12, mm13, mm14, mm15, mm16, mm17, mm18⟩ := hMM
  have hI0 := hI
  obtain ⟨v16, v6, v150, vnow, vA, vS, vP, vK, vR⟩ := hI
  refine lv_aload_n hx hb dX7_isSealed_0 rfl (lv_at hl 0 rfl) ?_
  refine lv_aload_n hx hb dX7_isSealed_1 rfl (lv_at hl 0 rfl) ?_
  refine lv_iload_n hx hb dX7_isSealed_2 rfl (lv_at hl 1 rfl) ?_
  refine x_callV C hH hS (ci := 8) (t := (10, 0, 0)) hM rfl rfl (m_isFile l (E := E) (base := base) hMM0 (x := x)) hH kX7_isFile qw_776 (ws_p (List.mem_of_getElem? (i := 20) rfl) rfl) qw_774  rfl [.ref (al (10, 0, 0))] rfl hl.1 (Nat.le_of_ble_eq_true rfl) ⟨Nat.le_of_ble_eq_true rfl, Nat.le_of_ble_eq_true rfl⟩ dX7_isSealed_3 ⟨Nat.le_of_ble_eq_true rfl, Nat.le_of_ble_eq_true rfl⟩ (fun r_2 H locs hp_1 hS => ?_)
  obtain ⟨rfl, hH⟩ := hp_1
  refine lv_if_eq (tgt := 13) hx hb dX7_isSealed_6 (by decide) (fun c_3 => ?_) (fun c_3 => ?_)
  · skip
    replace c_3 := ob_0.mp c_3
    refine lv_iconst (v := nI 1) hx hb dX7_isSealed_13 (by decide +kernel) ?_
    refine x_callV C hH hS (ci := 8) (t := (10, 0, 0)) hM rfl rfl (m_goes l (E := E) (base := base) hMM0 (k := 1) (by omega)) hH kX7_goesWell qw_768 (ws_p (List.mem_of_getElem? (i := 19) rfl) rfl) qw_766  rfl [] rfl hl.1 (Nat.le_of_ble_eq_true rfl) ⟨Nat.le_of_ble_eq_true rfl, Nat.le_of_ble_eq_true rfl⟩ dX7_isSealed_14 ⟨Nat.le_of_ble_eq_true rfl, Nat.le_of_ble_eq_true rfl⟩ (fun r_5 H locs hp_4 hS => ?_)
    obtain ⟨rfl, hH⟩ := hp_4
    have hMM1 := hMM0.goes (nI 1)
    have hMMx := hMM1
    obtain ⟨hM, mm3, mm4, mm6, mm7, mm8, mm9, mm11, mm12, mm13, mm14, mm15, mm16, mm17, mm18⟩ := hMMx
    refine lv_re (y := nI 0) rfl ?_
    refine lv_if_eq (tgt := 37) hx hb dX7_isSealed_17 (by decide) (fun c_6 => ?_) (fun c_6 => absurd (by decide +kernel) c_6)
    clear c_6
    refine lv_iconst (v := nI 0) hx hb dX7_isSealed_37 (by decide +kernel) ?_
    rw [← hQ]
    refine x_reti C rfl hS (Nat.le_of_ble_eq_true rfl) (Nat.le_of_ble_eq_true rfl) dX7_isSealed_38 ?_
    rw [hpost]
    exact ⟨⟨_, rfl⟩, Or.inl ⟨(fun q => by rw [(inRb_iff (by omega)).mpr q] at c_3; cases c_3), PM_th hH hMM0⟩⟩
  · skip
    replace c_3 := ob_n.mp c_3
    refine lv_iconst (v := nI 0) hx hb dX7_isSealed_9 (by decide +kernel) ?_
    refine lv_goto (tgt := 14) hx hb dX7_isSealed_10 (by decide) ?_
    refine x_callV C hH hS (ci := 8) (t := (10, 0, 0)) hM rfl rfl (m_goes l (E := E) (base := base) hMM0 (k := 0) (by omega)) hH kX7_goesWell qw_768 (ws_p (List.mem_of_getElem? (i := 19) rfl) rfl) qw_766  rfl [] rfl hl.1 (Nat.le_of_ble_eq_true rfl) ⟨Nat.le_of_ble_eq_true rfl, Nat.le_of_ble_eq_true rfl⟩ dX7_isSealed_14 ⟨Nat.le_of_ble_eq_true rfl, Nat.le_of_ble_eq_true rfl⟩ (fun r_8 H locs hp_7 hS => ?_)
    obtain ⟨rfl, hH⟩ := hp_7
    have hMM1 := hMM0.goes (nI 0)
    have hMMx := hMM1
    obtain ⟨hM, mm3, mm4, mm6, mm7, mm8, mm9, mm11, mm12, mm13, mm14, mm15, mm16, mm17, mm18⟩ := hMMx
    refine lv_re (y := nI 1) rfl ?_
    obtain ⟨f, hf9, rfl⟩ := (inRb_iff (by omega)).mp c_3
    refine lv_if_eq (tgt := 37) hx hb dX7_isSealed_17 (by decide) (fun c_9 => absurd c_9 (by decide +kernel)) (fun c_9 => ?_)
    clear c_9
    refine lv_aload_n hx hb dX7_isSealed_20 rfl (lv_at hl 0 rfl) ?_
    refine x_get C hH (ci := 8) (T := TX7) (N := 19) hM rfl iWX7 4 (by decide) qw_700 rfl rfl dX7_isSealed_21 ?_
    refine lv_iload_n hx hb dX7_isSealed_24 rfl (lv_at hl 1 rfl) ?_
    refine x_iald C hH mm4 (j := f) rfl (by omega) (by omega) dX7_isSealed_25 ?_
    refine lv_aload_n hx hb dX7_isSealed_26 rfl (lv_at hl 0 rfl) ?_
    refine x_get C hH (ci := 8) (T := TX7) (N := 19) hM rfl iWX7 1 (by decide) qw_697 rfl rfl dX7_isSealed_27 ?_
    refine lv_icmp_lt (tgt := 37) hx hb dX7_isSealed_30 (by decide) (fun c_10 => ?_) (fun c_10 => ?_)
    · skip
      refine lv_iconst (v := nI 0) hx hb dX7_isSealed_37 (by decide +kernel) ?_
      rw [← hQ]
      refine x_reti C rfl hS (Nat.le_of_ble_eq_true rfl) (Nat.le_of_ble_eq_true rfl) dX7_isSealed_38 ?_
      rw [hpost]
      exact ⟨⟨_, rfl⟩, Or.inr ⟨f, hf9, rfl, by rw [show decide (nI nw ≤ sg 2 f 0) = false from decide_eq_false (Int32.not_le.mpr c_10)]; rfl, PM_of hH hMM1 (fun t ht => by rw [xu_ne (fun e => ht (by rw [e]))])⟩⟩
    · skip
      refine lv_iconst (v := nI 1) hx hb dX7_isSealed_33 (by decide +kernel) ?_
      refine lv_goto (tgt := 38) hx hb dX7_isSealed_34 (by decide) ?_
      rw [← hQ]
      refine x_reti C rfl hS (Nat.le_of_ble_eq_true rfl) (Nat.le_of_ble_eq_true rfl) dX7_isSealed_38 ?_
      rw [hpost]
      exact ⟨⟨_, rfl⟩, Or.inr ⟨f, hf9, rfl, by rw [show decide (nI nw ≤ sg 2 f 0) = true from decide_eq_true (Int32.not_lt.mp c_10)]; rfl, PM_of hH hMM1 (fun t ht => by rw [xu_ne (fun e => ht (by rw [e]))])⟩⟩

set_option maxHeartbeats 4000000 in
set_option maxRecDepth 100000 in
theorem m_answer (l : Launch) {E : xE} {base : Nat} {al : Tg → Nat} {w : Tg → Option va_E} {th : Int32} {nf np na nw : Nat} {sg : Nat → Nat → Nat → Int32} {rc : Nat → Bool} {fr : Nat → Int32} (hMM : MMf E al w th nf np na nw sg rc fr) (hI : INV nf np na nw sg rc) {x z : Int32} : xMet l yX7_answer cX7_answer 4 (some (.int)) ({ frames := 1, cells := 0, slots := 0, locals := 22 } : Room) E base [.ref (al (10, 0, 0)), .int x, .int z] (fun H => xH E base al w H) (fun r H => (∃ v9, r = some (.int v9)) ∧ ((¬ inR x na ∧ PM E base al w (nI 1) nf np na nw sg rc H) ∨ (inR x na ∧ ¬ (nI 0 ≤ z ∧ z ≤ nI 5) ∧ PM E base al w (nI 2) nf np na nw sg rc H) ∨ (∃ a k, a < na ∧ k ≤ 5 ∧ x = nI a ∧ z = nI k ∧ r = some (.int (tlv (sg 7 a 0) (sg 8 a 0) (sg 9 a 0) (sg 10 a 0) (sg 11 a 0) (ob (rc a)) k)) ∧ PM E base al w (nI 0) nf np na nw sg rc H))) := by
  refine xMet.of (by decide +kernel) "DataroomModel" rfl (Nat.le_of_ble_eq_true rfl) ?_
  intro p9 e9 s m9 below meth c9 ls C hin hP hS hl
  have hx := C.hx
  have hb := C.hb
  have hH := hP
  have hl : lv_has ls 4 [(0, .ref (al (10, 0, 0))), (1, .int x), (2, .int z)] := hl
  obtain ⟨post, hpost⟩ : ∃ zz9 : Option Value → Heap → Prop, zz9 = (fun r H => (∃ v9, r = some (.int v9)) ∧ ((¬ inR x na ∧ PM E base al w (nI 1) nf np na nw sg rc H) ∨ (inR x na ∧ ¬ (nI 0 ≤ z ∧ z ≤ nI 5) ∧ PM E base al w (nI 2) nf np na nw sg rc H) ∨ (∃ a k, a < na ∧ k ≤ 5 ∧ x = nI a ∧ z = nI k ∧ r = some (.int (tlv (sg 7 a 0) (sg 8 a 0) (sg 9 a 0) (sg 10 a 0) (sg 11 a 0) (ob (rc a)) k)) ∧ PM E base al w (nI 0) nf np na nw sg rc H))) := ⟨_, rfl⟩
  rw [← hpost]
  generalize hQ : (MQ below (xQ base post) ([.ref (al (10, 0, 0)), .int x, .int z] : List Value).toArray s 0 0 (xA base)) = Q
  have hMM0 := hMM
  obtain ⟨hM, mm3, mm4, mm6, mm7, mm8, mm9, mm11, mm12, mm13, mm14, mm15, mm16, mm17, mm18⟩ := hMM
  have hI0 := hI
  obtain ⟨v16, v6, v150, vnow, vA, vS, vP, vK, vR⟩ := hI
  refine lv_iload_n hx hb dX7_answer_0 rfl (lv_at hl 1 rfl) ?_
  refine lv_iconst (v := nI 0) hx hb dX7_answer_1 (by decide +kernel) ?_
  refine lv_aload_n hx hb dX7_answer_2 rfl (lv_at hl 0 rfl) ?_
  refine x_get C hH (ci := 8) (T := TX7) (N := 19) hM rfl iWX7 10 (by decide) qw_706 rfl rfl dX7_answer_3 ?_
  refine lv_iconst (v := nI 1) hx hb dX7_answer_6 (by decide +kernel) ?_
  refine lv_isub hx hb dX7_answer_7 ?_
  refine lv_re (dI_sub _) ?_
  refine x_callS C hS (m_in l (E := E) (base := base) (al := al) (w := w) (v := x) (a := nI 0) (b := dI na)) hH kX7_in qw_764 qw_763  rfl [] rfl hl.1 (Nat.le_of_ble_eq_true rfl) ⟨Nat.le_of_ble_eq_true rfl, Nat.le_of_ble_eq_true rfl⟩ dX7_answer_8 ⟨Nat.le_of_ble_eq_true rfl, Nat.le_of_ble_eq_true rfl⟩ (fun r_2 H locs hp_1 hS => ?_)
  obtain ⟨rfl, hH⟩ := hp_1
  refine lv_istore_n (lv' := [(3, .int (ob (inB x (nI 0) (dI na)))), (0, .ref (al (10, 0, 0))), (1, .int x), (2, .int z)]) hx hb dX7_answer_11 rfl hl (by decide) rfl (fun ls hl => ?_)
  refine lv_aload_n hx hb dX7_answer_12 rfl (lv_at hl 1 rfl) ?_
  refine lv_iload_n hx hb dX7_answer_13 rfl (lv_at hl 0 rfl) ?_
  refine lv_if_ne (tgt := 21) hx hb dX7_answer_14 (by decide) (fun c_3 => ?_) (fun c_3 => ?_)
  · skip
    replace c_3 := ob_n.mp c_3
    refine lv_iload_n hx hb dX7_answer_21 rfl (lv_at hl 3 rfl) ?_
    refine lv_iconst (v := nI 0) hx hb dX7_answer_22 (by decide +kernel) ?_
    refine lv_iconst (v := nI 5) hx hb dX7_answer_23 (by decide +kernel) ?_
    refine x_callS C hS (m_in l (E := E) (base := base) (al := al) (w := w) (v := z) (a := nI 0) (b := nI 5)) hH kX7_in qw_764 qw_763  rfl [.ref (al (10, 0, 0))] rfl hl.1 (Nat.le_of_ble_eq_true rfl) ⟨Nat.le_of_ble_eq_true rfl, Nat.le_of_ble_eq_true rfl⟩ dX7_answer_24 ⟨Nat.le_of_ble_eq_true rfl, Nat.le_of_ble_eq_true rfl⟩ (fun r_5 H locs hp_4 hS => ?_)
    obtain ⟨rfl, hH⟩ := hp_4
    refine lv_if_eq (tgt := 34) hx hb dX7_answer_27 (by decide) (fun c_6 => ?_) (fun c_6 => ?_)
    · skip
      replace c_6 := ob_0.mp c_6
      refine lv_iconst (v := nI 2) hx hb dX7_answer_34 (by decide +kernel) ?_
      refine x_callV C hH hS (ci := 8) (t := (10, 0, 0)) hM rfl rfl (m_goes l (E := E) (base := base) hMM0 (k := 2) (by omega)) hH kX7_goesWell qw_768 (ws_p (List.mem_of_getElem? (i := 19) rfl) rfl) qw_766  rfl [] rfl hl.1 (Nat.le_of_ble_eq_true rfl) ⟨Nat.le_of_ble_eq_true rfl, Nat.le_of_ble_eq_true rfl⟩ dX7_answer_35 ⟨Nat.le_of_ble_eq_true rfl, Nat.le_of_ble_eq_true rfl⟩ (fun r_8 H locs hp_7 hS => ?_)
      obtain ⟨rfl, hH⟩ := hp_7
      have hMM1 := hMM0.goes (nI 2)
      have hMMx := hMM1
      obtain ⟨hM, mm3, mm4, mm6, mm7, mm8, mm9, mm11, mm12, mm13, mm14, mm15, mm16, mm17, mm18⟩ := hMMx
      refine lv_re (y := nI 0) rfl ?_
      refine lv_if_ne (tgt := 43) hx hb dX7_answer_38 (by decide) (fun c_9 => absurd (by decide +kernel) c_9) (fun c_9 => ?_)
      clear c_9
      refine lv_iconst (v := nI 0) hx hb dX7_answer_41 (by decide +kernel) ?_
      rw [← hQ]
      refine x_reti C rfl hS (Nat.le_of_ble_eq_true rfl) (Nat.le_of_ble_eq_true rfl) dX7_answer_42 ?_
      rw [hpost]
      exact ⟨⟨_, rfl⟩, Or.inr (Or.inl ⟨(inRb_iff (by omega)).mp (show inRb x na = true from c_3), inB_f c_6, PM_th hH hMM0⟩)⟩
    · skip
      replace c_6 := ob_n.mp c_6
      refine lv_iconst (v := nI 0) hx hb dX7_answer_30 (by decide +kernel) ?_
      refine lv_goto (tgt := 35) hx hb dX7_answer_31 (by decide) ?_
      refine x_callV C hH hS (ci := 8) (t := (10, 0, 0)) hM rfl rfl (m_goes l (E := E) (base := base) hMM0 (k := 0) (by omega)) hH kX7_goesWell qw_768 (ws_p (List.mem_of_getElem? (i := 19) rfl) rfl) qw_766  rfl [] rfl hl.1 (Nat.le_of_ble_eq_true rfl) ⟨Nat.le_of_ble_eq_true rfl, Nat.le_of_ble_eq_true rfl⟩ dX7_answer_35 ⟨Nat.le_of_ble_eq_true rfl, Nat.le_of_ble_eq_true rfl⟩ (fun r_11 H locs hp_10 hS => ?_)
      obtain ⟨rfl, hH⟩ := hp_10
      have hMM1 := hMM0.goes (nI 0)
      have hMMx := hMM1
      obtain ⟨hM, mm3, mm4, mm6, mm7, mm8, mm9, mm11, mm12, mm13, mm14, mm15, mm16, mm17, mm18⟩ := hMMx
      refine lv_re (y := nI 1) rfl ?_
      obtain ⟨a, ha9, rfl⟩ := (inRb_iff (by omega)).mp (show inRb x na = true from c_3)
      obtain ⟨k, hk9, rfl⟩ := rg_of (n := 5) (by omega) (inB_t c_6)
      refine lv_if_ne (tgt := 43) hx hb dX7_answer_38 (by decide) (fun c_12 => ?_) (fun c_12 => absurd c_12 (by decide +kernel))
      clear c_12
      rcases (show k = 0 ∨ k = 1 ∨ k = 2 ∨ k = 3 ∨ k = 4 ∨ k = 5 by omega) with rfl | rfl | rfl | rfl | rfl | rfl
      · skip
        refine lv_iload_n hx hb dX7_answer_43 rfl (lv_at hl 3 rfl) ?_
        refine lv_tableIn (tgt := 80) (off := 36) hx hb dX7_answer_44 (by decide +kernel) (by decide +kernel) rfl rfl ?_
        refine lv_aload_n hx hb dX7_answer_80 rfl (lv_at hl 1 rfl) ?_
        refine x_get C hH (ci := 8) (T := TX7) (N := 19) hM rfl iWX7 11 (by decide) qw_707 rfl rfl dX7_answer_81 ?_
        refine lv_iload_n hx hb dX7_answer_84 rfl (lv_at hl 2 rfl) ?_
        refine x_iald C hH mm11 (j := a) rfl (by omega) (by omega) dX7_answer_85 ?_
        rw [← hQ]
        refine x_reti C rfl hS (Nat.le_of_ble_eq_true rfl) (Nat.le_of_ble_eq_true rfl) dX7_answer_86 ?_
        rw [hpost]
        exact ⟨⟨_, rfl⟩, Or.inr (Or.inr ⟨a, 0, ha9, by omega, rfl, rfl, rfl, PM_of hH hMM1 (fun t ht => by rw [xu_ne (fun e => ht (by rw [e]))])⟩)⟩
      · skip
        refine lv_iload_n hx hb dX7_answer_43 rfl (lv_at hl 3 rfl) ?_
        refine lv_tableIn (tgt := 87) (off := 43) hx hb dX7_answer_44 (by decide +kernel) (by decide +kernel) rfl rfl ?_
        refine lv_aload_n hx hb dX7_answer_87 rfl (lv_at hl 1 rfl) ?_
        refine x_get C hH (ci := 8) (T := TX7) (N := 19) hM rfl iWX7 12 (by decide) qw_708 rfl rfl dX7_answer_88 ?_
        refine lv_iload_n hx hb dX7_answer_91 rfl (lv_at hl 2 rfl) ?_
        refine x_iald C hH mm12 (j := a) rfl (by omega) (by omega) dX7_answer_92 ?_
        rw [← hQ]
        refine x_reti C rfl hS (Nat.le_of_ble_eq_true rfl) (Nat.le_of_ble_eq_true rfl) dX7_answer_93 ?_
        rw [hpost]
        exact ⟨⟨_, rfl⟩, Or.inr (Or.inr ⟨a, 1, ha9, by omega, rfl, rfl, rfl, PM_of hH hMM1 (fun t ht => by rw [xu_ne (fun e => ht (by rw [e]))])⟩)⟩
      · skip
        refine lv_iload_n hx hb dX7_answer_43 rfl (lv_at hl 3 rfl) ?_
        refine lv_tableIn (tgt := 94) (off := 50) hx hb dX7_answer_44 (by decide +kernel) (by decide +kernel) rfl rfl ?_
        refine lv_aload_n hx hb dX7_answer_94 rfl (lv_at hl 1 rfl) ?_
        refine x_get C hH (ci := 8) (T := TX7) (N := 19) hM rfl iWX7 13 (by decide) qw_709 rfl rfl dX7_answer_95 ?_
        refine lv_iload_n hx hb dX7_answer_98 rfl (lv_at hl 2 rfl) ?_
        refine x_iald C hH mm13 (j := a) rfl (by omega) (by omega) dX7_answer_99 ?_
        rw [← hQ]
        refine x_reti C rfl hS (Nat.le_of_ble_eq_true rfl) (Nat.le_of_ble_eq_true rfl) dX7_answer_100 ?_
        rw [hpost]
        exact ⟨⟨_, rfl⟩, Or.inr (Or.inr ⟨a, 2, ha9, by omega, rfl, rfl, rfl, PM_of hH hMM1 (fun t ht => by rw [xu_ne (fun e => ht (by rw [e]))])⟩)⟩
      · skip
        refine lv_iload_n hx hb dX7_answer_43 rfl (lv_at hl 3 rfl) ?_
        refine lv_tableIn (tgt := 101) (off := 57) hx hb dX7_answer_44 (by decide +kernel) (by decide +kernel) rfl rfl ?_
        refine lv_aload_n hx hb dX7_answer_101 rfl (lv_at hl 1 rfl) ?_
        refine x_get C hH (ci := 8) (T := TX7) (N := 19) hM rfl iWX7 14 (by decide) qw_710 rfl rfl dX7_answer_102 ?_
        refine lv_iload_n hx hb dX7_answer_105 rfl (lv_at hl 2 rfl) ?_
        refine x_iald C hH mm14 (j := a) rfl (by omega) (by omega) dX7_answer_106 ?_
        rw [← hQ]
        refine x_reti C rfl hS (Nat.le_of_ble_eq_true rfl) (Nat.le_of_ble_eq_true rfl) dX7_answer_107 ?_
        rw [hpost]
        exact ⟨⟨_, rfl⟩, Or.inr (Or.inr ⟨a, 3, ha9, by omega, rfl, rfl, rfl, PM_of hH hMM1 (fun t ht => by rw [xu_ne (fun e => ht (by rw [e]))])⟩)⟩
      · skip
        refine lv_iload_n hx hb dX7_answer_43 rfl (lv_at hl 3 rfl) ?_
        refine lv_tableIn (tgt := 108) (off := 64) hx hb dX7_answer_44 (by decide +kernel) (by decide +kernel) rfl rfl ?_
        refine lv_aload_n hx hb dX7_answer_108 rfl (lv_at hl 1 rfl) ?_
        refine x_get C hH (ci := 8) (T := TX7) (N := 19) hM rfl iWX7 16 (by decide) qw_712 rfl rfl dX7_answer_109 ?_
        refine lv_iload_n hx hb dX7_answer_112 rfl (lv_at hl 2 rfl) ?_
        refine x_zald C hH mm16 (j := a) rfl (by omega) (by omega) dX7_answer_113 ?_
        refine lv_if_eq (tgt := 121) hx hb dX7_answer_114 (by decide) (fun c_13 => ?_) (fun c_13 => ?_)
        · skip
          replace c_13 := ob_0.mp c_13
          refine lv_iconst (v := nI 0) hx hb dX7_answer_121 (by decide +kernel) ?_
          rw [← hQ]
          refine x_reti C rfl hS (Nat.le_of_ble_eq_true rfl) (Nat.le_of_ble_eq_true rfl) dX7_answer_122 ?_
          rw [hpost]
          exact ⟨⟨_, rfl⟩, Or.inr (Or.inr ⟨a, 4, ha9, by omega, rfl, rfl, by show some (Value.int (nI 0)) = some (Value.int (ob (rc a))); rw [c_13]; rfl, PM_of hH hMM1 (fun t ht => by rw [xu_ne (fun e => ht (by rw [e]))])⟩)⟩
        · skip
          replace c_13 := ob_n.mp c_13
          refine lv_iconst (v := nI 1) hx hb dX7_answer_117 (by decide +kernel) ?_
          refine lv_goto (tgt := 122) hx hb dX7_answer_118 (by decide) ?_
          rw [← hQ]
          refine x_reti C rfl hS (Nat.le_of_ble_eq_true rfl) (Nat.le_of_ble_eq_true rfl) dX7_answer_122 ?_
          rw [hpost]
          exact ⟨⟨_, rfl⟩, Or.inr (Or.inr ⟨a, 4, ha9, by omega, rfl, rfl, by show some (Value.int (nI 1)) = some (Value.int (ob (rc a))); rw [c_13]; rfl, PM_of hH hMM1 (fun t ht => by rw [xu_ne (fun e => ht (by rw [e]))])⟩)⟩
      · skip
        refine lv_iload_n hx hb dX7_answer_43 rfl (lv_at hl 3 rfl) ?_
        refine lv_tableOut (tgt := 123) hx hb dX7_answer_44 (by decide +kernel) rfl ?_
        refine lv_aload_n hx hb dX7_answer_123 rfl (lv_at hl 1 rfl) ?_
        refine x_get C hH (ci := 8) (T := TX7) (N := 19) hM rfl iWX7 15 (by decide) qw_711 rfl rfl dX7_answer_124 ?_
        refine lv_iload_n hx hb dX7_answer_127 rfl (lv_at hl 2 rfl) ?_
        refine x_iald C hH mm15 (j := a) rfl (by omega) (by omega) dX7_answer_128 ?_
        rw [← hQ]
        refine x_reti C rfl hS (Nat.le_of_ble_eq_true rfl) (Nat.le_of_ble_eq_true rfl) dX7_answer_129 ?_
        rw [hpost]
        exact ⟨⟨_, rfl⟩, Or.inr (Or.inr ⟨a, 5, ha9, by omega, rfl, rfl, rfl, PM_of hH hMM1 (fun t ht => by rw [xu_ne (fun e => ht (by rw [e]))])⟩)⟩
  · skip
    replace c_3 := ob_0.mp c_3
    refine lv_iconst (v := nI 1) hx hb dX7_answer_17 (by decide +kernel) ?_
    refine lv_goto (tgt := 35) hx hb dX7_answer_18 (by decide) ?_
    refine x_callV C hH hS (ci := 8) (t := (10, 0, 0)) hM rfl rfl (m_goes l (E := E) (base := base) hMM0 (k := 1) (by omega)) hH kX7_goesWell qw_768 (ws_p (List.mem_of_getElem? (i := 19) rfl) rfl) qw_766  rfl [] rfl hl.1 (Nat.le_of_ble_eq_true rfl) ⟨Nat.le_of_ble_eq_true rfl, Nat.le_of_ble_eq_true rfl⟩ dX7_answer_35 ⟨Nat.le_of_ble_eq_true rfl, Nat.le_of_ble_eq_true rfl⟩ (fun r_15 H locs hp_14 hS => ?_)
    obtain ⟨rfl, hH⟩ := hp_14
    have hMM1 := hMM0.goes (nI 1)
    have hMMx := hMM1
    obtain ⟨hM, mm3, mm4, mm6, mm7, mm8, mm9, mm11, mm12, mm13, mm14, mm15, mm16, mm17, mm18⟩ := hMMx
    refine lv_re (y := nI 0) rfl ?_
    refine lv_if_ne (tgt := 43) hx hb dX7_answer_38 (by decide) (fun c_16 => absurd (by decide +kernel) c_16) (fun c_16 => ?_)
    clear c_16
    refine lv_iconst (v := nI 0) hx hb dX7_answer_41 (by decide +kernel) ?_
    rw [← hQ]
    refine x_reti C rfl hS (Nat.le_of_ble_eq_true rfl) (Nat.le_of_ble_eq_true rfl) dX7_answer_42 ?_
    rw [hpost]
    exact ⟨⟨_, rfl⟩, Or.inl ⟨(fun q => by rw [show inB x (nI 0) (dI na) = true from (inRb_iff (by omega)).mpr q] at c_3; cases c_3), PM_th hH hMM0⟩⟩

set_option maxHeartbeats 4000000 in
set_option maxRecDepth 100000 in
theorem m_count (l : Launch) {E : xE} {base : Nat} {al : Tg → Nat} {w : Tg → Option va_E} {th : Int32} {nf np na nw : Nat} {sg : Nat → Nat → Nat → Int32} {rc : Nat → Bool} {fr : Nat → Int32} (hMM : MMf E al w th nf np na nw sg rc fr) (hI : INV nf np na nw sg rc) {x z : Int32} : xMet l yX7_count cX7_count 6 (some (.int)) ({ frames := 2, cells := 0, slots := 0, locals := 43 } : Room) E base [.ref (al (10, 0, 0)), .int x, .int z] (fun H => xH E base al w H) (fun r H => (∃ v9, r = some (.int v9)) ∧ ((¬ inR x np ∧ PM E base al w (nI 1) nf np na nw sg rc H) ∨ (inR x np ∧ ¬ (nI 0 ≤ z ∧ z ≤ nI 5) ∧ PM E base al w (nI 2) nf np na nw sg rc H) ∨ (∃ p k, p < np ∧ k ≤ 5 ∧ x = nI p ∧ z = nI k ∧ r = some (.int (if k = 5 then nI (cSt sg rc p na) else sg 13 p k)) ∧ PM E base al w (nI 0) nf np na nw sg rc H))) := by
  refine xMet.of (by decide +kernel) "DataroomModel" rfl (Nat.le_of_ble_eq_true rfl) ?_
  intro p9 e9 s m9 below meth c9 ls C hin hP hS hl
  have hx := C.hx
  have hb := C.hb
  have hH := hP
  have hl : lv_has ls 6 [(0, .ref (al (10, 0, 0))), (1, .int x), (2, .int z)] := hl
  obtain ⟨post, hpost⟩ : ∃ zz9 : Option Value → Heap → Prop, zz9 = (fun r H => (∃ v9, r = some (.int v9)) ∧ ((¬ inR x np ∧ PM E base al w (nI 1) nf np na nw sg rc H) ∨ (inR x np ∧ ¬ (nI 0 ≤ z ∧ z ≤ nI 5) ∧ PM E base al w (nI 2) nf np na nw sg rc H) ∨ (∃ p k, p < np ∧ k ≤ 5 ∧ x = nI p ∧ z = nI k ∧ r = some (.int (if k = 5 then nI (cSt sg rc p na) else sg 13 p k)) ∧ PM E base al w (nI 0) nf np na nw sg rc H))) := ⟨_, rfl⟩
  rw [← hpost]
  generalize hQ : (MQ below (xQ base post) ([.ref (al (10, 0, 0)), .int x, .int z] : List Value).toArray s 0 0 (xA base)) = Q
  have hMM0 := hMM
  obtain ⟨hM, mm3, mm4, mm6, mm7, mm8, mm9, mm11, mm12, mm13, mm14, mm15, mm16, mm17, mm18⟩ := hMM
  have hI0 := hI
  obtain ⟨v16, v6, v150, vnow, vA, vS, vP, vK, vR⟩ := hI
  refine lv_aload_n hx hb dX7_count_0 rfl (lv_at hl 0 rfl) ?_
  refine lv_iload_n hx hb dX7_count_1 rfl (lv_at hl 1 rfl) ?_
  refine x_callV C hH hS (ci := 8) (t := (10, 0, 0)) hM rfl rfl (m_isParty l (E := E) (base := base) hMM0 (x := x)) hH kX7_isParty qw_792 (ws_p (List.mem_of_getElem? (i := 22) rfl) rfl) qw_790  rfl [] rfl hl.1 (Nat.le_of_ble_eq_true rfl) ⟨Nat.le_of_ble_eq_true rfl, Nat.le_of_ble_eq_true rfl⟩ dX7_count_2 ⟨Nat.le_of_ble_eq_true rfl, Nat.le_of_ble_eq_true rfl⟩ (fun r_2 H locs hp_1 hS => ?_)
  obtain ⟨rfl, hH⟩ := hp_1
  refine lv_istore_n (lv' := [(3, .int (ob (inRb x np))), (0, .ref (al (10, 0, 0))), (1, .int x), (2, .int z)]) hx hb dX7_count_5 rfl hl (by decide) rfl (fun ls hl => ?_)
  refine lv_aload_n hx hb dX7_count_6 rfl (lv_at hl 1 rfl) ?_
  refine lv_iload_n hx hb dX7_count_7 rfl (lv_at hl 0 rfl) ?_
  refine lv_if_ne (tgt := 15) hx hb dX7_count_8 (by decide) (fun c_3 => ?_) (fun c_3 => ?_)
  · skip
    replace c_3 := ob_n.mp c_3
    refine lv_iload_n hx hb dX7_count_15 rfl (lv_at hl 3 rfl) ?_
    refine lv_iconst (v := nI 0) hx hb dX7_count_16 (by decide +kernel) ?_
    refine lv_iconst (v := nI 5) hx hb dX7_count_17 (by decide +kernel) ?_
    refine x_callS C hS (m_in l (E := E) (base := base) (al := al) (w := w) (v := z) (a := nI 0) (b := nI 5)) hH kX7_in qw_764 qw_763  rfl [.ref (al (10, 0, 0))] rfl hl.1 (Nat.le_of_ble_eq_true rfl) ⟨Nat.le_of_ble_eq_true rfl, Nat.le_of_ble_eq_true rfl⟩ dX7_count_18 ⟨Nat.le_of_ble_eq_true rfl, Nat.le_of_ble_eq_true rfl⟩ (fun r_5 H locs hp_4 hS => ?_)
    obtain ⟨rfl, hH⟩ := hp_4
    refine lv_if_eq (tgt := 28) hx hb dX7_count_21 (by decide) (fun c_6 => ?_) (fun c_6 => ?_)
    · skip
      replace c_6 := ob_0.mp c_6
      refine lv_iconst (v := nI 2) hx hb dX7_count_28 (by decide +kernel) ?_
      refine x_callV C hH hS (ci := 8) (t := (10, 0, 0)) hM rfl rfl (m_goes l (E := E) (base := base) hMM0 (k := 2) (by omega)) hH kX7_goesWell qw_768 (ws_p (List.mem_of_getElem? (i := 19) rfl) rfl) qw_766  rfl [] rfl hl.1 (Nat.le_of_ble_eq_true rfl) ⟨Nat.le_of_ble_eq_true rfl, Nat.le_of_ble_eq_true rfl⟩ dX7_count_29 ⟨Nat.le_of_ble_eq_true rfl, Nat.le_of_ble_eq_true rfl⟩ (fun r_8 H locs hp_7 hS => ?_)
      obtain ⟨rfl, hH⟩ := hp_7
      have hMM1 := hMM0.goes (nI 2)
      have hMMx := hMM1
      obtain ⟨hM, mm3, mm4, mm6, mm7, mm8, mm9, mm11, mm12, mm13, mm14, mm15, mm16, mm17, mm18⟩ := hMMx
      refine lv_re (y := nI 0) rfl ?_
      refine lv_if_ne (tgt := 37) hx hb dX7_count_32 (by decide) (fun c_9 => absurd (by decide +kernel) c_9) (fun c_9 => ?_)
      clear c_9
      refine lv_iconst (v := nI 0) hx hb dX7_count_35 (by decide +kernel) ?_
      rw [← hQ]
      refine x_reti C rfl hS (Nat.le_of_ble_eq_true rfl) (Nat.le_of_ble_eq_true rfl) dX7_count_36 ?_
      rw [hpost]
      exact ⟨⟨_, rfl⟩, Or.inr (Or.inl ⟨((inRb_iff (by omega)).mp c_3), inB_f c_6, PM_th hH hMM0⟩)⟩
    · skip
      replace c_6 := ob_n.mp c_6
      refine lv_iconst (v := nI 0) hx hb dX7_count_24 (by decide +kernel) ?_
      refine lv_goto (tgt := 29) hx hb dX7_count_25 (by decide) ?_
      refine x_callV C hH hS (ci := 8) (t := (10, 0, 0)) hM rfl rfl (m_goes l (E := E) (base := base) hMM0 (k := 0) (by omega)) hH kX7_goesWell qw_768 (ws_p (List.mem_of_getElem? (i := 19) rfl) rfl) qw_766  rfl [] rfl hl.1 (Nat.le_of_ble_eq_true rfl) ⟨Nat.le_of_ble_eq_true rfl, Nat.le_of_ble_eq_true rfl⟩ dX7_count_29 ⟨Nat.le_of_ble_eq_true rfl, Nat.le_of_ble_eq_true rfl⟩ (fun r_11 H locs hp_10 hS => ?_)
      obtain ⟨rfl, hH⟩ := hp_10
      have hMM1 := hMM0.goes (nI 0)
      have hMMx := hMM1
      obtain ⟨hM, mm3, mm4, mm6, mm7, mm8, mm9, mm11, mm12, mm13, mm14, mm15, mm16, mm17, mm18⟩ := hMMx
      refine lv_re (y := nI 1) rfl ?_
      obtain ⟨p, hp9, rfl⟩ := (inRb_iff (by omega)).mp c_3
      obtain ⟨k, hk9, rfl⟩ := rg_of (n := 5) (by omega) (inB_t c_6)
      refine lv_if_ne (tgt := 37) hx hb dX7_count_32 (by decide) (fun c_12 => ?_) (fun c_12 => absurd c_12 (by decide +kernel))
      clear c_12
      refine lv_iconst (v := nI 0) hx hb dX7_count_37 (by decide +kernel) ?_
      refine lv_istore (lv' := [(4, .int (nI 0)), (3, .int (ob (inRb (nI p) np))), (0, .ref (al (10, 0, 0))), (1, .int (nI p)), (2, .int (nI k))]) hx hb dX7_count_38 hl (by decide) rfl (fun ls hl => ?_)
      refine lv_iconst (v := nI 0) hx hb dX7_count_40 (by decide +kernel) ?_
      refine lv_istore (lv' := [(5, .int (nI 0)), (4, .int (nI 0)), (3, .int (ob (inRb (nI p) np))), (0, .ref (al (10, 0, 0))), (1, .int (nI p)), (2, .int (nI k))]) hx hb dX7_count_41 hl (by decide) rfl (fun ls hl => ?_)
      have lp43 : ∀ (i : Nat), i ≤ na → ∀ (y : Nat) (H : Heap) (locs : List Loc) (ls : Array Slot), y = cSt sg rc p i → xH E base al (xu w (10, 0, 0) (.inr (8, [.int (nI 0), .int (nI nw), .int (nI nf), .ref (al (10, 3, 0)), .ref (al (10, 4, 0)), .int (nI np), .ref (al (10, 6, 0)), .ref (al (10, 7, 0)), .ref (al (10, 8, 0)), .ref (al (10, 9, 0)), .int (nI na), .ref (al (10, 11, 0)), .ref (al (10, 12, 0)), .ref (al (10, 13, 0)), .ref (al (10, 14, 0)), .ref (al (10, 15, 0)), .ref (al (10, 16, 0)), .ref (al (10, 17, 0)), .ref (al (10, 18, 0))]))) H → va_S (xA base) s.heap H locs → lv_has ls 6 [(5, .int (nI i)), (4, .int (nI y)), (3, .int (ob (inRb (nI p) np))), (2, .int (nI k)), (1, .int (nI p)), (0, .ref (al (10, 0, 0)))] → W p9 l e9 ({ frames := 2, cells := 0, slots := 0, locals := 43 } : Room) s m9 ([.ref (al (10, 0, 0)), .int (nI p), .int (nI k)] : List Value).toArray below meth c9 H locs 0 0 Q (F0 m9 43 ls []) := by
        refine lp_up ?_
        intro i hii ih43 y H locs ls hy hH hS hl
        have hy9 := cSt_le (sg := sg) (rc := rc) (p := p) i
        refine lv_iload hx hb dX7_count_43 (lv_at hl 0 rfl) ?_
        refine lv_aload_n hx hb dX7_count_45 rfl (lv_at hl 5 rfl) ?_
        refine x_get C hH (ci := 8) (T := TX7) (N := 19) hM rfl iWX7 10 (by decide) qw_706 rfl rfl dX7_count_46 ?_
        refine lv_icmp_ge (tgt := 89) hx hb dX7_count_49 (by decide) (fun c_13 => ?_) (fun c_13 => ?_)
        · skip
          replace c_13 := (nI_leI (by omega) (by omega)).mp c_13
          refine lv_iload_n hx hb dX7_count_89 rfl (lv_at hl 3 rfl) ?_
          refine lv_iconst (v := nI 5) hx hb dX7_count_90 (by decide +kernel) ?_
          refine lv_icmp_ne (tgt := 99) hx hb dX7_count_91 (by decide) (fun c_14 => ?_) (fun c_14 => ?_)
          · skip
            replace c_14 := mt (nI_eq (by omega) (by omega)).mpr c_14
            refine lv_aload_n hx hb dX7_count_99 rfl (lv_at hl 5 rfl) ?_
            refine x_get C hH (ci := 8) (T := TX7) (N := 19) hM rfl iWX7 17 (by decide) qw_713 rfl rfl dX7_count_100 ?_
            refine lv_bipush (v := nI 6) hx hb dX7_count_103 (by decide +kernel) ?_
            refine lv_iload_n hx hb dX7_count_105 rfl (lv_at hl 4 rfl) ?_
            refine lv_imul hx hb dX7_count_106 ?_
            refine lv_re (pk_mul _ _) ?_
            refine lv_iload_n hx hb dX7_count_107 rfl (lv_at hl 3 rfl) ?_
            refine lv_iadd hx hb dX7_count_108 ?_
            refine lv_re (nI_add _ _) ?_
            refine x_iald C hH mm17 (j := 6 * p + k) rfl (by omega) (by omega) dX7_count_109 ?_
            refine lv_re (y := sg 13 p k) (by show sg 13 ((6 * p + k) / 6) ((6 * p + k) % 6) = _; rw [show (6 * p + k) / 6 = p by omega, show (6 * p + k) % 6 = k by omega]) ?_
            rw [← hQ]
            refine x_reti C rfl hS (Nat.le_of_ble_eq_true rfl) (Nat.le_of_ble_eq_true rfl) dX7_count_110 ?_
            rw [hpost]
            have e8 : i = na := by omega
            subst e8
            exact ⟨⟨_, rfl⟩, Or.inr (Or.inr ⟨p, k, hp9, hk9, rfl, rfl, by rw [if_neg c_14], PM_of hH hMM1 (fun t ht => by rw [xu_ne (fun e => ht (by rw [e]))])⟩)⟩
          · skip
            replace c_14 := (nI_eq (by omega) (by omega)).mp c_14
            refine lv_iload hx hb dX7_count_94 (lv_at hl 1 rfl) ?_
            refine lv_goto (tgt := 110) hx hb dX7_count_96 (by decide) ?_
            rw [← hQ]
            refine x_reti C rfl hS (Nat.le_of_ble_eq_true rfl) (Nat.le_of_ble_eq_true rfl) dX7_count_110 ?_
            rw [hpost]
            have e8 : i = na := by omega
            subst e8
            exact ⟨⟨_, rfl⟩, Or.inr (Or.inr ⟨p, k, hp9, hk9, rfl, rfl, by rw [if_pos c_14, hy], PM_of hH hMM1 (fun t ht => by rw [xu_ne (fun e => ht (by rw [e]))])⟩)⟩
        · skip
          replace c_13 := mt (nI_leI (by omega) (by omega)).mpr c_13
          refine lv_iload hx hb dX7_count_52 (lv_at hl 1 rfl) ?_
          refine lv_aload_n hx hb dX7_count_54 rfl (lv_at hl 5 rfl) ?_
          refine x_get C hH (ci := 8) (T := TX7) (N := 19) hM rfl iWX7 11 (by decide) qw_707 rfl rfl dX7_count_55 ?_
          refine lv_iload hx hb dX7_count_58 (lv_at hl 0 rfl) ?_
          refine x_iald C hH mm11 (j := i) rfl (by omega) (by omega) dX7_count_60 ?_
          refine lv_iload_n hx hb dX7_count_61 rfl (lv_at hl 4 rfl) ?_
          refine lv_icmp_ne (tgt := 79) hx hb dX7_count_62 (by decide) (fun c_15 => ?_) (fun c_15 => ?_)
          · skip
            refine lv_iconst (v := nI 0) hx hb dX7_count_79 (by decide +kernel) ?_
            refine lv_iadd hx hb dX7_count_80 ?_
            refine lv_re (nI_add _ _) ?_
            refine lv_istore (lv' := [(4, .int (nI (y + 0))), (5, .int (nI i)), (3, .int (ob (inRb (nI p) np))), (2, .int (nI k)), (1, .int (nI p)), (0, .ref (al (10, 0, 0)))]) hx hb dX7_count_81 hl (by decide) rfl (fun ls hl => ?_)
            refine lv_iinc (v := nI (i + 1)) (lv' := [(5, .int (nI (i + 1))), (4, .int (nI (y + 0))), (3, .int (ob (inRb (nI p) np))), (2, .int (nI k)), (1, .int (nI p)), (0, .ref (al (10, 0, 0)))]) hx hb dX7_count_83 hl (k := 1) rfl (nI_1 _) (by decide) rfl (fun ls hl => ?_)
            refine lv_goto (tgt := 43) hx hb dX7_count_86 (by decide) ?_
            exact ih43 (by omega) (y + 0) _ _ _ (by rw [hy]; show _ = cSt sg rc p i + (if (!rc i && decide (sg 7 i 0 = nI p)) = true then 1 else 0); rw [decide_eq_false c_15]; simp) hH hS (lv_sub hl [0, 1, 2, 3, 4, 5] rfl)
          · skip
            refine lv_aload_n hx hb dX7_count_65 rfl (lv_at hl 5 rfl) ?_
            refine x_get C hH (ci := 8) (T := TX7) (N := 19) hM rfl iWX7 16 (by decide) qw_712 rfl rfl dX7_count_66 ?_
            refine lv_iload hx hb dX7_count_69 (lv_at hl 0 rfl) ?_
            refine x_zald C hH mm16 (j := i) rfl (by omega) (by omega) dX7_count_71 ?_
            refine lv_if_ne (tgt := 79) hx hb dX7_count_72 (by decide) (fun c_16 => ?_) (fun c_16 => ?_)
            · skip
              replace c_16 := ob_n.mp c_16
              refine lv_iconst (v := nI 0) hx hb dX7_count_79 (by decide +kernel) ?_
              refine lv_iadd hx hb dX7_count_80 ?_
              refine lv_re (nI_add _ _) ?_
              refine lv_istore (lv' := [(4, .int (nI (y + 0))), (5, .int (nI i)), (3, .int (ob (inRb (nI p) np))), (2, .int (nI k)), (1, .int (nI p)), (0, .ref (al (10, 0, 0)))]) hx hb dX7_count_81 hl (by decide) rfl (fun ls hl => ?_)
              refine lv_iinc (v := nI (i + 1)) (lv' := [(5, .int (nI (i + 1))), (4, .int (nI (y + 0))), (3, .int (ob (inRb (nI p) np))), (2, .int (nI k)), (1, .int (nI p)), (0, .ref (al (10, 0, 0)))]) hx hb dX7_count_83 hl (k := 1) rfl (nI_1 _) (by decide) rfl (fun ls hl => ?_)
              refine lv_goto (tgt := 43) hx hb dX7_count_86 (by decide) ?_
              exact ih43 (by omega) (y + 0) _ _ _ (by rw [hy]; show _ = cSt sg rc p i + (if (!rc i && decide (sg 7 i 0 = nI p)) = true then 1 else 0); rw [c_16, decide_eq_true c_15]; simp) hH hS (lv_sub hl [0, 1, 2, 3, 4, 5] rfl)
            · skip
              replace c_16 := ob_0.mp c_16
              refine lv_iconst (v := nI 1) hx hb dX7_count_75 (by decide +kernel) ?_
              refine lv_goto (tgt := 80) hx hb dX7_count_76 (by decide) ?_
              refine lv_iadd hx hb dX7_count_80 ?_
              refine lv_re (nI_add _ _) ?_
              refine lv_istore (lv' := [(4, .int (nI (y + 1))), (5, .int (nI i)), (3, .int (ob (inRb (nI p) np))), (2, .int (nI k)), (1, .int (nI p)), (0, .ref (al (10, 0, 0)))]) hx hb dX7_count_81 hl (by decide) rfl (fun ls hl => ?_)
              refine lv_iinc (v := nI (i + 1)) (lv' := [(5, .int (nI (i + 1))), (4, .int (nI (y + 1))), (3, .int (ob (inRb (nI p) np))), (2, .int (nI k)), (1, .int (nI p)), (0, .ref (al (10, 0, 0)))]) hx hb dX7_count_83 hl (k := 1) rfl (nI_1 _) (by decide) rfl (fun ls hl => ?_)
              refine lv_goto (tgt := 43) hx hb dX7_count_86 (by decide) ?_
              exact ih43 (by omega) (y + 1) _ _ _ (by rw [hy]; show _ = cSt sg rc p i + (if (!rc i && decide (sg 7 i 0 = nI p)) = true then 1 else 0); rw [c_16, decide_eq_true c_15]; simp) hH hS (lv_sub hl [0, 1, 2, 3, 4, 5] rfl)
      exact lp43 0 (Nat.zero_le _) 0 _ _ _ rfl hH hS (lv_sub hl [0, 1, 2, 5, 4, 3] rfl)
  · skip
    replace c_3 := ob_0.mp c_3
    refine lv_iconst (v := nI 1) hx hb dX7_count_11 (by decide +kernel) ?_
    refine lv_goto (tgt := 29) hx hb dX7_count_12 (by decide) ?_
    refine x_callV C hH hS (ci := 8) (t := (10, 0, 0)) hM rfl rfl (m_goes l (E := E) (base := base) hMM0 (k := 1) (by omega)) hH kX7_goesWell qw_768 (ws_p (List.mem_of_getElem? (i := 19) rfl) rfl) qw_766  rfl [] rfl hl.1 (Nat.le_of_ble_eq_true rfl) ⟨Nat.le_of_ble_eq_true rfl, Nat.le_of_ble_eq_true rfl⟩ dX7_count_29 ⟨Nat.le_of_ble_eq_true rfl, Nat.le_of_ble_eq_true rfl⟩ (fun r_18 H locs hp_17 hS => ?_)
    obtain ⟨rfl, hH⟩ := hp_17
    have hMM1 := hMM0.goes (nI 1)
    have hMMx := hMM1
    obtain ⟨hM, mm3, mm4, mm6, mm7, mm8, mm9, mm11, mm12, mm13, mm14, mm15, mm16, mm17, mm18⟩ := hMMx
    refine lv_re (y := nI 0) rfl ?_
    refine lv_if_ne (tgt := 37) hx hb dX7_count_32 (by decide) (fun c_19 => absurd (by decide +kernel) c_19) (fun c_19 => ?_)
    clear c_19
    refine lv_iconst (v := nI 0) hx hb dX7_count_35 (by decide +kernel) ?_
    rw [← hQ]
    refine x_reti C rfl hS (Nat.le_of_ble_eq_true rfl) (Nat.le_of_ble_eq_true rfl) dX7_count_36 ?_
    rw [hpost]
    exact ⟨⟨_, rfl⟩, Or.inl ⟨(fun q => by rw [(inRb_iff (by omega)).mpr q] at c_3; cases c_3), PM_th hH hMM0⟩⟩
