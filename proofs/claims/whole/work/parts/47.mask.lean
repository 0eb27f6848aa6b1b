theorem Qok_sml {nf : Nat} {x bit : Int32} (h : nf ≤ 16) (hq : Qok nf x bit) : sml nf x := by
  obtain ⟨⟨a, b⟩, -⟩ := hq
  rw [q_sh nf h] at b
  obtain ⟨k, hk⟩ : ∃ k, 2 ^ nf = k + 1 := ⟨2 ^ nf - 1, by have := Nat.two_pow_pos nf; omega⟩
  have h2 : 2 ^ nf ≤ 2 ^ 16 := Nat.pow_le_pow_right (by decide) h
  rw [hk, dI_sub, dI_s] at b
  rw [hk] at h2
  obtain ⟨j, hj, rfl⟩ := nI_of (x := x) (fun q => Int32.lt_irrefl (Int32.lt_of_lt_of_le q (Int32.le_trans (by decide : (0 : Int32) ≤ nI 1) a)))
  have b' := (nI_leI hj (by omega)).mp b
  exact sml_of (by omega)
theorem rkP_p {sg : Nat → Nat → Nat → Int32} {rc : Nat → Bool} {f p na : Nat} (hp : p < 2 ^ 31) : bsum (rkP (u3 sg 4 p f (nI 0)) rc f (nI p)) na = bsum (prc sg rc p f) na := by
  refine bsum_cong _ fun a _ => ?_
  unfold rkP prc
  rw [u3_k (by decide), u3_k (by decide), decide_eq_false (p := nI p = -1) (fun q => nI_pos hp (by rw [q]; decide)), Bool.false_or]
  cases rc a <;> cases bt (sg 8 a 0) f <;> simp
theorem rcK_p {sg : Nat → Nat → Nat → Int32} {rc : Nat → Bool} {f p na : Nat} (hp : p < 2 ^ 31) : rcK (u3 sg 4 p f (nI 0)) rc f (nI p) na = rcI sg rc p f na := by
  funext a
  unfold rcK rcI
  rw [u3_k (by decide), u3_k (by decide), decide_eq_false (p := nI p = -1) (fun q => nI_pos hp (by rw [q]; decide)), Bool.false_or, Bool.and_comm (bt _ _)]
theorem ag_u {sg s0 : Nat → Nat → Nat → Int32} {na p nw k : Nat} {z bit s v : Int32} (hs : ∀ k, 7 ≤ k → k ≤ 11 → s0 k = sg k) (h1 : 7 ≤ k) (h2 : k ≤ 11) (hv : (if k = 7 then nI p else if k = 8 then z else if k = 9 then bit else if k = 10 then s else nI nw) = v) : (fun a => ansg sg na p z bit s nw k a 0) = upd (fun a => s0 k a 0) na v := by
  funext a
  show (if (7 ≤ k ∧ k ≤ 11) ∧ a = na ∧ 0 = 0 then _ else sg k a 0) = if a = na then v else s0 k a 0
  rw [hs k h1 h2]
  by_cases e : a = na
  · rw [if_pos ⟨⟨h1, h2⟩, e, rfl⟩, if_pos e]; exact hv
  · rw [if_neg (fun q => e q.2.1), if_neg e]
theorem MMf.told {E : xE} {al : Tg → Nat} {w : Tg → Option va_E} {th : Int32} {nf np na nw p : Nat} {sg s0 : Nat → Nat → Nat → Int32} {rc : Nat → Bool} {fr : Nat → Int32} {z bit s : Int32} (h : MMf E al w th nf np na nw sg rc fr) (hs : ∀ k, 7 ≤ k → k ≤ 11 → s0 k = sg k) : MMf E al (xu (xu (xu (xu (xu (xu w (10, 11, 0) (.inl (E.2.1 0, 150, .inl (upd (fun a => s0 7 a 0) na (nI p))))) (10, 12, 0) (.inl (E.2.1 0, 150, .inl (upd (fun a => s0 8 a 0) na z)))) (10, 13, 0) (.inl (E.2.1 0, 150, .inl (upd (fun a => s0 9 a 0) na bit)))) (10, 14, 0) (.inl (E.2.1 0, 150, .inl (upd (fun a => s0 10 a 0) na s)))) (10, 15, 0) (.inl (E.2.1 0, 150, .inl (upd (fun a => s0 11 a 0) na (nI nw))))) (10, 0, 0) (.inr (8, [.int th, .int (nI nw), .int (nI nf), .ref (al (10, 3, 0)), .ref (al (10, 4, 0)), .int (nI np), .ref (al (10, 6, 0)), .ref (al (10, 7, 0)), .ref (al (10, 8, 0)), .ref (al (10, 9, 0)), .int (nI (na + 1)), .ref (al (10, 11, 0)), .ref (al (10, 12, 0)), .ref (al (10, 13, 0)), .ref (al (10, 14, 0)), .ref (al (10, 15, 0)), .ref (al (10, 16, 0)), .ref (al (10, 17, 0)), .ref (al (10, 18, 0))]))) th nf np (na + 1) nw (ansg sg na p z bit s nw) rc fr := by
  obtain ⟨hM, mm3, mm4, mm6, mm7, mm8, mm9, mm11, mm12, mm13, mm14, mm15, mm16, mm17, mm18⟩ := h
  exact ⟨xu_self _ _ _, (by rw [ag_k (k := 1) (by omega)]; exact (xu_of (by simp) (xu_of (by simp) (xu_of (by simp) (xu_of (by simp) (xu_of (by simp) (xu_of (by simp) mm3))))))), (by rw [ag_k (k := 2) (by omega)]; exact (xu_of (by simp) (xu_of (by simp) (xu_of (by simp) (xu_of (by simp) (xu_of (by simp) (xu_of (by simp) mm4))))))), (by rw [ag_k (k := 3) (by omega)]; exact (xu_of (by simp) (xu_of (by simp) (xu_of (by simp) (xu_of (by simp) (xu_of (by simp) (xu_of (by simp) mm6))))))), (by rw [ag_k (k := 4) (by omega)]; exact (xu_of (by simp) (xu_of (by simp) (xu_of (by simp) (xu_of (by simp) (xu_of (by simp) (xu_of (by simp) mm7))))))), (by rw [ag_k (k := 5) (by omega)]; exact (xu_of (by simp) (xu_of (by simp) (xu_of (by simp) (xu_of (by simp) (xu_of (by simp) (xu_of (by simp) mm8))))))), (by rw [ag_k (k := 6) (by omega)]; exact (xu_of (by simp) (xu_of (by simp) (xu_of (by simp) (xu_of (by simp) (xu_of (by simp) (xu_of (by simp) mm9))))))), (by rw [show (fun a => ansg sg na p z bit s nw 7 a 0) = upd (fun a => s0 7 a 0) na (nI p) from ag_u hs (by omega) (by omega) rfl]; exact (xu_of (by simp) (xu_of (by simp) (xu_of (by simp) (xu_of (by simp) (xu_of (by simp) (xu_self _ _ _))))))), (by rw [show (fun a => ansg sg na p z bit s nw 8 a 0) = upd (fun a => s0 8 a 0) na z from ag_u hs (by omega) (by omega) rfl]; exact (xu_of (by simp) (xu_of (by simp) (xu_of (by simp) (xu_of (by simp) (xu_self _ _ _)))))), (by rw [show (fun a => ansg sg na p z bit s nw 9 a 0) = upd (fun a => s0 9 a 0) na bit from ag_u hs (by omega) (by omega) rfl]; exact (xu_of (by simp) (xu_of (by simp) (xu_of (by simp) (xu_self _ _ _))))), (by rw [show (fun a => ansg sg na p z bit s nw 10 a 0) = upd (fun a => s0 10 a 0) na s from ag_u hs (by omega) (by omega) rfl]; exact (xu_of (by simp) (xu_of (by simp) (xu_self _ _ _)))), (by rw [show (fun a => ansg sg na p z bit s nw 11 a 0) = upd (fun a => s0 11 a 0) na (nI nw) from ag_u hs (by omega) (by omega) rfl]; exact (xu_of (by simp) (xu_self _ _ _))), (xu_of (by simp) (xu_of (by simp) (xu_of (by simp) (xu_of (by simp) (xu_of (by simp) (xu_of (by simp) mm16)))))), (by rw [ag_k (k := 13) (by omega)]; exact (xu_of (by simp) (xu_of (by simp) (xu_of (by simp) (xu_of (by simp) (xu_of (by simp) (xu_of (by simp) mm17))))))), (xu_of (by simp) (xu_of (by simp) (xu_of (by simp) (xu_of (by simp) (xu_of (by simp) (xu_of (by simp) mm18))))))⟩
set_option maxHeartbeats 4000000 in
set_option maxRecDepth 100000 in
theorem m_right (l : Launch) {E : xE} {base : Nat} {al : Tg → Nat} {w : Tg → Option va_E} {th : Int32} {nf np na nw : Nat} {sg : Nat → Nat → Nat → Int32} {rc : Nat → Bool} {fr : Nat → Int32} (hMM : MMf E al w th nf np na nw sg rc fr) (hI : INV nf np na nw sg rc) {x y k a b : Int32} : xMet l yX7_right cX7_right 8 none ({ frames := 2, cells := 0, slots := 0, locals := 43 } : Room) E base [.ref (al (10, 0, 0)), .int x, .int y, .int k, .int a, .int b] (fun H => xH E base al w H) (fun r H => (r = none) ∧ ((¬ (inR x np ∧ inR y nf) ∧ PM E base al w (nI 1) nf np na nw sg rc H) ∨ ((inR x np ∧ inR y nf) ∧ ¬ ((nI 1 ≤ k ∧ k ≤ nI 2) ∧ (nI 0 ≤ a ∧ a ≤ nI 5000) ∧ (a ≤ b ∧ b ≤ nI 5000)) ∧ PM E base al w (nI 2) nf np na nw sg rc H) ∨ (∃ p f, p < np ∧ f < nf ∧ x = nI p ∧ y = nI f ∧ ((nI 1 ≤ k ∧ k ≤ nI 2) ∧ (nI 0 ≤ a ∧ a ≤ nI 5000) ∧ (a ≤ b ∧ b ≤ nI 5000)) ∧ r = none ∧ PM E base al w (nI 0) nf np na nw (u3 (u3 (u3 sg 4 p f k) 5 p f a) 6 p f b) rc H))) := by
  refine xMet.of (by decide +kernel) "DataroomModel" rfl (Nat.le_of_ble_eq_true rfl) ?_
  intro p9 e9 s m9 below meth c9 ls C hin hP hS hl
  have hx := C.hx
  have hb := C.hb
  have hH := hP
  have hl : lv_has ls 8 [(0, .ref (al (10, 0, 0))), (1, .int x), (2, .int y), (3, .int k), (4, .int a), (5, .int b)] := hl
  obtain ⟨post, hpost⟩ : ∃ zz9 : Option Value → Heap → Prop, zz9 = (fun r H => (r = none) ∧ ((¬ (inR x np ∧ inR y nf) ∧ PM E base al w (nI 1) nf np na nw sg rc H) ∨ ((inR x np ∧ inR y nf) ∧ ¬ ((nI 1 ≤ k ∧ k ≤ nI 2) ∧ (nI 0 ≤ a ∧ a ≤ nI 5000) ∧ (a ≤ b ∧ b ≤ nI 5000)) ∧ PM E base al w (nI 2) nf np na nw sg rc H) ∨ (∃ p f, p < np ∧ f < nf ∧ x = nI p ∧ y = nI f ∧ ((nI 1 ≤ k ∧ k ≤ nI 2) ∧ (nI 0 ≤ a ∧ a ≤ nI 5000) ∧ (a ≤ b ∧ b ≤ nI 5000)) ∧ r = none ∧ PM E base al w (nI 0) nf np na nw (u3 (u3 (u3 sg 4 p f k) 5 p f a) 6 p f b) rc H))) := ⟨_, rfl⟩
  rw [← hpost]
  generalize hQ : (MQ below (xQ base post) ([.ref (al (10, 0, 0)), .int x, .int y, .int k, .int a, .int b] : List Value).toArray s 0 0 (xA base)) = Q
  have hMM0 := hMM
  obtain ⟨hM, mm3, mm4, mm6, mm7, mm8, mm9, mm11, mm12, mm13, mm14, mm15, mm16, mm17, mm18⟩ := hMM
  have hI0 := hI
  obtain ⟨v16, v6, v150, vnow, vA, vS, vP, vK, vR⟩ := hI
  refine lv_aload_n hx hb dX7_right_0 rfl (lv_at hl 0 rfl) ?_
  refine lv_iload_n hx hb dX7_right_1 rfl (lv_at hl 1 rfl) ?_
  refine x_callV C hH hS (ci := 8) (t := (10, 0, 0)) hM rfl rfl (m_isParty l (E := E) (base := base) hMM0 (x := x)) hH kX7_isParty qw_792 (ws_p (List.mem_of_getElem? (i := 22) rfl) rfl) qw_790  rfl [] rfl hl.1 (Nat.le_of_ble_eq_true rfl) ⟨Nat.le_of_ble_eq_true rfl, Nat.le_of_ble_eq_true rfl⟩ dX7_right_2 ⟨Nat.le_of_ble_eq_true rfl, Nat.le_of_ble_eq_true rfl⟩ (fun r_2 H locs hp_1 hS => ?_)
  obtain ⟨rfl, hH⟩ := hp_1
  refine lv_if_eq (tgt := 20) hx hb dX7_right_5 (by decide) (fun c_3 => ?_) (fun c_3 => ?_)
  · skip
    replace c_3 := ob_0.mp c_3
    refine lv_iconst (v := nI 0) hx hb dX7_right_20 (by decide +kernel) ?_
    refine lv_istore (lv' := [(6, .int (nI 0)), (0, .ref (al (10, 0, 0))), (1, .int x), (2, .int y), (3, .int k), (4, .int a), (5, .int b)]) hx hb dX7_right_21 hl (by decide) rfl (fun ls hl => ?_)
    refine lv_iload_n hx hb dX7_right_23 rfl (lv_at hl 4 rfl) ?_
    refine lv_iconst (v := nI 1) hx hb dX7_right_24 (by decide +kernel) ?_
    refine lv_iconst (v := nI 2) hx hb dX7_right_25 (by decide +kernel) ?_
    refine x_callS C hS (m_in l (E := E) (base := base) (al := al) (w := w) (v := k) (a := nI 1) (b := nI 2)) hH kX7_in qw_764 qw_763  rfl [] rfl hl.1 (Nat.le_of_ble_eq_true rfl) ⟨Nat.le_of_ble_eq_true rfl, Nat.le_of_ble_eq_true rfl⟩ dX7_right_26 ⟨Nat.le_of_ble_eq_true rfl, Nat.le_of_ble_eq_true rfl⟩ (fun r_5 H locs hp_4 hS => ?_)
    obtain ⟨rfl, hH⟩ := hp_4
    refine lv_if_eq (tgt := 61) hx hb dX7_right_29 (by decide) (fun c_6 => ?_) (fun c_6 => ?_)
    · skip
      replace c_6 := ob_0.mp c_6
      refine lv_iconst (v := nI 0) hx hb dX7_right_61 (by decide +kernel) ?_
      refine lv_istore (lv' := [(7, .int (nI 0)), (6, .int (nI 0)), (0, .ref (al (10, 0, 0))), (1, .int x), (2, .int y), (3, .int k), (4, .int a), (5, .int b)]) hx hb dX7_right_62 hl (by decide) rfl (fun ls hl => ?_)
      refine lv_aload_n hx hb dX7_right_64 rfl (lv_at hl 2 rfl) ?_
      refine lv_iload hx hb dX7_right_65 (lv_at hl 1 rfl) ?_
      refine lv_if_ne (tgt := 74) hx hb dX7_right_67 (by decide) (fun c_7 => absurd (by decide +kernel) c_7) (fun c_7 => ?_)
      clear c_7
      refine lv_iconst (v := nI 1) hx hb dX7_right_70 (by decide +kernel) ?_
      refine lv_goto (tgt := 84) hx hb dX7_right_71 (by decide) ?_
      refine x_callV C hH hS (ci := 8) (t := (10, 0, 0)) hM rfl rfl (m_goes l (E := E) (base := base) hMM0 (k := 1) (by omega)) hH kX7_goesWell qw_768 (ws_p (List.mem_of_getElem? (i := 19) rfl) rfl) qw_766  rfl [] rfl hl.1 (Nat.le_of_ble_eq_true rfl) ⟨Nat.le_of_ble_eq_true rfl, Nat.le_of_ble_eq_true rfl⟩ dX7_right_84 ⟨Nat.le_of_ble_eq_true rfl, Nat.le_of_ble_eq_true rfl⟩ (fun r_9 H locs hp_8 hS => ?_)
      obtain ⟨rfl, hH⟩ := hp_8
      have hMM1 := hMM0.goes (nI 1)
      have hMMx := hMM1
      obtain ⟨hM, mm3, mm4, mm6, mm7, mm8, mm9, mm11, mm12, mm13, mm14, mm15, mm16, mm17, mm18⟩ := hMMx
      refine lv_re (y := nI 0) rfl ?_
      refine lv_if_eq (tgt := 128) hx hb dX7_right_87 (by decide) (fun c_10 => ?_) (fun c_10 => absurd (by decide +kernel) c_10)
      clear c_10
      rw [← hQ]
      refine x_retv C hS (Nat.le_of_ble_eq_true rfl) (Nat.le_of_ble_eq_true rfl) dX7_right_128 ?_
      rw [hpost]
      exact ⟨rfl, Or.inl ⟨(fun q => by rw [(inRb_iff (by omega)).mpr q.1] at c_3; cases c_3), PM_th hH hMM0⟩⟩
    · skip
      replace c_6 := ob_n.mp c_6
      refine lv_iload hx hb dX7_right_32 (lv_at hl 5 rfl) ?_
      refine lv_iconst (v := nI 0) hx hb dX7_right_34 (by decide +kernel) ?_
      refine lv_sipush (v := nI 5000) hx hb dX7_right_35 (by decide +kernel) ?_
      refine x_callS C hS (m_in l (E := E) (base := base) (al := al) (w := w) (v := a) (a := nI 0) (b := nI 5000)) hH kX7_in qw_764 qw_763  rfl [] rfl hl.1 (Nat.le_of_ble_eq_true rfl) ⟨Nat.le_of_ble_eq_true rfl, Nat.le_of_ble_eq_true rfl⟩ dX7_right_38 ⟨Nat.le_of_ble_eq_true rfl, Nat.le_of_ble_eq_true rfl⟩ (fun r_12 H locs hp_11 hS => ?_)
      obtain ⟨rfl, hH⟩ := hp_11
      refine lv_if_eq (tgt := 61) hx hb dX7_right_41 (by decide) (fun c_13 => ?_) (fun c_13 => ?_)
      · skip
        replace c_13 := ob_0.mp c_13
        refine lv_iconst (v := nI 0) hx hb dX7_right_61 (by decide +kernel) ?_
        refine lv_istore (lv' := [(7, .int (nI 0)), (6, .int (nI 0)), (0, .ref (al (10, 0, 0))), (1, .int x), (2, .int y), (3, .int k), (4, .int a), (5, .int b)]) hx hb dX7_right_62 hl (by decide) rfl (fun ls hl => ?_)
        refine lv_aload_n hx hb dX7_right_64 rfl (lv_at hl 2 rfl) ?_
        refine lv_iload hx hb dX7_right_65 (lv_at hl 1 rfl) ?_
        refine lv_if_ne (tgt := 74) hx hb dX7_right_67 (by decide) (fun c_14 => absurd (by decide +kernel) c_14) (fun c_14 => ?_)
        clear c_14
        refine lv_iconst (v := nI 1) hx hb dX7_right_70 (by decide +kernel) ?_
        refine lv_goto (tgt := 84) hx hb dX7_right_71 (by decide) ?_
        refine x_callV C hH hS (ci := 8) (t := (10, 0, 0)) hM rfl rfl (m_goes l (E := E) (base := base) hMM0 (k := 1) (by omega)) hH kX7_goesWell qw_768 (ws_p (List.mem_of_getElem? (i := 19) rfl) rfl) qw_766  rfl [] rfl hl.1 (Nat.le_of_ble_eq_true rfl) ⟨Nat.le_of_ble_eq_true rfl, Nat.le_of_ble_eq_true rfl⟩ dX7_right_84 ⟨Nat.le_of_ble_eq_true rfl, Nat.le_of_ble_eq_true rfl⟩ (fun r_16 H locs hp_15 hS => ?_)
        obtain ⟨rfl, hH⟩ := hp_15
        have hMM1 := hMM0.goes (nI 1)
        have hMMx := hMM1
        obtain ⟨hM, mm3, mm4, mm6, mm7, mm8, mm9, mm11, mm12, mm13, mm14, mm15, mm16, mm17, mm18⟩ := hMMx
        refine lv_re (y := nI 0) rfl ?_
        refine lv_if_eq (tgt := 128) hx hb dX7_right_87 (by decide) (fun c_17 => ?_) (fun c_17 => absurd (by decide +kernel) c_17)
        clear c_17
        rw [← hQ]
        refine x_retv C hS (Nat.le_of_ble_eq_true rfl) (Nat.le_of_ble_eq_true rfl) dX7_right_128 ?_
        rw [hpost]
        exact ⟨rfl, Or.inl ⟨(fun q => by rw [(inRb_iff (by omega)).mpr q.1] at c_3; cases c_3), PM_th hH hMM0⟩⟩
      · skip
        replace c_13 := ob_n.mp c_13
        refine lv_iload hx hb dX7_right_44 (lv_at hl 6 rfl) ?_
        refine lv_iload hx hb dX7_right_46 (lv_at hl 5 rfl) ?_
        refine lv_sipush (v := nI 5000) hx hb dX7_right_48 (by decide +kernel) ?_
        refine x_callS C hS (m_in l (E := E) (base := base) (al := al) (w := w) (v := b) (a := a) (b := nI 5000)) hH kX7_in qw_764 qw_763  rfl [] rfl hl.1 (Nat.le_of_ble_eq_true rfl) ⟨Nat.le_of_ble_eq_true rfl, Nat.le_of_ble_eq_true rfl⟩ dX7_right_51 ⟨Nat.le_of_ble_eq_true rfl, Nat.le_of_ble_eq_true rfl⟩ (fun r_19 H locs hp_18 hS => ?_)
        obtain ⟨rfl, hH⟩ := hp_18
        refine lv_if_eq (tgt := 61) hx hb dX7_right_54 (by decide) (fun c_20 => ?_) (fun c_20 => ?_)
        · skip
          replace c_20 := ob_0.mp c_20
          refine lv_iconst (v := nI 0) hx hb dX7_right_61 (by decide +kernel) ?_
          refine lv_istore (lv' := [(7, .int (nI 0)), (6, .int (nI 0)), (0, .ref (al (10, 0, 0))), (1, .int x), (2, .int y), (3, .int k), (4, .int a), (5, .int b)]) hx hb dX7_right_62 hl (by decide) rfl (fun ls hl => ?_)
          refine lv_aload_n hx hb dX7_right_64 rfl (lv_at hl 2 rfl) ?_
          refine lv_iload hx hb dX7_right_65 (lv_at hl 1 rfl) ?_
          refine lv_if_ne (tgt := 74) hx hb dX7_right_67 (by decide) (fun c_21 => absurd (by decide +kernel) c_21) (fun c_21 => ?_)
          clear c_21
          refine lv_iconst (v := nI 1) hx hb dX7_right_70 (by decide +kernel) ?_
          refine lv_goto (tgt := 84) hx hb dX7_right_71 (by decide) ?_
          refine x_callV C hH hS (ci := 8) (t := (10, 0, 0)) hM rfl rfl (m_goes l (E := E) (base := base) hMM0 (k := 1) (by omega)) hH kX7_goesWell qw_768 (ws_p (List.mem_of_getElem? (i := 19) rfl) rfl) qw_766  rfl [] rfl hl.1 (Nat.le_of_ble_eq_true rfl) ⟨Nat.le_of_ble_eq_true rfl, Nat.le_of_ble_eq_true rfl⟩ dX7_right_84 ⟨Nat.le_of_ble_eq_true rfl, Nat.le_of_ble_eq_true rfl⟩ (fun r_23 H locs hp_22 hS => ?_)
          obtain ⟨rfl, hH⟩ := hp_22
          have hMM1 := hMM0.goes (nI 1)
          have hMMx := hMM1
          obtain ⟨hM, mm3, mm4, mm6, mm7, mm8, mm9, mm11, mm12, mm13, mm14, mm15, mm16, mm17, mm18⟩ := hMMx
          refine lv_re (y := nI 0) rfl ?_
          refine lv_if_eq (tgt := 128) hx hb dX7_right_87 (by decide) (fun c_24 => ?_) (fun c_24 => absurd (by decide +kernel) c_24)
          clear c_24
          rw [← hQ]
          refine x_retv C hS (Nat.le_of_ble_eq_true rfl) (Nat.le_of_ble_eq_true rfl) dX7_right_128 ?_
          rw [hpost]
          exact ⟨rfl, Or.inl ⟨(fun q => by rw [(inRb_iff (by omega)).mpr q.1] at c_3; cases c_3), PM_th hH hMM0⟩⟩
        · skip
          replace c_20 := ob_n.mp c_20
          refine lv_iconst (v := nI 1) hx hb dX7_right_57 (by decide +kernel) ?_
          refine lv_goto (tgt := 62) hx hb dX7_right_58 (by decide) ?_
          refine lv_istore (lv' := [(7, .int (nI 1)), (6, .int (nI 0)), (0, .ref (al (10, 0, 0))), (1, .int x), (2, .int y), (3, .int k), (4, .int a), (5, .int b)]) hx hb dX7_right_62 hl (by decide) rfl (fun ls hl => ?_)
          refine lv_aload_n hx hb dX7_right_64 rfl (lv_at hl 2 rfl) ?_
          refine lv_iload hx hb dX7_right_65 (lv_at hl 1 rfl) ?_
          refine lv_if_ne (tgt := 74) hx hb dX7_right_67 (by decide) (fun c_25 => absurd (by decide +kernel) c_25) (fun c_25 => ?_)
          clear c_25
          refine lv_iconst (v := nI 1) hx hb dX7_right_70 (by decide +kernel) ?_
          refine lv_goto (tgt := 84) hx hb dX7_right_71 (by decide) ?_
          refine x_callV C hH hS (ci := 8) (t := (10, 0, 0)) hM rfl rfl (m_goes l (E := E) (base := base) hMM0 (k := 1) (by omega)) hH kX7_goesWell qw_768 (ws_p (List.mem_of_getElem? (i := 19) rfl) rfl) qw_766  rfl [] rfl hl.1 (Nat.le_of_ble_eq_true rfl) ⟨Nat.le_of_ble_eq_true rfl, Nat.le_of_ble_eq_true rfl⟩ dX7_right_84 ⟨Nat.le_of_ble_eq_true rfl, Nat.le_of_ble_eq_true rfl⟩ (fun r_27 H locs hp_26 hS => ?_)
          obtain ⟨rfl, hH⟩ := hp_26
          have hMM1 := hMM0.goes (nI 1)
          have hMMx := hMM1
          obtain ⟨hM, mm3, mm4, mm6, mm7, mm8, mm9, mm11, mm12, mm13, mm14, mm15, mm16, mm17, mm18⟩ := hMMx
          refine lv_re (y := nI 0) rfl ?_
          refine lv_if_eq (tgt := 128) hx hb dX7_right_87 (by decide) (fun c_28 => ?_) (fun c_28 => absurd (by decide +kernel) c_28)
          clear c_28
          rw [← hQ]
          refine x_retv C hS (Nat.le_of_ble_eq_true rfl) (Nat.le_of_ble_eq_true rfl) dX7_right_128 ?_
          rw [hpost]
          exact ⟨rfl, Or.inl ⟨(fun q => by rw [(inRb_iff (by omega)).mpr q.1] at c_3; cases c_3), PM_th hH hMM0⟩⟩
  · skip
    replace c_3 := ob_n.mp c_3
    refine lv_aload_n hx hb dX7_right_8 rfl (lv_at hl 0 rfl) ?_
    refine lv_iload_n hx hb dX7_right_9 rfl (lv_at hl 2 rfl) ?_
    refine x_callV C hH hS (ci := 8) (t := (10, 0, 0)) hM rfl rfl (m_isFile l (E := E) (base := base) hMM0 (x := y)) hH kX7_isFile qw_776 (ws_p (List.mem_of_getElem? (i := 20) rfl) rfl) qw_774  rfl [] rfl hl.1 (Nat.le_of_ble_eq_true rfl) ⟨Nat.le_of_ble_eq_true rfl, Nat.le_of_ble_eq_true rfl⟩ dX7_right_10 ⟨Nat.le_of_ble_eq_true rfl, Nat.le_of_ble_eq_true rfl⟩ (fun r_30 H locs hp_29 hS => ?_)
    obtain ⟨rfl, hH⟩ := hp_29
    refine lv_if_eq (tgt := 20) hx hb dX7_right_13 (by decide) (fun c_31 => ?_) (fun c_31 => ?_)
    · skip
      replace c_31 := ob_0.mp c_31
      refine lv_iconst (v := nI 0) hx hb dX7_right_20 (by decide +kernel) ?_
      refine lv_istore (lv' := [(6, .int (nI 0)), (0, .ref (al (10, 0, 0))), (1, .int x), (2, .int y), (3, .int k), (4, .int a), (5, .int b)]) hx hb dX7_right_21 hl (by decide) rfl (fun ls hl => ?_)
      refine lv_iload_n hx hb dX7_right_23 rfl (lv_at hl 4 rfl) ?_
      refine lv_iconst (v := nI 1) hx hb dX7_right_24 (by decide +kernel) ?_
      refine lv_iconst (v := nI 2) hx hb dX7_right_25 (by decide +kernel) ?_
      refine x_callS C hS (m_in l (E := E) (base := base) (al := al) (w := w) (v := k) (a := nI 1) (b := nI 2)) hH kX7_in qw_764 qw_763  rfl [] rfl hl.1 (Nat.le_of_ble_eq_true rfl) ⟨Nat.le_of_ble_eq_true rfl, Nat.le_of_ble_eq_true rfl⟩ dX7_right_26 ⟨Nat.le_of_ble_eq_true rfl, Nat.le_of_ble_eq_true rfl⟩ (fun r_33 H locs hp_32 hS => ?_)
      obtain ⟨rfl, hH⟩ := hp_32
      refine lv_if_eq (tgt := 61) hx hb dX7_right_29 (by decide) (fun c_34 => ?_) (fun c_34 => ?_)
      · skip
        replace c_34 := ob_0.mp c_34
        refine lv_iconst (v := nI 0) hx hb dX7_right_61 (by decide +kernel) ?_
        refine lv_istore (lv' := [(7, .int (nI 0)), (6, .int (nI 0)), (0, .ref (al (10, 0, 0))), (1, .int x), (2, .int y), (3, .int k), (4, .int a), (5, .int b)]) hx hb dX7_right_62 hl (by decide) rfl (fun ls hl => ?_)
        refine lv_aload_n hx hb dX7_right_64 rfl (lv_at hl 2 rfl) ?_
        refine lv_iload hx hb dX7_right_65 (lv_at hl 1 rfl) ?_
        refine lv_if_ne (tgt := 74) hx hb dX7_right_67 (by decide) (fun c_35 => absurd (by decide +kernel) c_35) (fun c_35 => ?_)
        clear c_35
        refine lv_iconst (v := nI 1) hx hb dX7_right_70 (by decide +kernel) ?_
        refine lv_goto (tgt := 84) hx hb dX7_right_71 (by decide) ?_
        refine x_callV C hH hS (ci := 8) (t := (10, 0, 0)) hM rfl rfl (m_goes l (E := E) (base := base) hMM0 (k := 1) (by omega)) hH kX7_goesWell qw_768 (ws_p (List.mem_of_getElem? (i := 19) rfl) rfl) qw_766  rfl [] rfl hl.1 (Nat.le_of_ble_eq_true rfl) ⟨Nat.le_of_ble_eq_true rfl, Nat.le_of_ble_eq_true rfl⟩ dX7_right_84 ⟨Nat.le_of_ble_eq_true rfl, Nat.le_of_ble_eq_true rfl⟩ (fun r_37 H locs hp_36 hS => ?_)
        obtain ⟨rfl, hH⟩ := hp_36
        have hMM1 := hMM0.goes (nI 1)
        have hMMx := hMM1
        obtain ⟨hM, mm3, mm4, mm6, mm7, mm8, mm9, mm11, mm12, mm13, mm14, mm15, mm16, mm17, mm18⟩ := hMMx
        refine lv_re (y := nI 0) rfl ?_
        refine lv_if_eq (tgt := 128) hx hb dX7_right_87 (by decide) (fun c_38 => ?_) (fun c_38 => absurd (by decide +kernel) c_38)
        clear c_38
        rw [← hQ]
        refine x_retv C hS (Nat.le_of_ble_eq_true rfl) (Nat.le_of_ble_eq_true rfl) dX7_right_128 ?_
        rw [hpost]
        exact ⟨rfl, Or.inl ⟨(fun q => by rw [(inRb_iff (by omega)).mpr q.2] at c_31; cases c_31), PM_th hH hMM0⟩⟩
      · skip
        replace c_34 := ob_n.mp c_34
        refine lv_iload hx hb dX7_right_32 (lv_at hl 5 rfl) ?_
        refine lv_iconst (v := nI 0) hx hb dX7_right_34 (by decide +kernel) ?_
        refine lv_sipush (v := nI 5000) hx hb dX7_right_35 (by decide +kernel) ?_
        refine x_callS C hS (m_in l (E := E) (base := base) (al := al) (w := w) (v := a) (a := nI 0) (b := nI 5000)) hH kX7_in qw_764 qw_763  rfl [] rfl hl.1 (Nat.le_of_ble_eq_true rfl) ⟨Nat.le_of_ble_eq_true rfl, Nat.le_of_ble_eq_true rfl⟩ dX7_right_38 ⟨Nat.le_of_ble_eq_true rfl, Nat.le_of_ble_eq_true rfl⟩ (fun r_40 H locs hp_39 hS => ?_)
        obtain ⟨rfl, hH⟩ := hp_39
        refine lv_if_eq (tgt := 61) hx hb dX7_right_41 (by decide) (fun c_41 => ?_) (fun c_41 => ?_)
        · skip
          replace c_41 := ob_0.mp c_41
          refine lv_iconst (v := nI 0) hx hb dX7_right_61 (by decide +kernel) ?_
          refine lv_istore (lv' := [(7, .int (nI 0)), (6, .int (nI 0)), (0, .ref (al (10, 0, 0))), (1, .int x), (2, .int y), (3, .int k), (4, .int a), (5, .int b)]) hx hb dX7_right_62 hl (by decide) rfl (fun ls hl => ?_)
          refine lv_aload_n hx hb dX7_right_64 rfl (lv_at hl 2 rfl) ?_
          refine lv_iload hx hb dX7_right_65 (lv_at hl 1 rfl) ?_
          refine lv_if_ne (tgt := 74) hx hb dX7_right_67 (by decide) (fun c_42 => absurd (by decide +kernel) c_42) (fun c_42 => ?_)
          clear c_42
          refine lv_iconst (v := nI 1) hx hb dX7_right_70 (by decide +kernel) ?_
          refine lv_goto (tgt := 84) hx hb dX7_right_71 (by decide) ?_
          refine x_callV C hH hS (ci := 8) (t := (10, 0, 0)) hM rfl rfl (m_goes l (E := E) (base := base) hMM0 (k := 1) (by omega)) hH kX7_goesWell qw_768 (ws_p (List.mem_of_getElem? (i := 19) rfl) rfl) qw_766  rfl [] rfl hl.1 (Nat.le_of_ble_eq_true rfl) ⟨Nat.le_of_ble_eq_true rfl, Nat.le_of_ble_eq_true rfl⟩ dX7_right_84 ⟨Nat.le_of_ble_eq_true rfl, Nat.le_of_ble_eq_true rfl⟩ (fun r_44 H locs hp_43 hS => ?_)
          obtain ⟨rfl, hH⟩ := hp_43
          have hMM1 := hMM0.goes (nI 1)
          have hMMx := hMM1
          obtain ⟨hM, mm3, mm4, mm6, mm7, mm8, mm9, mm11, mm12, mm13, mm14, mm15, mm16, mm17, mm18⟩ := hMMx
          refine lv_re (y := nI 0) rfl ?_
          refine lv_if_eq (tgt := 128) hx hb dX7_right_87 (by decide) (fun c_45 => ?_) (fun c_45 => absurd (by decide +kernel) c_45)
          clear c_45
          rw [← hQ]
          refine x_retv C hS (Nat.le_of_ble_eq_true rfl) (Nat.le_of_ble_eq_true rfl) dX7_right_128 ?_
          rw [hpost]
          exact ⟨rfl, Or.inl ⟨(fun q => by rw [(inRb_iff (by omega)).mpr q.2] at c_31; cases c_31), PM_th hH hMM0⟩⟩
        · skip
          replace c_41 := ob_n.mp c_41
          refine lv_iload hx hb dX7_right_44 (lv_at hl 6 rfl) ?_
          refine lv_iload hx hb dX7_right_46 (lv_at hl 5 rfl) ?_
          refine lv_sipush (v := nI 5000) hx hb dX7_right_48 (by decide +kernel) ?_
          refine x_callS C hS (m_in l (E := E) (base := base) (al := al) (w := w) (v := b) (a := a) (b := nI 5000)) hH kX7_in qw_764 qw_763  rfl [] rfl hl.1 (Nat.le_of_ble_eq_true rfl) ⟨Nat.le_of_ble_eq_true rfl, Nat.le_of_ble_eq_true rfl⟩ dX7_right_51 ⟨Nat.le_of_ble_eq_true rfl, Nat.le_of_ble_eq_true rfl⟩ (fun r_47 H locs hp_46 hS => ?_)
          obtain ⟨rfl, hH⟩ := hp_46
          refine lv_if_eq (tgt := 61) hx hb dX7_right_54 (by decide) (fun c_48 => ?_) (fun c_48 => ?_)
          · skip
            replace c_48 := ob_0.mp c_48
            refine lv_iconst (v := nI 0) hx hb dX7_right_61 (by decide +kernel) ?_
            refine lv_istore (lv' := [(7, .int (nI 0)), (6, .int (nI 0)), (0, .ref (al (10, 0, 0))), (1, .int x), (2, .int y), (3, .int k), (4, .int a), (5, .int b)]) hx hb dX7_right_62 hl (by decide) rfl (fun ls hl => ?_)
            refine lv_aload_n hx hb dX7_right_64 rfl (lv_at hl 2 rfl) ?_
            refine lv_iload hx hb dX7_right_65 (lv_at hl 1 rfl) ?_
            refine lv_if_ne (tgt := 74) hx hb dX7_right_67 (by decide) (fun c_49 => absurd (by decide +kernel) c_49) (fun c_49 => ?_)
            clear c_49
            refine lv_iconst (v := nI 1) hx hb dX7_right_70 (by decide +kernel) ?_
            refine lv_goto (tgt := 84) hx hb dX7_right_71 (by decide) ?_
            refine x_callV C hH hS (ci := 8) (t := (10, 0, 0)) hM rfl rfl (m_goes l (E := E) (base := base) hMM0 (k := 1) (by omega)) hH kX7_goesWell qw_768 (ws_p (List.mem_of_getElem? (i := 19) rfl) rfl) qw_766  rfl [] rfl hl.1 (Nat.le_of_ble_eq_true rfl) ⟨Nat.le_of_ble_eq_true rfl, Nat.le_of_ble_eq_true rfl⟩ dX7_right_84 ⟨Nat.le_of_ble_eq_true rfl, Nat.le_of_ble_eq_true rfl⟩ (fun r_51 H locs hp_50 hS => ?_)
            obtain ⟨rfl, hH⟩ := hp_50
            have hMM1 := hMM0.goes (nI 1)
            have hMMx := hMM1
            obtain ⟨hM, mm3, mm4, mm6, mm7, mm8, mm9, mm11, mm12, mm13, mm14, mm15, mm16, mm17, mm18⟩ := hMMx
            refine lv_re (y := nI 0) rfl ?_
            refine lv_if_eq (tgt := 128) hx hb dX7_right_87 (by decide) (fun c_52 => ?_) (fun c_52 => absurd (by decide +kernel) c_52)
            clear c_52
            rw [← hQ]
            refine x_retv C hS (Nat.le_of_ble_eq_true rfl) (Nat.le_of_ble_eq_true rfl) dX7_right_128 ?_
            rw [hpost]
            exact ⟨rfl, Or.inl ⟨(fun q => by rw [(inRb_iff (by omega)).mpr q.2] at c_31; cases c_31), PM_th hH hMM0⟩⟩
          · skip
            replace c_48 := ob_n.mp c_48
            refine lv_iconst (v := nI 1) hx hb dX7_right_57 (by decide +kernel) ?_
            refine lv_goto (tgt := 62) hx hb dX7_right_58 (by decide) ?_
            refine lv_istore (lv' := [(7, .int (nI 1)), (6, .int (nI 0)), (0, .ref (al (10, 0, 0))), (1, .int x), (2, .int y), (3, .int k), (4, .int a), (5, .int b)]) hx hb dX7_right_62 hl (by decide) rfl (fun ls hl => ?_)
            refine lv_aload_n hx hb dX7_right_64 rfl (lv_at hl 2 rfl) ?_
            refine lv_iload hx hb dX7_right_65 (lv_at hl 1 rfl) ?_
            refine lv_if_ne (tgt := 74) hx hb dX7_right_67 (by decide) (fun c_53 => absurd (by decide +kernel) c_53) (fun c_53 => ?_)
            clear c_53
            refine lv_iconst (v := nI 1) hx hb dX7_right_70 (by decide +kernel) ?_
            refine lv_goto (tgt := 84) hx hb dX7_right_71 (by decide) ?_
            refine x_callV C hH hS (ci := 8) (t := (10, 0, 0)) hM rfl rfl (m_goes l (E := E) (base := base) hMM0 (k := 1) (by omega)) hH kX7_goesWell qw_768 (ws_p (List.mem_of_getElem? (i := 19) rfl) rfl) qw_766  rfl [] rfl hl.1 (Nat.le_of_ble_eq_true rfl) ⟨Nat.le_of_ble_eq_true rfl, Nat.le_of_ble_eq_true rfl⟩ dX7_right_84 ⟨Nat.le_of_ble_eq_true rfl, Nat.le_of_ble_eq_true rfl⟩ (fun r_55 H locs hp_54 hS => ?_)
            obtain ⟨rfl, hH⟩ := hp_54
            have hMM1 := hMM0.goes (nI 1)
            have hMMx := hMM1
            obtain ⟨hM, mm3, mm4, mm6, mm7, mm8, mm9, mm11, mm12, mm13, mm14, mm15, mm16, mm17, mm18⟩ := hMMx
            refine lv_re (y := nI 0) rfl ?_
            refine lv_if_eq (tgt := 128) hx hb dX7_right_87 (by decide) (fun c_56 => ?_) (fun c_56 => absurd (by decide +kernel) c_56)
            clear c_56
            rw [← hQ]
            refine x_retv C hS (Nat.le_of_ble_eq_true rfl) (Nat.le_of_ble_eq_true rfl) dX7_right_128 ?_
            rw [hpost]
            exact ⟨rfl, Or.inl ⟨(fun q => by rw [(inRb_iff (by omega)).mpr q.2] at c_31; cases c_31), PM_th hH hMM0⟩⟩
    · skip
      replace c_31 := ob_n.mp c_31
      refine lv_iconst (v := nI 1) hx hb dX7_right_16 (by decide +kernel) ?_
      refine lv_goto (tgt := 21) hx hb dX7_right_17 (by decide) ?_
      refine lv_istore (lv' := [(6, .int (nI 1)), (0, .ref (al (10, 0, 0))), (1, .int x), (2, .int y), (3, .int k), (4, .int a), (5, .int b)]) hx hb dX7_right_21 hl (by decide) rfl (fun ls hl => ?_)
      refine lv_iload_n hx hb dX7_right_23 rfl (lv_at hl 4 rfl) ?_
      refine lv_iconst (v := nI 1) hx hb dX7_right_24 (by decide +kernel) ?_
      refine lv_iconst (v := nI 2) hx hb dX7_right_25 (by decide +kernel) ?_
      refine x_callS C hS (m_in l (E := E) (base := base) (al := al) (w := w) (v := k) (a := nI 1) (b := nI 2)) hH kX7_in qw_764 qw_763  rfl [] rfl hl.1 (Nat.le_of_ble_eq_true rfl) ⟨Nat.le_of_ble_eq_true rfl, Nat.le_of_ble_eq_true rfl⟩ dX7_right_26 ⟨Nat.le_of_ble_eq_true rfl, Nat.le_of_ble_eq_true rfl⟩ (fun r_58 H locs hp_57 hS => ?_)
      obtain ⟨rfl, hH⟩ := hp_57
      refine lv_if_eq (tgt := 61) hx hb dX7_right_29 (by decide) (fun c_59 => ?_) (fun c_59 => ?_)
      · skip
        replace c_59 := ob_0.mp c_59
        refine lv_iconst (v := nI 0) hx hb dX7_right_61 (by decide +kernel) ?_
        refine lv_istore (lv' := [(7, .int (nI 0)), (6, .int (nI 1)), (0, .ref (al (10, 0, 0))), (1, .int x), (2, .int y), (3, .int k), (4, .int a), (5, .int b)]) hx hb dX7_right_62 hl (by decide) rfl (fun ls hl => ?_)
        refine lv_aload_n hx hb dX7_right_64 rfl (lv_at hl 2 rfl) ?_
        refine lv_iload hx hb dX7_right_65 (lv_at hl 1 rfl) ?_
        refine lv_if_ne (tgt := 74) hx hb dX7_right_67 (by decide) (fun c_60 => ?_) (fun c_60 => absurd c_60 (by decide +kernel))
        clear c_60
        refine lv_iload hx hb dX7_right_74 (lv_at hl 0 rfl) ?_
        refine lv_if_eq (tgt := 83) hx hb dX7_right_76 (by decide) (fun c_61 => ?_) (fun c_61 => absurd (by decide +kernel) c_61)
        clear c_61
        refine lv_iconst (v := nI 2) hx hb dX7_right_83 (by decide +kernel) ?_
        refine x_callV C hH hS (ci := 8) (t := (10, 0, 0)) hM rfl rfl (m_goes l (E := E) (base := base) hMM0 (k := 2) (by omega)) hH kX7_goesWell qw_768 (ws_p (List.mem_of_getElem? (i := 19) rfl) rfl) qw_766  rfl [] rfl hl.1 (Nat.le_of_ble_eq_true rfl) ⟨Nat.le_of_ble_eq_true rfl, Nat.le_of_ble_eq_true rfl⟩ dX7_right_84 ⟨Nat.le_of_ble_eq_true rfl, Nat.le_of_ble_eq_true rfl⟩ (fun r_63 H locs hp_62 hS => ?_)
        obtain ⟨rfl, hH⟩ := hp_62
        have hMM1 := hMM0.goes (nI 2)
        have hMMx := hMM1
        obtain ⟨hM, mm3, mm4, mm6, mm7, mm8, mm9, mm11, mm12, mm13, mm14, mm15, mm16, mm17, mm18⟩ := hMMx
        refine lv_re (y := nI 0) rfl ?_
        refine lv_if_eq (tgt := 128) hx hb dX7_right_87 (by decide) (fun c_64 => ?_) (fun c_64 => absurd (by decide +kernel) c_64)
        clear c_64
        rw [← hQ]
        refine x_retv C hS (Nat.le_of_ble_eq_true rfl) (Nat.le_of_ble_eq_true rfl) dX7_right_128 ?_
        rw [hpost]
        exact ⟨rfl, Or.inr (Or.inl ⟨⟨((inRb_iff (by omega)).mp c_3), ((inRb_iff (by omega)).mp c_31)⟩, (fun q => inB_f c_59 q.1), PM_th hH hMM0⟩)⟩
      · skip
        replace c_59 := ob_n.mp c_59
        refine lv_iload hx hb dX7_right_32 (lv_at hl 5 rfl) ?_
        refine lv_iconst (v := nI 0) hx hb dX7_right_34 (by decide +kernel) ?_
        refine lv_sipush (v := nI 5000) hx hb dX7_right_35 (by decide +kernel) ?_
        refine x_callS C hS (m_in l (E := E) (base := base) (al := al) (w := w) (v := a) (a := nI 0) (b := nI 5000)) hH kX7_in qw_764 qw_763  rfl [] rfl hl.1 (Nat.le_of_ble_eq_true rfl) ⟨Nat.le_of_ble_eq_true rfl, Nat.le_of_ble_eq_true rfl⟩ dX7_right_38 ⟨Nat.le_of_ble_eq_true rfl, Nat.le_of_ble_eq_true rfl⟩ (fun r_66 H locs hp_65 hS => ?_)
        obtain ⟨rfl, hH⟩ := hp_65
        refine lv_if_eq (tgt := 61) hx hb dX7_right_41 (by decide) (fun c_67 => ?_) (fun c_67 => ?_)
        · skip
          replace c_67 := ob_0.mp c_67
          refine lv_iconst (v := nI 0) hx hb dX7_right_61 (by decide +kernel) ?_
          refine lv_istore (lv' := [(7, .int (nI 0)), (6, .int (nI 1)), (0, .ref (al (10, 0, 0))), (1, .int x), (2, .int y), (3, .int k), (4, .int a), (5, .int b)]) hx hb dX7_right_62 hl (by decide) rfl (fun ls hl => ?_)
          refine lv_aload_n hx hb dX7_right_64 rfl (lv_at hl 2 rfl) ?_
          refine lv_iload hx hb dX7_right_65 (lv_at hl 1 rfl) ?_
          refine lv_if_ne (tgt := 74) hx hb dX7_right_67 (by decide) (fun c_68 => ?_) (fun c_68 => absurd c_68 (by decide +kernel))
          clear c_68
          refine lv_iload hx hb dX7_right_74 (lv_at hl 0 rfl) ?_
          refine lv_if_eq (tgt := 83) hx hb dX7_right_76 (by decide) (fun c_69 => ?_) (fun c_69 => absurd (by decide +kernel) c_69)
          clear c_69
          refine lv_iconst (v := nI 2) hx hb dX7_right_83 (by decide +kernel) ?_
          refine x_callV C hH hS (ci := 8) (t := (10, 0, 0)) hM rfl rfl (m_goes l (E := E) (base := base) hMM0 (k := 2) (by omega)) hH kX7_goesWell qw_768 (ws_p (List.mem_of_getElem? (i := 19) rfl) rfl) qw_766  rfl [] rfl hl.1 (Nat.le_of_ble_eq_true rfl) ⟨Nat.le_of_ble_eq_true rfl, Nat.le_of_ble_eq_true rfl⟩ dX7_right_84 ⟨Nat.le_of_ble_eq_true rfl, Nat.le_of_ble_eq_true rfl⟩ (fun r_71 H locs hp_70 hS => ?_)
          obtain ⟨rfl, hH⟩ := hp_70
          have hMM1 := hMM0.goes (nI 2)
          have hMMx := hMM1
          obtain ⟨hM, mm3, mm4, mm6, mm7, mm8, mm9, mm11, mm12, mm13, mm14, mm15, mm16, mm17, mm18⟩ := hMMx
          refine lv_re (y := nI 0) rfl ?_
          refine lv_if_eq (tgt := 128) hx hb dX7_right_87 (by decide) (fun c_72 => ?_) (fun c_72 => absurd (by decide +kernel) c_72)
          clear c_72
          rw [← hQ]
          refine x_retv C hS (Nat.le_of_ble_eq_true rfl) (Nat.le_of_ble_eq_true rfl) dX7_right_128 ?_
          rw [hpost]
          exact ⟨rfl, Or.inr (Or.inl ⟨⟨((inRb_iff (by omega)).mp c_3), ((inRb_iff (by omega)).mp c_31)⟩, (fun q => inB_f c_67 q.2.1), PM_th hH hMM0⟩)⟩
        · skip
          replace c_67 := ob_n.mp c_67
          refine lv_iload hx hb dX7_right_44 (lv_at hl 6 rfl) ?_
          refine lv_iload hx hb dX7_right_46 (lv_at hl 5 rfl) ?_
          refine lv_sipush (v := nI 5000) hx hb dX7_right_48 (by decide +kernel) ?_
          refine x_callS C hS (m_in l (E := E) (base := base) (al := al) (w := w) (v := b) (a := a) (b := nI 5000)) hH kX7_in qw_764 qw_763  rfl [] rfl hl.1 (Nat.le_of_ble_eq_true rfl) ⟨Nat.le_of_ble_eq_true rfl, Nat.le_of_ble_eq_true rfl⟩ dX7_right_51 ⟨Nat.le_of_ble_eq_true rfl, Nat.le_of_ble_eq_true rfl⟩ (fun r_74 H locs hp_73 hS => ?_)
          obtain ⟨rfl, hH⟩ := hp_73
          refine lv_if_eq (tgt := 61) hx hb dX7_right_54 (by decide) (fun c_75 => ?_) (fun c_75 => ?_)
          · skip
            replace c_75 := ob_0.mp c_75
            refine lv_iconst (v := nI 0) hx hb dX7_right_61 (by decide +kernel) ?_
            refine lv_istore (lv' := [(7, .int (nI 0)), (6, .int (nI 1)), (0, .ref (al (10, 0, 0))), (1, .int x), (2, .int y), (3, .int k), (4, .int a), (5, .int b)]) hx hb dX7_right_62 hl (by decide) rfl (fun ls hl => ?_)
            refine lv_aload_n hx hb dX7_right_64 rfl (lv_at hl 2 rfl) ?_
            refine lv_iload hx hb dX7_right_65 (lv_at hl 1 rfl) ?_
            refine lv_if_ne (tgt := 74) hx hb dX7_right_67 (by decide) (fun c_76 => ?_) (fun c_76 => absurd c_76 (by decide +kernel))
            clear c_76
            refine lv_iload hx hb dX7_right_74 (lv_at hl 0 rfl) ?_
            refine lv_if_eq (tgt := 83) hx hb dX7_right_76 (by decide) (fun c_77 => ?_) (fun c_77 => absurd (by decide +kernel) c_77)
            clear c_77
            refine lv_iconst (v := nI 2) hx hb dX7_right_83 (by decide +kernel) ?_
            refine x_callV C hH hS (ci := 8) (t := (10, 0, 0)) hM rfl rfl (m_goes l (E := E) (base := base) hMM0 (k := 2) (by omega)) hH kX7_goesWell qw_768 (ws_p (List.mem_of_getElem? (i := 19) rfl) rfl) qw_766  rfl [] rfl hl.1 (Nat.le_of_ble_eq_true rfl) ⟨Nat.le_of_ble_eq_true rfl, Nat.le_of_ble_eq_true rfl⟩ dX7_right_84 ⟨Nat.le_of_ble_eq_true rfl, Nat.le_of_ble_eq_true rfl⟩ (fun r_79 H locs hp_78 hS => ?_)
            obtain ⟨rfl, hH⟩ := hp_78
            have hMM1 := hMM0.goes (nI 2)
            have hMMx := hMM1
            obtain ⟨hM, mm3, mm4, mm6, mm7, mm8, mm9, mm11, mm12, mm13, mm14, mm15, mm16, mm17, mm18⟩ := hMMx
            refine lv_re (y := nI 0) rfl ?_
            refine lv_if_eq (tgt := 128) hx hb dX7_right_87 (by decide) (fun c_80 => ?_) (fun c_80 => absurd (by decide +kernel) c_80)
            clear c_80
            rw [← hQ]
            refine x_retv C hS (Nat.le_of_ble_eq_true rfl) (Nat.le_of_ble_eq_true rfl) dX7_right_128 ?_
            rw [hpost]
            exact ⟨rfl, Or.inr (Or.inl ⟨⟨((inRb_iff (by omega)).mp c_3), ((inRb_iff (by omega)).mp c_31)⟩, (fun q => inB_f c_75 q.2.2), PM_th hH hMM0⟩)⟩
          · skip
            replace c_75 := ob_n.mp c_75
            refine lv_iconst (v := nI 1) hx hb dX7_right_57 (by decide +kernel) ?_
            refine lv_goto (tgt := 62) hx hb dX7_right_58 (by decide) ?_
            refine lv_istore (lv' := [(7, .int (nI 1)), (6, .int (nI 1)), (0, .ref (al (10, 0, 0))), (1, .int x), (2, .int y), (3, .int k), (4, .int a), (5, .int b)]) hx hb dX7_right_62 hl (by decide) rfl (fun ls hl => ?_)
            refine lv_aload_n hx hb dX7_right_64 rfl (lv_at hl 2 rfl) ?_
            refine lv_iload hx hb dX7_right_65 (lv_at hl 1 rfl) ?_
            refine lv_if_ne (tgt := 74) hx hb dX7_right_67 (by decide) (fun c_81 => ?_) (fun c_81 => absurd c_81 (by decide +kernel))
            clear c_81
            refine lv_iload hx hb dX7_right_74 (lv_at hl 0 rfl) ?_
            refine lv_if_eq (tgt := 83) hx hb dX7_right_76 (by decide) (fun c_82 => absurd c_82 (by decide +kernel)) (fun c_82 => ?_)
            clear c_82
            refine lv_iconst (v := nI 0) hx hb dX7_right_79 (by decide +kernel) ?_
            refine lv_goto (tgt := 84) hx hb dX7_right_80 (by decide) ?_
            refine x_callV C hH hS (ci := 8) (t := (10, 0, 0)) hM rfl rfl (m_goes l (E := E) (base := base) hMM0 (k := 0) (by omega)) hH kX7_goesWell qw_768 (ws_p (List.mem_of_getElem? (i := 19) rfl) rfl) qw_766  rfl [] rfl hl.1 (Nat.le_of_ble_eq_true rfl) ⟨Nat.le_of_ble_eq_true rfl, Nat.le_of_ble_eq_true rfl⟩ dX7_right_84 ⟨Nat.le_of_ble_eq_true rfl, Nat.le_of_ble_eq_true rfl⟩ (fun r_84 H locs hp_83 hS => ?_)
            obtain ⟨rfl, hH⟩ := hp_83
            have hMM1 := hMM0.goes (nI 0)
            have hMMx := hMM1
            obtain ⟨hM, mm3, mm4, mm6, mm7, mm8, mm9, mm11, mm12, mm13, mm14, mm15, mm16, mm17, mm18⟩ := hMMx
            refine lv_re (y := nI 1) rfl ?_
            obtain ⟨p, hp9, rfl⟩ := (inRb_iff (by omega)).mp c_3
            obtain ⟨f, hf9, rfl⟩ := (inRb_iff (by omega)).mp c_31
            refine lv_if_eq (tgt := 128) hx hb dX7_right_87 (by decide) (fun c_85 => absurd c_85 (by decide +kernel)) (fun c_85 => ?_)
            clear c_85
            refine lv_aload_n hx hb dX7_right_90 rfl (lv_at hl 2 rfl) ?_
            refine x_get C hH (ci := 8) (T := TX7) (N := 19) hM rfl iWX7 7 (by decide) qw_703 rfl rfl dX7_right_91 ?_
            refine lv_bipush (v := nI 16) hx hb dX7_right_94 (by decide +kernel) ?_
            refine lv_iload_n hx hb dX7_right_96 rfl (lv_at hl 3 rfl) ?_
            refine lv_imul hx hb dX7_right_97 ?_
            refine lv_re (pk_mul _ _) ?_
            refine lv_iload_n hx hb dX7_right_98 rfl (lv_at hl 4 rfl) ?_
            refine lv_iadd hx hb dX7_right_99 ?_
            refine lv_re (nI_add _ _) ?_
            refine lv_iload_n hx hb dX7_right_100 rfl (lv_at hl 5 rfl) ?_
            refine x_iast C hH hS mm7 (j := 16 * p + f) rfl (by omega) (by omega) dX7_right_101 (fun H locs hH hS => ?_)
            have hM := xu_of (t := (10, 7, 0)) (e := .inl (E.2.1 0, 96, .inl (upd (fun k => sg 4 (k / 16) (k % 16)) (16 * p + f) k))) (by simp) hM
            have mm3 := xu_of (t := (10, 7, 0)) (e := .inl (E.2.1 0, 96, .inl (upd (fun k => sg 4 (k / 16) (k % 16)) (16 * p + f) k))) (by simp) mm3
            have mm4 := xu_of (t := (10, 7, 0)) (e := .inl (E.2.1 0, 96, .inl (upd (fun k => sg 4 (k / 16) (k % 16)) (16 * p + f) k))) (by simp) mm4
            have mm6 := xu_of (t := (10, 7, 0)) (e := .inl (E.2.1 0, 96, .inl (upd (fun k => sg 4 (k / 16) (k % 16)) (16 * p + f) k))) (by simp) mm6
            have mm8 := xu_of (t := (10, 7, 0)) (e := .inl (E.2.1 0, 96, .inl (upd (fun k => sg 4 (k / 16) (k % 16)) (16 * p + f) k))) (by simp) mm8
            have mm9 := xu_of (t := (10, 7, 0)) (e := .inl (E.2.1 0, 96, .inl (upd (fun k => sg 4 (k / 16) (k % 16)) (16 * p + f) k))) (by simp) mm9
            have mm11 := xu_of (t := (10, 7, 0)) (e := .inl (E.2.1 0, 96, .inl (upd (fun k => sg 4 (k / 16) (k % 16)) (16 * p + f) k))) (by simp) mm11
            have mm12 := xu_of (t := (10, 7, 0)) (e := .inl (E.2.1 0, 96, .inl (upd (fun k => sg 4 (k / 16) (k % 16)) (16 * p + f) k))) (by simp) mm12
            have mm13 := xu_of (t := (10, 7, 0)) (e := .inl (E.2.1 0, 96, .inl (upd (fun k => sg 4 (k / 16) (k % 16)) (16 * p + f) k))) (by simp) mm13
            have mm14 := xu_of (t := (10, 7, 0)) (e := .inl (E.2.1 0, 96, .inl (upd (fun k => sg 4 (k / 16) (k % 16)) (16 * p + f) k))) (by simp) mm14
            have mm15 := xu_of (t := (10, 7, 0)) (e := .inl (E.2.1 0, 96, .inl (upd (fun k => sg 4 (k / 16) (k % 16)) (16 * p + f) k))) (by simp) mm15
            have mm16 := xu_of (t := (10, 7, 0)) (e := .inl (E.2.1 0, 96, .inl (upd (fun k => sg 4 (k / 16) (k % 16)) (16 * p + f) k))) (by simp) mm16
            have mm17 := xu_of (t := (10, 7, 0)) (e := .inl (E.2.1 0, 96, .inl (upd (fun k => sg 4 (k / 16) (k % 16)) (16 * p + f) k))) (by simp) mm17
            have mm18 := xu_of (t := (10, 7, 0)) (e := .inl (E.2.1 0, 96, .inl (upd (fun k => sg 4 (k / 16) (k % 16)) (16 * p + f) k))) (by simp) mm18
            have mm7 : (xu (xu w (10, 0, 0) (.inr (8, [.int (nI 0), .int (nI nw), .int (nI nf), .ref (al (10, 3, 0)), .ref (al (10, 4, 0)), .int (nI np), .ref (al (10, 6, 0)), .ref (al (10, 7, 0)), .ref (al (10, 8, 0)), .ref (al (10, 9, 0)), .int (nI na), .ref (al (10, 11, 0)), .ref (al (10, 12, 0)), .ref (al (10, 13, 0)), .ref (al (10, 14, 0)), .ref (al (10, 15, 0)), .ref (al (10, 16, 0)), .ref (al (10, 17, 0)), .ref (al (10, 18, 0))]))) (10, 7, 0) (.inl (E.2.1 0, 96, .inl (upd (fun k => sg 4 (k / 16) (k % 16)) (16 * p + f) k)))) (10, 7, 0) = some (.inl (E.2.1 0, 96, .inl (upd (fun k => sg 4 (k / 16) (k % 16)) (16 * p + f) k))) := xu_self _ _ _
            refine lv_aload_n hx hb dX7_right_102 rfl (lv_at hl 2 rfl) ?_
            refine x_get C hH (ci := 8) (T := TX7) (N := 19) hM rfl iWX7 8 (by decide) qw_704 rfl rfl dX7_right_103 ?_
            refine lv_bipush (v := nI 16) hx hb dX7_right_106 (by decide +kernel) ?_
            refine lv_iload_n hx hb dX7_right_108 rfl (lv_at hl 3 rfl) ?_
            refine lv_imul hx hb dX7_right_109 ?_
            refine lv_re (pk_mul _ _) ?_
            refine lv_iload_n hx hb dX7_right_110 rfl (lv_at hl 4 rfl) ?_
            refine lv_iadd hx hb dX7_right_111 ?_
            refine lv_re (nI_add _ _) ?_
            refine lv_iload hx hb dX7_right_112 (lv_at hl 6 rfl) ?_
            refine x_iast C hH hS mm8 (j := 16 * p + f) rfl (by omega) (by omega) dX7_right_114 (fun H locs hH hS => ?_)
            have hM := xu_of (t := (10, 8, 0)) (e := .inl (E.2.1 0, 96, .inl (upd (fun k => sg 5 (k / 16) (k % 16)) (16 * p + f) a))) (by simp) hM
            have mm3 := xu_of (t := (10, 8, 0)) (e := .inl (E.2.1 0, 96, .inl (upd (fun k => sg 5 (k / 16) (k % 16)) (16 * p + f) a))) (by simp) mm3
            have mm4 := xu_of (t := (10, 8, 0)) (e := .inl (E.2.1 0, 96, .inl (upd (fun k => sg 5 (k / 16) (k % 16)) (16 * p + f) a))) (by simp) mm4
            have mm6 := xu_of (t := (10, 8, 0)) (e := .inl (E.2.1 0, 96, .inl (upd (fun k => sg 5 (k / 16) (k % 16)) (16 * p + f) a))) (by simp) mm6
            have mm7 := xu_of (t := (10, 8, 0)) (e := .inl (E.2.1 0, 96, .inl (upd (fun k => sg 5 (k / 16) (k % 16)) (16 * p + f) a))) (by simp) mm7
            have mm9 := xu_of (t := (10, 8, 0)) (e := .inl (E.2.1 0, 96, .inl (upd (fun k => sg 5 (k / 16) (k % 16)) (16 * p + f) a))) (by simp) mm9
            have mm11 := xu_of (t := (10, 8, 0)) (e := .inl (E.2.1 0, 96, .inl (upd (fun k => sg 5 (k / 16) (k % 16)) (16 * p + f) a))) (by simp) mm11
            have mm12 := xu_of (t := (10, 8, 0)) (e := .inl (E.2.1 0, 96, .inl (upd (fun k => sg 5 (k / 16) (k % 16)) (16 * p + f) a))) (by simp) mm12
            have mm13 := xu_of (t := (10, 8, 0)) (e := .inl (E.2.1 0, 96, .inl (upd (fun k => sg 5 (k / 16) (k % 16)) (16 * p + f) a))) (by simp) mm13
            have mm14 := xu_of (t := (10, 8, 0)) (e := .inl (E.2.1 0, 96, .inl (upd (fun k => sg 5 (k / 16) (k % 16)) (16 * p + f) a))) (by simp) mm14
            have mm15 := xu_of (t := (10, 8, 0)) (e := .inl (E.2.1 0, 96, .inl (upd (fun k => sg 5 (k / 16) (k % 16)) (16 * p + f) a))) (by simp) mm15
            have mm16 := xu_of (t := (10, 8, 0)) (e := .inl (E.2.1 0, 96, .inl (upd (fun k => sg 5 (k / 16) (k % 16)) (16 * p + f) a))) (by simp) mm16
            have mm17 := xu_of (t := (10, 8, 0)) (e := .inl (E.2.1 0, 96, .inl (upd (fun k => sg 5 (k / 16) (k % 16)) (16 * p + f) a))) (by simp) mm17
            have mm18 := xu_of (t := (10, 8, 0)) (e := .inl (E.2.1 0, 96, .inl (upd (fun k => sg 5 (k / 16) (k % 16)) (16 * p + f) a))) (by simp) mm18
            have mm8 : (xu (xu (xu w (10, 0, 0) (.inr (8, [.int (nI 0), .int (nI nw), .int (nI nf), .ref (al (10, 3, 0)), .ref (al (10, 4, 0)), .int (nI np), .ref (al (10, 6, 0)), .ref (al (10, 7, 0)), .ref (al (10, 8, 0)), .ref (al (10, 9, 0)), .int (nI na), .ref (al (10, 11, 0)), .ref (al (10, 12, 0)), .ref (al (10, 13, 0)), .ref (al (10, 14, 0)), .ref (al (10, 15, 0)), .ref (al (10, 16, 0)), .ref (al (10, 17, 0)), .ref (al (10, 18, 0))]))) (10, 7, 0) (.inl (E.2.1 0, 96, .inl (upd (fun k => sg 4 (k / 16) (k % 16)) (16 * p + f) k)))) (10, 8, 0) (.inl (E.2.1 0, 96, .inl (upd (fun k => sg 5 (k / 16) (k % 16)) (16 * p + f) a)))) (10, 8, 0) = some (.inl (E.2.1 0, 96, .inl (upd (fun k => sg 5 (k / 16) (k % 16)) (16 * p + f) a))) := xu_self _ _ _
            refine lv_aload_n hx hb dX7_right_115 rfl (lv_at hl 2 rfl) ?_
            refine x_get C hH (ci := 8) (T := TX7) (N := 19) hM rfl iWX7 9 (by decide) qw_705 rfl rfl dX7_right_116 ?_
            refine lv_bipush (v := nI 16) hx hb dX7_right_119 (by decide +kernel) ?_
            refine lv_iload_n hx hb dX7_right_121 rfl (lv_at hl 3 rfl) ?_
            refine lv_imul hx hb dX7_right_122 ?_
            refine lv_re (pk_mul _ _) ?_
            refine lv_iload_n hx hb dX7_right_123 rfl (lv_at hl 4 rfl) ?_
            refine lv_iadd hx hb dX7_right_124 ?_
            refine lv_re (nI_add _ _) ?_
            refine lv_iload hx hb dX7_right_125 (lv_at hl 7 rfl) ?_
            refine x_iast C hH hS mm9 (j := 16 * p + f) rfl (by omega) (by omega) dX7_right_127 (fun H locs hH hS => ?_)
            have hM := xu_of (t := (10, 9, 0)) (e := .inl (E.2.1 0, 96, .inl (upd (fun k => sg 6 (k / 16) (k % 16)) (16 * p + f) b))) (by simp) hM
            have mm3 := xu_of (t := (10, 9, 0)) (e := .inl (E.2.1 0, 96, .inl (upd (fun k => sg 6 (k / 16) (k % 16)) (16 * p + f) b))) (by simp) mm3
            have mm4 := xu_of (t := (10, 9, 0)) (e := .inl (E.2.1 0, 96, .inl (upd (fun k => sg 6 (k / 16) (k % 16)) (16 * p + f) b))) (by simp) mm4
            have mm6 := xu_of (t := (10, 9, 0)) (e := .inl (E.2.1 0, 96, .inl (upd (fun k => sg 6 (k / 16) (k % 16)) (16 * p + f) b))) (by simp) mm6
            have mm7 := xu_of (t := (10, 9, 0)) (e := .inl (E.2.1 0, 96, .inl (upd (fun k => sg 6 (k / 16) (k % 16)) (16 * p + f) b))) (by simp) mm7
            have mm8 := xu_of (t := (10, 9, 0)) (e := .inl (E.2.1 0, 96, .inl (upd (fun k => sg 6 (k / 16) (k % 16)) (16 * p + f) b))) (by simp) mm8
            have mm11 := xu_of (t := (10, 9, 0)) (e := .inl (E.2.1 0, 96, .inl (upd (fun k => sg 6 (k / 16) (k % 16)) (16 * p + f) b))) (by simp) mm11
            have mm12 := xu_of (t := (10, 9, 0)) (e := .inl (E.2.1 0, 96, .inl (upd (fun k => sg 6 (k / 16) (k % 16)) (16 * p + f) b))) (by simp) mm12
            have mm13 := xu_of (t := (10, 9, 0)) (e := .inl (E.2.1 0, 96, .inl (upd (fun k => sg 6 (k / 16) (k % 16)) (16 * p + f) b))) (by simp) mm13
            have mm14 := xu_of (t := (10, 9, 0)) (e := .inl (E.2.1 0, 96, .inl (upd (fun k => sg 6 (k / 16) (k % 16)) (16 * p + f) b))) (by simp) mm14
            have mm15 := xu_of (t := (10, 9, 0)) (e := .inl (E.2.1 0, 96, .inl (upd (fun k => sg 6 (k / 16) (k % 16)) (16 * p + f) b))) (by simp) mm15
            have mm16 := xu_of (t := (10, 9, 0)) (e := .inl (E.2.1 0, 96, .inl (upd (fun k => sg 6 (k / 16) (k % 16)) (16 * p + f) b))) (by simp) mm16
            have mm17 := xu_of (t := (10, 9, 0)) (e := .inl (E.2.1 0, 96, .inl (upd (fun k => sg 6 (k / 16) (k % 16)) (16 * p + f) b))) (by simp) mm17
            have mm18 := xu_of (t := (10, 9, 0)) (e := .inl (E.2.1 0, 96, .inl (upd (fun k => sg 6 (k / 16) (k % 16)) (16 * p + f) b))) (by simp) mm18
            have mm9 : (xu (xu (xu (xu w (10, 0, 0) (.inr (8, [.int (nI 0), .int (nI nw), .int (nI nf), .ref (al (10, 3, 0)), .ref (al (10, 4, 0)), .int (nI np), .ref (al (10, 6, 0)), .ref (al (10, 7, 0)), .ref (al (10, 8, 0)), .ref (al (10, 9, 0)), .int (nI na), .ref (al (10, 11, 0)), .ref (al (10, 12, 0)), .ref (al (10, 13, 0)), .ref (al (10, 14, 0)), .ref (al (10, 15, 0)), .ref (al (10, 16, 0)), .ref (al (10, 17, 0)), .ref (al (10, 18, 0))]))) (10, 7, 0) (.inl (E.2.1 0, 96, .inl (upd (fun k => sg 4 (k / 16) (k % 16)) (16 * p + f) k)))) (10, 8, 0) (.inl (E.2.1 0, 96, .inl (upd (fun k => sg 5 (k / 16) (k % 16)) (16 * p + f) a)))) (10, 9, 0) (.inl (E.2.1 0, 96, .inl (upd (fun k => sg 6 (k / 16) (k % 16)) (16 * p + f) b)))) (10, 9, 0) = some (.inl (E.2.1 0, 96, .inl (upd (fun k => sg 6 (k / 16) (k % 16)) (16 * p + f) b))) := xu_self _ _ _
            have h6 := ((hMM1.s4 (p := p) (f := f) (y := k) (by omega)).s5 (p := p) (f := f) (y := a) (by omega)).s6 (p := p) (f := f) (y := b) (by omega)
            simp only [u3_k (show (5 : Nat) ≠ 4 by decide), u3_k (show (6 : Nat) ≠ 5 by decide), u3_k (show (6 : Nat) ≠ 4 by decide)] at h6
            rw [← hQ]
            refine x_retv C hS (Nat.le_of_ble_eq_true rfl) (Nat.le_of_ble_eq_true rfl) dX7_right_128 ?_
            rw [hpost]
            exact ⟨rfl, Or.inr (Or.inr ⟨p, f, hp9, hf9, rfl, rfl, ⟨inB_t c_59, inB_t c_67, inB_t c_75⟩, rfl, PM_of hH h6 (fun t ht => by rw [xu_ne (fun e => ht (by rw [e])), xu_ne (fun e => ht (by rw [e])), xu_ne (fun e => ht (by rw [e])), xu_ne (fun e => ht (by rw [e]))])⟩)⟩

set_option maxHeartbeats 4000000 in
set_option maxRecDepth 100000 in
theorem m_takeBack (l : Launch) {E : xE} {base : Nat} {al : Tg → Nat} {w : Tg → Option va_E} {th : Int32} {nf np na nw : Nat} {sg : Nat → Nat → Nat → Int32} {rc : Nat → Bool} {fr : Nat → Int32} (hMM : MMf E al w th nf np na nw sg rc fr) (hI : INV nf np na nw sg rc) {x z : Int32} : xMet l yX7_takeBack cX7_takeBack 4 (some (.int)) ({ frames := 2, cells := 0, slots := 0, locals := 43 } : Room) E base [.ref (al (10, 0, 0)), .int x, .int z] (fun H => xH E base al w H) (fun r H => (∃ v9, r = some (.int v9)) ∧ ((¬ (inR x np ∧ inR z nf) ∧ PM E base al w (nI 1) nf np na nw sg rc H) ∨ (∃ p f, p < np ∧ f < nf ∧ x = nI p ∧ z = nI f ∧ r = some (.int (if sg 4 p f = 0 then nI 0 else nI (bsum (prc sg rc p f) na))) ∧ PM E base al w (nI 0) nf np na nw (u3 sg 4 p f 0) (if sg 4 p f = 0 then rc else rcI sg rc p f na) H))) := by
  refine xMet.of (by decide +kernel) "DataroomModel" rfl (Nat.le_of_ble_eq_true rfl) ?_
  intro p9 e9 s m9 below meth c9 ls C hin hP hS hl
  have hx := C.hx
  have hb := C.hb
  have hH := hP
  have hl : lv_has ls 4 [(0, .ref (al (10, 0, 0))), (1, .int x), (2, .int z)] := hl
  obtain ⟨post, hpost⟩ : ∃ zz9 : Option Value → Heap → Prop, zz9 = (fun r H => (∃ v9, r = some (.int v9)) ∧ ((¬ (inR x np ∧ inR z nf) ∧ PM E base al w (nI 1) nf np na nw sg rc H) ∨ (∃ p f, p < np ∧ f < nf ∧ x = nI p ∧ z = nI f ∧ r = some (.int (if sg 4 p f = 0 then nI 0 else nI (bsum (prc sg rc p f) na))) ∧ PM E base al w (nI 0) nf np na nw (u3 sg 4 p f 0) (if sg 4 p f = 0 then rc else rcI sg rc p f na) H))) := ⟨_, rfl⟩
  rw [← hpost]
  generalize hQ : (MQ below (xQ base post) ([.ref (al (10, 0, 0)), .int x, .int z] : List Value).toArray s 0 0 (xA base)) = Q
  have hMM0 := hMM
  obtain ⟨hM, mm3, mm4, mm6, mm7, mm8, mm9, mm11, mm12, mm13, mm14, mm15, mm16, mm17, mm18⟩ := hMM
  have hI0 := hI
  obtain ⟨v16, v6, v150, vnow, vA, vS, vP, vK, vR⟩ := hI
  refine lv_aload_n hx hb dX7_takeBack_0 rfl (lv_at hl 0 rfl) ?_
  refine lv_aload_n hx hb dX7_takeBack_1 rfl (lv_at hl 0 rfl) ?_
  refine lv_iload_n hx hb dX7_takeBack_2 rfl (lv_at hl 1 rfl) ?_
  refine x_callV C hH hS (ci := 8) (t := (10, 0, 0)) hM rfl rfl (m_isParty l (E := E) (base := base) hMM0 (x := x)) hH kX7_isParty qw_792 (ws_p (List.mem_of_getElem? (i := 22) rfl) rfl) qw_790  rfl [.ref (al (10, 0, 0))] rfl hl.1 (Nat.le_of_ble_eq_true rfl) ⟨Nat.le_of_ble_eq_true rfl, Nat.le_of_ble_eq_true rfl⟩ dX7_takeBack_3 ⟨Nat.le_of_ble_eq_true rfl, Nat.le_of_ble_eq_true rfl⟩ (fun r_2 H locs hp_1 hS => ?_)
  obtain ⟨rfl, hH⟩ := hp_1
  refine lv_if_eq (tgt := 21) hx hb dX7_takeBack_6 (by decide) (fun c_3 => ?_) (fun c_3 => ?_)
  · skip
    replace c_3 := ob_0.mp c_3
    refine lv_iconst (v := nI 1) hx hb dX7_takeBack_21 (by decide +kernel) ?_
    refine x_callV C hH hS (ci := 8) (t := (10, 0, 0)) hM rfl rfl (m_goes l (E := E) (base := base) hMM0 (k := 1) (by omega)) hH kX7_goesWell qw_768 (ws_p (List.mem_of_getElem? (i := 19) rfl) rfl) qw_766  rfl [] rfl hl.1 (Nat.le_of_ble_eq_true rfl) ⟨Nat.le_of_ble_eq_true rfl, Nat.le_of_ble_eq_true rfl⟩ dX7_takeBack_22 ⟨Nat.le_of_ble_eq_true rfl, Nat.le_of_ble_eq_true rfl⟩ (fun r_5 H locs hp_4 hS => ?_)
    obtain ⟨rfl, hH⟩ := hp_4
    have hMM1 := hMM0.goes (nI 1)
    have hMMx := hMM1
    obtain ⟨hM, mm3, mm4, mm6, mm7, mm8, mm9, mm11, mm12, mm13, mm14, mm15, mm16, mm17, mm18⟩ := hMMx
    refine lv_re (y := nI 0) rfl ?_
    refine lv_if_ne (tgt := 30) hx hb dX7_takeBack_25 (by decide) (fun c_6 => absurd (by decide +kernel) c_6) (fun c_6 => ?_)
    clear c_6
    refine lv_iconst (v := nI 0) hx hb dX7_takeBack_28 (by decide +kernel) ?_
    rw [← hQ]
    refine x_reti C rfl hS (Nat.le_of_ble_eq_true rfl) (Nat.le_of_ble_eq_true rfl) dX7_takeBack_29 ?_
    rw [hpost]
    exact ⟨⟨_, rfl⟩, Or.inl ⟨(fun q => by rw [(inRb_iff (by omega)).mpr q.1] at c_3; cases c_3), PM_th hH hMM0⟩⟩
  · skip
    replace c_3 := ob_n.mp c_3
    refine lv_aload_n hx hb dX7_takeBack_9 rfl (lv_at hl 0 rfl) ?_
    refine lv_iload_n hx hb dX7_takeBack_10 rfl (lv_at hl 2 rfl) ?_
    refine x_callV C hH hS (ci := 8) (t := (10, 0, 0)) hM rfl rfl (m_isFile l (E := E) (base := base) hMM0 (x := z)) hH kX7_isFile qw_776 (ws_p (List.mem_of_getElem? (i := 20) rfl) rfl) qw_774  rfl [.ref (al (10, 0, 0))] rfl hl.1 (Nat.le_of_ble_eq_true rfl) ⟨Nat.le_of_ble_eq_true rfl, Nat.le_of_ble_eq_true rfl⟩ dX7_takeBack_11 ⟨Nat.le_of_ble_eq_true rfl, Nat.le_of_ble_eq_true rfl⟩ (fun r_8 H locs hp_7 hS => ?_)
    obtain ⟨rfl, hH⟩ := hp_7
    refine lv_if_eq (tgt := 21) hx hb dX7_takeBack_14 (by decide) (fun c_9 => ?_) (fun c_9 => ?_)
    · skip
      replace c_9 := ob_0.mp c_9
      refine lv_iconst (v := nI 1) hx hb dX7_takeBack_21 (by decide +kernel) ?_
      refine x_callV C hH hS (ci := 8) (t := (10, 0, 0)) hM rfl rfl (m_goes l (E := E) (base := base) hMM0 (k := 1) (by omega)) hH kX7_goesWell qw_768 (ws_p (List.mem_of_getElem? (i := 19) rfl) rfl) qw_766  rfl [] rfl hl.1 (Nat.le_of_ble_eq_true rfl) ⟨Nat.le_of_ble_eq_true rfl, Nat.le_of_ble_eq_true rfl⟩ dX7_takeBack_22 ⟨Nat.le_of_ble_eq_true rfl, Nat.le_of_ble_eq_true rfl⟩ (fun r_11 H locs hp_10 hS => ?_)
      obtain ⟨rfl, hH⟩ := hp_10
      have hMM1 := hMM0.goes (nI 1)
      have hMMx := hMM1
      obtain ⟨hM, mm3, mm4, mm6, mm7, mm8, mm9, mm11, mm12, mm13, mm14, mm15, mm16, mm17, mm18⟩ := hMMx
      refine lv_re (y := nI 0) rfl ?_
      refine lv_if_ne (tgt := 30) hx hb dX7_takeBack_25 (by decide) (fun c_12 => absurd (by decide +kernel) c_12) (fun c_12 => ?_)
      clear c_12
      refine lv_iconst (v := nI 0) hx hb dX7_takeBack_28 (by decide +kernel) ?_
      rw [← hQ]
      refine x_reti C rfl hS (Nat.le_of_ble_eq_true rfl) (Nat.le_of_ble_eq_true rfl) dX7_takeBack_29 ?_
      rw [hpost]
      exact ⟨⟨_, rfl⟩, Or.inl ⟨(fun q => by rw [(inRb_iff (by omega)).mpr q.2] at c_9; cases c_9), PM_th hH hMM0⟩⟩
    · skip
      replace c_9 := ob_n.mp c_9
      refine lv_iconst (v := nI 0) hx hb dX7_takeBack_17 (by decide +kernel) ?_
      refine lv_goto (tgt := 22) hx hb dX7_takeBack_18 (by decide) ?_
      refine x_callV C hH hS (ci := 8) (t := (10, 0, 0)) hM rfl rfl (m_goes l (E := E) (base := base) hMM0 (k := 0) (by omega)) hH kX7_goesWell qw_768 (ws_p (List.mem_of_getElem? (i := 19) rfl) rfl) qw_766  rfl [] rfl hl.1 (Nat.le_of_ble_eq_true rfl) ⟨Nat.le_of_ble_eq_true rfl, Nat.le_of_ble_eq_true rfl⟩ dX7_takeBack_22 ⟨Nat.le_of_ble_eq_true rfl, Nat.le_of_ble_eq_true rfl⟩ (fun r_14 H locs hp_13 hS => ?_)
      obtain ⟨rfl, hH⟩ := hp_13
      have hMM1 := hMM0.goes (nI 0)
      have hMMx := hMM1
      obtain ⟨hM, mm3, mm4, mm6, mm7, mm8, mm9, mm11, mm12, mm13, mm14, mm15, mm16, mm17, mm18⟩ := hMMx
      refine lv_re (y := nI 1) rfl ?_
      obtain ⟨p, hp9, rfl⟩ := (inRb_iff (by omega)).mp c_3
      obtain ⟨f, hf9, rfl⟩ := (inRb_iff (by omega)).mp c_9
      refine lv_if_ne (tgt := 30) hx hb dX7_takeBack_25 (by decide) (fun c_15 => ?_) (fun c_15 => absurd c_15 (by decide +kernel))
      clear c_15
      refine lv_aload_n hx hb dX7_takeBack_30 rfl (lv_at hl 0 rfl) ?_
      refine x_get C hH (ci := 8) (T := TX7) (N := 19) hM rfl iWX7 7 (by decide) qw_703 rfl rfl dX7_takeBack_31 ?_
      refine lv_bipush (v := nI 16) hx hb dX7_takeBack_34 (by decide +kernel) ?_
      refine lv_iload_n hx hb dX7_takeBack_36 rfl (lv_at hl 1 rfl) ?_
      refine lv_imul hx hb dX7_takeBack_37 ?_
      refine lv_re (pk_mul _ _) ?_
      refine lv_iload_n hx hb dX7_takeBack_38 rfl (lv_at hl 2 rfl) ?_
      refine lv_iadd hx hb dX7_takeBack_39 ?_
      refine lv_re (nI_add _ _) ?_
      refine x_iald C hH mm7 (j := 16 * p + f) rfl (by omega) (by omega) dX7_takeBack_40 ?_
      refine lv_re (y := sg 4 p f) (by show sg 4 ((16 * p + f) / 16) ((16 * p + f) % 16) = _; rw [show (16 * p + f) / 16 = p by omega, show (16 * p + f) % 16 = f by omega]) ?_
      refine lv_if_eq (tgt := 48) hx hb dX7_takeBack_41 (by decide) (fun c_16 => ?_) (fun c_16 => ?_)
      · skip
        refine lv_iconst (v := nI 0) hx hb dX7_takeBack_48 (by decide +kernel) ?_
        refine lv_istore_n (lv' := [(3, .int (nI 0)), (0, .ref (al (10, 0, 0))), (1, .int (nI p)), (2, .int (nI f))]) hx hb dX7_takeBack_49 rfl hl (by decide) rfl (fun ls hl => ?_)
        refine lv_aload_n hx hb dX7_takeBack_50 rfl (lv_at hl 1 rfl) ?_
        refine x_get C hH (ci := 8) (T := TX7) (N := 19) hM rfl iWX7 7 (by decide) qw_703 rfl rfl dX7_takeBack_51 ?_
        refine lv_bipush (v := nI 16) hx hb dX7_takeBack_54 (by decide +kernel) ?_
        refine lv_iload_n hx hb dX7_takeBack_56 rfl (lv_at hl 2 rfl) ?_
        refine lv_imul hx hb dX7_takeBack_57 ?_
        refine lv_re (pk_mul _ _) ?_
        refine lv_iload_n hx hb dX7_takeBack_58 rfl (lv_at hl 3 rfl) ?_
        refine lv_iadd hx hb dX7_takeBack_59 ?_
        refine lv_re (nI_add _ _) ?_
        refine lv_iconst (v := nI 0) hx hb dX7_takeBack_60 (by decide +kernel) ?_
        refine x_iast C hH hS mm7 (j := 16 * p + f) rfl (by omega) (by omega) dX7_takeBack_61 (fun H locs hH hS => ?_)
        have hM := xu_of (t := (10, 7, 0)) (e := .inl (E.2.1 0, 96, .inl (upd (fun k => sg 4 (k / 16) (k % 16)) (16 * p + f) (nI 0)))) (by simp) hM
        have mm3 := xu_of (t := (10, 7, 0)) (e := .inl (E.2.1 0, 96, .inl (upd (fun k => sg 4 (k / 16) (k % 16)) (16 * p + f) (nI 0)))) (by simp) mm3
        have mm4 := xu_of (t := (10, 7, 0)) (e := .inl (E.2.1 0, 96, .inl (upd (fun k => sg 4 (k / 16) (k % 16)) (16 * p + f) (nI 0)))) (by simp) mm4
        have mm6 := xu_of (t := (10, 7, 0)) (e := .inl (E.2.1 0, 96, .inl (upd (fun k => sg 4 (k / 16) (k % 16)) (16 * p + f) (nI 0)))) (by simp) mm6
        have mm8 := xu_of (t := (10, 7, 0)) (e := .inl (E.2.1 0, 96, .inl (upd (fun k => sg 4 (k / 16) (k % 16)) (16 * p + f) (nI 0)))) (by simp) mm8
        have mm9 := xu_of (t := (10, 7, 0)) (e := .inl (E.2.1 0, 96, .inl (upd (fun k => sg 4 (k / 16) (k % 16)) (16 * p + f) (nI 0)))) (by simp) mm9
        have mm11 := xu_of (t := (10, 7, 0)) (e := .inl (E.2.1 0, 96, .inl (upd (fun k => sg 4 (k / 16) (k % 16)) (16 * p + f) (nI 0)))) (by simp) mm11
        have mm12 := xu_of (t := (10, 7, 0)) (e := .inl (E.2.1 0, 96, .inl (upd (fun k => sg 4 (k / 16) (k % 16)) (16 * p + f) (nI 0)))) (by simp) mm12
        have mm13 := xu_of (t := (10, 7, 0)) (e := .inl (E.2.1 0, 96, .inl (upd (fun k => sg 4 (k / 16) (k % 16)) (16 * p + f) (nI 0)))) (by simp) mm13
        have mm14 := xu_of (t := (10, 7, 0)) (e := .inl (E.2.1 0, 96, .inl (upd (fun k => sg 4 (k / 16) (k % 16)) (16 * p + f) (nI 0)))) (by simp) mm14
        have mm15 := xu_of (t := (10, 7, 0)) (e := .inl (E.2.1 0, 96, .inl (upd (fun k => sg 4 (k / 16) (k % 16)) (16 * p + f) (nI 0)))) (by simp) mm15
        have mm16 := xu_of (t := (10, 7, 0)) (e := .inl (E.2.1 0, 96, .inl (upd (fun k => sg 4 (k / 16) (k % 16)) (16 * p + f) (nI 0)))) (by simp) mm16
        have mm17 := xu_of (t := (10, 7, 0)) (e := .inl (E.2.1 0, 96, .inl (upd (fun k => sg 4 (k / 16) (k % 16)) (16 * p + f) (nI 0)))) (by simp) mm17
        have mm18 := xu_of (t := (10, 7, 0)) (e := .inl (E.2.1 0, 96, .inl (upd (fun k => sg 4 (k / 16) (k % 16)) (16 * p + f) (nI 0)))) (by simp) mm18
        have mm7 : (xu (xu w (10, 0, 0) (.inr (8, [.int (nI 0), .int (nI nw), .int (nI nf), .ref (al (10, 3, 0)), .ref (al (10, 4, 0)), .int (nI np), .ref (al (10, 6, 0)), .ref (al (10, 7, 0)), .ref (al (10, 8, 0)), .ref (al (10, 9, 0)), .int (nI na), .ref (al (10, 11, 0)), .ref (al (10, 12, 0)), .ref (al (10, 13, 0)), .ref (al (10, 14, 0)), .ref (al (10, 15, 0)), .ref (al (10, 16, 0)), .ref (al (10, 17, 0)), .ref (al (10, 18, 0))]))) (10, 7, 0) (.inl (E.2.1 0, 96, .inl (upd (fun k => sg 4 (k / 16) (k % 16)) (16 * p + f) (nI 0))))) (10, 7, 0) = some (.inl (E.2.1 0, 96, .inl (upd (fun k => sg 4 (k / 16) (k % 16)) (16 * p + f) (nI 0)))) := xu_self _ _ _
        have hMM2 := hMM1.s4 (p := p) (f := f) (y := nI 0) (by omega)
        refine lv_iload_n hx hb dX7_takeBack_62 rfl (lv_at hl 0 rfl) ?_
        refine lv_if_eq (tgt := 75) hx hb dX7_takeBack_63 (by decide) (fun c_17 => ?_) (fun c_17 => absurd (by decide +kernel) c_17)
        clear c_17
        refine lv_iconst (v := nI 0) hx hb dX7_takeBack_75 (by decide +kernel) ?_
        rw [← hQ]
        refine x_reti C rfl hS (Nat.le_of_ble_eq_true rfl) (Nat.le_of_ble_eq_true rfl) dX7_takeBack_76 ?_
        rw [hpost]
        exact ⟨⟨_, rfl⟩, Or.inr ⟨p, f, hp9, hf9, rfl, rfl, (by rw [if_pos c_16]), (by rw [if_pos c_16]; exact PM_of hH hMM2 (fun t ht => by rw [xu_ne (fun e => ht (by rw [e])), xu_ne (fun e => ht (by rw [e]))]))⟩⟩
      · skip
        refine lv_iconst (v := nI 1) hx hb dX7_takeBack_44 (by decide +kernel) ?_
        refine lv_goto (tgt := 49) hx hb dX7_takeBack_45 (by decide) ?_
        refine lv_istore_n (lv' := [(3, .int (nI 1)), (0, .ref (al (10, 0, 0))), (1, .int (nI p)), (2, .int (nI f))]) hx hb dX7_takeBack_49 rfl hl (by decide) rfl (fun ls hl => ?_)
        refine lv_aload_n hx hb dX7_takeBack_50 rfl (lv_at hl 1 rfl) ?_
        refine x_get C hH (ci := 8) (T := TX7) (N := 19) hM rfl iWX7 7 (by decide) qw_703 rfl rfl dX7_takeBack_51 ?_
        refine lv_bipush (v := nI 16) hx hb dX7_takeBack_54 (by decide +kernel) ?_
        refine lv_iload_n hx hb dX7_takeBack_56 rfl (lv_at hl 2 rfl) ?_
        refine lv_imul hx hb dX7_takeBack_57 ?_
        refine lv_re (pk_mul _ _) ?_
        refine lv_iload_n hx hb dX7_takeBack_58 rfl (lv_at hl 3 rfl) ?_
        refine lv_iadd hx hb dX7_takeBack_59 ?_
        refine lv_re (nI_add _ _) ?_
        refine lv_iconst (v := nI 0) hx hb dX7_takeBack_60 (by decide +kernel) ?_
        refine x_iast C hH hS mm7 (j := 16 * p + f) rfl (by omega) (by omega) dX7_takeBack_61 (fun H locs hH hS => ?_)
        have hM := xu_of (t := (10, 7, 0)) (e := .inl (E.2.1 0, 96, .inl (upd (fun k => sg 4 (k / 16) (k % 16)) (16 * p + f) (nI 0)))) (by simp) hM
        have mm3 := xu_of (t := (10, 7, 0)) (e := .inl (E.2.1 0, 96, .inl (upd (fun k => sg 4 (k / 16) (k % 16)) (16 * p + f) (nI 0)))) (by simp) mm3
        have mm4 := xu_of (t := (10, 7, 0)) (e := .inl (E.2.1 0, 96, .inl (upd (fun k => sg 4 (k / 16) (k % 16)) (16 * p + f) (nI 0)))) (by simp) mm4
        have mm6 := xu_of (t := (10, 7, 0)) (e := .inl (E.2.1 0, 96, .inl (upd (fun k => sg 4 (k / 16) (k % 16)) (16 * p + f) (nI 0)))) (by simp) mm6
        have mm8 := xu_of (t := (10, 7, 0)) (e := .inl (E.2.1 0, 96, .inl (upd (fun k => sg 4 (k / 16) (k % 16)) (16 * p + f) (nI 0)))) (by simp) mm8
        have mm9 := xu_of (t := (10, 7, 0)) (e := .inl (E.2.1 0, 96, .inl (upd (fun k => sg 4 (k / 16) (k % 16)) (16 * p + f) (nI 0)))) (by simp) mm9
        have mm11 := xu_of (t := (10, 7, 0)) (e := .inl (E.2.1 0, 96, .inl (upd (fun k => sg 4 (k / 16) (k % 16)) (16 * p + f) (nI 0)))) (by simp) mm11
        have mm12 := xu_of (t := (10, 7, 0)) (e := .inl (E.2.1 0, 96, .inl (upd (fun k => sg 4 (k / 16) (k % 16)) (16 * p + f) (nI 0)))) (by simp) mm12
        have mm13 := xu_of (t := (10, 7, 0)) (e := .inl (E.2.1 0, 96, .inl (upd (fun k => sg 4 (k / 16) (k % 16)) (16 * p + f) (nI 0)))) (by simp) mm13
        have mm14 := xu_of (t := (10, 7, 0)) (e := .inl (E.2.1 0, 96, .inl (upd (fun k => sg 4 (k / 16) (k % 16)) (16 * p + f) (nI 0)))) (by simp) mm14
        have mm15 := xu_of (t := (10, 7, 0)) (e := .inl (E.2.1 0, 96, .inl (upd (fun k => sg 4 (k / 16) (k % 16)) (16 * p + f) (nI 0)))) (by simp) mm15
        have mm16 := xu_of (t := (10, 7, 0)) (e := .inl (E.2.1 0, 96, .inl (upd (fun k => sg 4 (k / 16) (k % 16)) (16 * p + f) (nI 0)))) (by simp) mm16
        have mm17 := xu_of (t := (10, 7, 0)) (e := .inl (E.2.1 0, 96, .inl (upd (fun k => sg 4 (k / 16) (k % 16)) (16 * p + f) (nI 0)))) (by simp) mm17
        have mm18 := xu_of (t := (10, 7, 0)) (e := .inl (E.2.1 0, 96, .inl (upd (fun k => sg 4 (k / 16) (k % 16)) (16 * p + f) (nI 0)))) (by simp) mm18
        have mm7 : (xu (xu w (10, 0, 0) (.inr (8, [.int (nI 0), .int (nI nw), .int (nI nf), .ref (al (10, 3, 0)), .ref (al (10, 4, 0)), .int (nI np), .ref (al (10, 6, 0)), .ref (al (10, 7, 0)), .ref (al (10, 8, 0)), .ref (al (10, 9, 0)), .int (nI na), .ref (al (10, 11, 0)), .ref (al (10, 12, 0)), .ref (al (10, 13, 0)), .ref (al (10, 14, 0)), .ref (al (10, 15, 0)), .ref (al (10, 16, 0)), .ref (al (10, 17, 0)), .ref (al (10, 18, 0))]))) (10, 7, 0) (.inl (E.2.1 0, 96, .inl (upd (fun k => sg 4 (k / 16) (k % 16)) (16 * p + f) (nI 0))))) (10, 7, 0) = some (.inl (E.2.1 0, 96, .inl (upd (fun k => sg 4 (k / 16) (k % 16)) (16 * p + f) (nI 0)))) := xu_self _ _ _
        have hMM2 := hMM1.s4 (p := p) (f := f) (y := nI 0) (by omega)
        refine lv_iload_n hx hb dX7_takeBack_62 rfl (lv_at hl 0 rfl) ?_
        refine lv_if_eq (tgt := 75) hx hb dX7_takeBack_63 (by decide) (fun c_18 => absurd c_18 (by decide +kernel)) (fun c_18 => ?_)
        clear c_18
        refine lv_aload_n hx hb dX7_takeBack_66 rfl (lv_at hl 1 rfl) ?_
        refine lv_iload_n hx hb dX7_takeBack_67 rfl (lv_at hl 3 rfl) ?_
        refine lv_iload_n hx hb dX7_takeBack_68 rfl (lv_at hl 2 rfl) ?_
        refine x_callV C hH hS (ci := 8) (t := (10, 0, 0)) hM rfl rfl (m_recall l (E := E) (base := base) hMM2 (INV_k4 hI0 hp9 ⟨0, by omega, rfl⟩) (f := f) (pp := nI p) (by omega)) hH kX7_recall qw_780 (ws_p (List.mem_of_getElem? (i := 21) rfl) rfl) qw_778  rfl [] rfl hl.1 (Nat.le_of_ble_eq_true rfl) ⟨Nat.le_of_ble_eq_true rfl, Nat.le_of_ble_eq_true rfl⟩ dX7_takeBack_69 ⟨Nat.le_of_ble_eq_true rfl, Nat.le_of_ble_eq_true rfl⟩ (fun r_20 H locs hp_19 hS => ?_)
        obtain ⟨rfl, hH⟩ := hp_19
        refine lv_goto (tgt := 76) hx hb dX7_takeBack_72 (by decide) ?_
        rw [← hQ]
        refine x_reti C rfl hS (Nat.le_of_ble_eq_true rfl) (Nat.le_of_ble_eq_true rfl) dX7_takeBack_76 ?_
        rw [hpost]
        exact ⟨⟨_, rfl⟩, Or.inr ⟨p, f, hp9, hf9, rfl, rfl, (by rw [if_neg c_16, rkP_p (by omega)]), (by rw [if_neg c_16, ← rcK_p (by omega) (f := f) (p := p)]; exact PM_of hH (hMM2.rc _) (fun t ht => by rw [xu_ne (fun e => ht (by rw [e])), xu_ne (fun e => ht (by rw [e])), xu_ne (fun e => ht (by rw [e]))]))⟩⟩

set_option maxHeartbeats 4000000 in
set_option maxRecDepth 100000 in
theorem m_ask (l : Launch) {E : xE} {base : Nat} {al : Tg → Nat} {w : Tg → Option va_E} {th : Int32} {nf np na nw : Nat} {sg : Nat → Nat → Nat → Int32} {rc : Nat → Bool} {fr : Nat → Int32} (hMM : MMf E al w th nf np na nw sg rc fr) (hI : INV nf np na nw sg rc) {x z bit : Int32} : xMet l yX7_ask cX7_ask 8 (some (.int)) ({ frames := 5, cells := 0, slots := 0, locals := 124 } : Room) E base [.ref (al (10, 0, 0)), .int x, .int z, .int bit] (fun H => xH E base al w H) (fun r H => (∃ v9, r = some (.int v9)) ∧ ((¬ inR x np ∧ PM E base al w (nI 1) nf np na nw sg rc H) ∨ (inR x np ∧ ¬ Qok nf z bit ∧ PM E base al w (nI 2) nf np na nw sg rc H) ∨ (inR x np ∧ Qok nf z bit ∧ ¬ na < 150 ∧ PM E base al w (nI 3) nf np na nw sg rc H) ∨ (∃ p, p < np ∧ x = nI p ∧ Qok nf z bit ∧ na < 150 ∧ (((fate nf na nw sg rc p z bit) ≠ 0 ∧ r = some (.int (-nI (fate nf na nw sg rc p z bit))) ∧ PM E base al w (nI 0) nf np na nw (u3 sg 13 p (fate nf na nw sg rc p z bit) (sg 13 p (fate nf na nw sg rc p z bit) + nI 1)) rc H) ∨ ((fate nf na nw sg rc p z bit) = 0 ∧ r = some (.int (tel bit (xoR z (fun f => sg 1 f 0) nf))) ∧ PM E base al w (nI 0) nf np (na + 1) nw (ansg (u3 sg 13 p 0 (sg 13 p 0 + nI 1)) na p z bit (tel bit (xoR z (fun f => sg 1 f 0) nf)) nw) rc H))))) := by
  refine xMet.of (by decide +kernel) "DataroomModel" rfl (Nat.le_of_ble_eq_true rfl) ?_
  intro p9 e9 s m9 below meth c9 ls C hin hP hS hl
  have hx := C.hx
  have hb := C.hb
  have hH := hP
  have hl : lv_has ls 8 [(0, .ref (al (10, 0, 0))), (1, .int x), (2, .int z), (3, .int bit)] := hl
  obtain ⟨post, hpost⟩ : ∃ zz9 : Option Value → Heap → Prop, zz9 = (fun r H => (∃ v9, r = some (.int v9)) ∧ ((¬ inR x np ∧ PM E base al w (nI 1) nf np na nw sg rc H) ∨ (inR x np ∧ ¬ Qok nf z bit ∧ PM E base al w (nI 2) nf np na nw sg rc H) ∨ (inR x np ∧ Qok nf z bit ∧ ¬ na < 150 ∧ PM E base al w (nI 3) nf np na nw sg rc H) ∨ (∃ p, p < np ∧ x = nI p ∧ Qok nf z bit ∧ na < 150 ∧ (((fate nf na nw sg rc p z bit) ≠ 0 ∧ r = some (.int (-nI (fate nf na nw sg rc p z bit))) ∧ PM E base al w (nI 0) nf np na nw (u3 sg 13 p (fate nf na nw sg rc p z bit) (sg 13 p (fate nf na nw sg rc p z bit) + nI 1)) rc H) ∨ ((fate nf na nw sg rc p z bit) = 0 ∧ r = some (.int (tel bit (xoR z (fun f => sg 1 f 0) nf))) ∧ PM E base al w (nI 0) nf np (na + 1) nw (ansg (u3 sg 13 p 0 (sg 13 p 0 + nI 1)) na p z bit (tel bit (xoR z (fun f => sg 1 f 0) nf)) nw) rc H))))) := ⟨_, rfl⟩
  rw [← hpost]
  generalize hQ : (MQ below (xQ base post) ([.ref (al (10, 0, 0)), .int x, .int z, .int bit] : List Value).toArray s 0 0 (xA base)) = Q
  have hMM0 := hMM
  obtain ⟨hM, mm3, mm4, mm6, mm7, mm8, mm9, mm11, mm12, mm13, mm14, mm15, mm16, mm17, mm18⟩ := hMM
  have hI0 := hI
  obtain ⟨v16, v6, v150, vnow, vA, vS, vP, vK, vR⟩ := hI
  refine lv_aload_n hx hb dX7_ask_0 rfl (lv_at hl 0 rfl) ?_
  refine lv_iload_n hx hb dX7_ask_1 rfl (lv_at hl 1 rfl) ?_
  refine x_callV C hH hS (ci := 8) (t := (10, 0, 0)) hM rfl rfl (m_isParty l (E := E) (base := base) hMM0 (x := x)) hH kX7_isParty qw_792 (ws_p (List.mem_of_getElem? (i := 22) rfl) rfl) qw_790  rfl [] rfl hl.1 (Nat.le_of_ble_eq_true rfl) ⟨Nat.le_of_ble_eq_true rfl, Nat.le_of_ble_eq_true rfl⟩ dX7_ask_2 ⟨Nat.le_of_ble_eq_true rfl, Nat.le_of_ble_eq_true rfl⟩ (fun r_2 H locs hp_1 hS => ?_)
  obtain ⟨rfl, hH⟩ := hp_1
  refine lv_istore (lv' := [(4, .int (ob (inRb x np))), (0, .ref (al (10, 0, 0))), (1, .int x), (2, .int z), (3, .int bit)]) hx hb dX7_ask_5 hl (by decide) rfl (fun ls hl => ?_)
  refine lv_aload_n hx hb dX7_ask_7 rfl (lv_at hl 1 rfl) ?_
  refine lv_iload hx hb dX7_ask_8 (lv_at hl 0 rfl) ?_
  refine lv_if_ne (tgt := 17) hx hb dX7_ask_10 (by decide) (fun c_3 => ?_) (fun c_3 => ?_)
  · skip
    replace c_3 := ob_n.mp c_3
    refine lv_aload_n hx hb dX7_ask_17 rfl (lv_at hl 1 rfl) ?_
    refine lv_iload_n hx hb dX7_ask_18 rfl (lv_at hl 3 rfl) ?_
    refine lv_iload_n hx hb dX7_ask_19 rfl (lv_at hl 4 rfl) ?_
    refine x_callV C hH hS (ci := 8) (t := (10, 0, 0)) hM rfl rfl (m_isQ l (E := E) (base := base) hMM0 (x := z) (bit := bit)) hH kX7_isQuestion qw_816 (ws_p (List.mem_of_getElem? (i := 23) rfl) rfl) qw_814  rfl [.ref (al (10, 0, 0))] rfl hl.1 (Nat.le_of_ble_eq_true rfl) ⟨Nat.le_of_ble_eq_true rfl, Nat.le_of_ble_eq_true rfl⟩ dX7_ask_20 ⟨Nat.le_of_ble_eq_true rfl, Nat.le_of_ble_eq_true rfl⟩ (fun r_5 H locs hp_4 hS => ?_)
    obtain ⟨rfl, hH⟩ := hp_4
    refine lv_if_ne (tgt := 30) hx hb dX7_ask_23 (by decide) (fun c_6 => ?_) (fun c_6 => ?_)
    · skip
      replace c_6 := ob_n.mp c_6
      refine lv_aload_n hx hb dX7_ask_30 rfl (lv_at hl 1 rfl) ?_
      refine x_get C hH (ci := 8) (T := TX7) (N := 19) hM rfl iWX7 10 (by decide) qw_706 rfl rfl dX7_ask_31 ?_
      refine lv_sipush (v := nI 150) hx hb dX7_ask_34 (by decide +kernel) ?_
      refine lv_icmp_ne (tgt := 44) hx hb dX7_ask_37 (by decide) (fun c_7 => ?_) (fun c_7 => ?_)
      · skip
        replace c_7 := mt (nI_eq (by omega) (by omega)).mpr c_7
        refine lv_iconst (v := nI 0) hx hb dX7_ask_44 (by decide +kernel) ?_
        refine x_callV C hH hS (ci := 8) (t := (10, 0, 0)) hM rfl rfl (m_goes l (E := E) (base := base) hMM0 (k := 0) (by omega)) hH kX7_goesWell qw_768 (ws_p (List.mem_of_getElem? (i := 19) rfl) rfl) qw_766  rfl [] rfl hl.1 (Nat.le_of_ble_eq_true rfl) ⟨Nat.le_of_ble_eq_true rfl, Nat.le_of_ble_eq_true rfl⟩ dX7_ask_45 ⟨Nat.le_of_ble_eq_true rfl, Nat.le_of_ble_eq_true rfl⟩ (fun r_9 H locs hp_8 hS => ?_)
        obtain ⟨rfl, hH⟩ := hp_8
        have hMM1 := hMM0.goes (nI 0)
        have hMMx := hMM1
        obtain ⟨hM, mm3, mm4, mm6, mm7, mm8, mm9, mm11, mm12, mm13, mm14, mm15, mm16, mm17, mm18⟩ := hMMx
        refine lv_re (y := nI 1) rfl ?_
        obtain ⟨p, hp9, rfl⟩ := (inRb_iff (by omega)).mp c_3
        have hQ9 := (qB_iff v16).mp c_6
        have hxs := Qok_sml v16 hQ9
        have hF9 : (fate nf na nw sg rc p z bit) < 5 := fate_lt
        have hn9 : na < 150 := by omega
        refine lv_if_ne (tgt := 53) hx hb dX7_ask_48 (by decide) (fun c_10 => ?_) (fun c_10 => absurd c_10 (by decide +kernel))
        clear c_10
        refine lv_aload_n hx hb dX7_ask_53 rfl (lv_at hl 1 rfl) ?_
        refine lv_iload_n hx hb dX7_ask_54 rfl (lv_at hl 2 rfl) ?_
        refine lv_iload_n hx hb dX7_ask_55 rfl (lv_at hl 3 rfl) ?_
        refine lv_iload_n hx hb dX7_ask_56 rfl (lv_at hl 4 rfl) ?_
        refine x_callV C hH hS (ci := 8) (t := (10, 0, 0)) hM rfl rfl (m_refusal l (E := E) (base := base) hMM1 hI0 (x := z) (bit := bit) hp9 hxs) hH kX7_refusal qw_820 (ws_p (List.mem_of_getElem? (i := 24) rfl) rfl) qw_818  rfl [] rfl hl.1 (Nat.le_of_ble_eq_true rfl) ⟨Nat.le_of_ble_eq_true rfl, Nat.le_of_ble_eq_true rfl⟩ dX7_ask_57 ⟨Nat.le_of_ble_eq_true rfl, Nat.le_of_ble_eq_true rfl⟩ (fun r_12 H locs hp_11 hS => ?_)
        obtain ⟨rfl, fr9, hH⟩ := hp_11
        have hMM2 := hMM1.fr fr9
        have hMMx := hMM2
        obtain ⟨hM, mm3, mm4, mm6, mm7, mm8, mm9, mm11, mm12, mm13, mm14, mm15, mm16, mm17, mm18⟩ := hMMx
        refine lv_istore (lv' := [(5, .int (-nI (fate nf na nw sg rc p z bit))), (4, .int (ob (inRb (nI p) np))), (0, .ref (al (10, 0, 0))), (1, .int (nI p)), (2, .int z), (3, .int bit)]) hx hb dX7_ask_60 hl (by decide) rfl (fun ls hl => ?_)
        refine lv_aload_n hx hb dX7_ask_62 rfl (lv_at hl 2 rfl) ?_
        refine x_get C hH (ci := 8) (T := TX7) (N := 19) hM rfl iWX7 17 (by decide) qw_713 rfl rfl dX7_ask_63 ?_
        refine lv_bipush (v := nI 6) hx hb dX7_ask_66 (by decide +kernel) ?_
        refine lv_iload_n hx hb dX7_ask_68 rfl (lv_at hl 3 rfl) ?_
        refine lv_imul hx hb dX7_ask_69 ?_
        refine lv_re (pk_mul _ _) ?_
        refine lv_iload hx hb dX7_ask_70 (lv_at hl 0 rfl) ?_
        refine lv_isub hx hb dX7_ask_72 ?_
        refine lv_re (y := nI (6 * p + (fate nf na nw sg rc p z bit))) (by rw [Int32.sub_neg, nI_add]) ?_
        refine lv_dup2_11 hx hb dX7_ask_73 rfl rfl ?_
        refine x_iald C hH mm17 (j := 6 * p + (fate nf na nw sg rc p z bit)) rfl (by omega) (by omega) dX7_ask_74 ?_
        refine lv_re (y := sg 13 p (fate nf na nw sg rc p z bit)) (by show sg 13 ((6 * p + (fate nf na nw sg rc p z bit)) / 6) ((6 * p + (fate nf na nw sg rc p z bit)) % 6) = _; rw [show (6 * p + (fate nf na nw sg rc p z bit)) / 6 = p by omega, show (6 * p + (fate nf na nw sg rc p z bit)) % 6 = (fate nf na nw sg rc p z bit) by omega]) ?_
        refine lv_iconst (v := nI 1) hx hb dX7_ask_75 (by decide +kernel) ?_
        refine lv_iadd hx hb dX7_ask_76 ?_
        refine x_iast C hH hS mm17 (j := 6 * p + (fate nf na nw sg rc p z bit)) rfl (by omega) (by omega) dX7_ask_77 (fun H locs hH hS => ?_)
        have hM := xu_of (t := (10, 17, 0)) (e := .inl (E.2.1 0, 36, .inl (upd (fun k => sg 13 (k / 6) (k % 6)) (6 * p + (fate nf na nw sg rc p z bit)) ((sg 13 p (fate nf na nw sg rc p z bit)) + nI 1)))) (by simp) hM
        have mm3 := xu_of (t := (10, 17, 0)) (e := .inl (E.2.1 0, 36, .inl (upd (fun k => sg 13 (k / 6) (k % 6)) (6 * p + (fate nf na nw sg rc p z bit)) ((sg 13 p (fate nf na nw sg rc p z bit)) + nI 1)))) (by simp) mm3
        have mm4 := xu_of (t := (10, 17, 0)) (e := .inl (E.2.1 0, 36, .inl (upd (fun k => sg 13 (k / 6) (k % 6)) (6 * p + (fate nf na nw sg rc p z bit)) ((sg 13 p (fate nf na nw sg rc p z bit)) + nI 1)))) (by simp) mm4
        have mm6 := xu_of (t := (10, 17, 0)) (e := .inl (E.2.1 0, 36, .inl (upd (fun k => sg 13 (k / 6) (k % 6)) (6 * p + (fate nf na nw sg rc p z bit)) ((sg 13 p (fate nf na nw sg rc p z bit)) + nI 1)))) (by simp) mm6
        have mm7 := xu_of (t := (10, 17, 0)) (e := .inl (E.2.1 0, 36, .inl (upd (fun k => sg 13 (k / 6) (k % 6)) (6 * p + (fate nf na nw sg rc p z bit)) ((sg 13 p (fate nf na nw sg rc p z bit)) + nI 1)))) (by simp) mm7
        have mm8 := xu_of (t := (10, 17, 0)) (e := .inl (E.2.1 0, 36, .inl (upd (fun k => sg 13 (k / 6) (k % 6)) (6 * p + (fate nf na nw sg rc p z bit)) ((sg 13 p (fate nf na nw sg rc p z bit)) + nI 1)))) (by simp) mm8
        have mm9 := xu_of (t := (10, 17, 0)) (e := .inl (E.2.1 0, 36, .inl (upd (fun k => sg 13 (k / 6) (k % 6)) (6 * p + (fate nf na nw sg rc p z bit)) ((sg 13 p (fate nf na nw sg rc p z bit)) + nI 1)))) (by simp) mm9
        have mm11 := xu_of (t := (10, 17, 0)) (e := .inl (E.2.1 0, 36, .inl (upd (fun k => sg 13 (k / 6) (k % 6)) (6 * p + (fate nf na nw sg rc p z bit)) ((sg 13 p (fate nf na nw sg rc p z bit)) + nI 1)))) (by simp) mm11
        have mm12 := xu_of (t := (10, 17, 0)) (e := .inl (E.2.1 0, 36, .inl (upd (fun k => sg 13 (k / 6) (k % 6)) (6 * p + (fate nf na nw sg rc p z bit)) ((sg 13 p (fate nf na nw sg rc p z bit)) + nI 1)))) (by simp) mm12
        have mm13 := xu_of (t := (10, 17, 0)) (e := .inl (E.2.1 0, 36, .inl (upd (fun k => sg 13 (k / 6) (k % 6)) (6 * p + (fate nf na nw sg rc p z bit)) ((sg 13 p (fate nf na nw sg rc p z bit)) + nI 1)))) (by simp) mm13
        have mm14 := xu_of (t := (10, 17, 0)) (e := .inl (E.2.1 0, 36, .inl (upd (fun k => sg 13 (k / 6) (k % 6)) (6 * p + (fate nf na nw sg rc p z bit)) ((sg 13 p (fate nf na nw sg rc p z bit)) + nI 1)))) (by simp) mm14
        have mm15 := xu_of (t := (10, 17, 0)) (e := .inl (E.2.1 0, 36, .inl (upd (fun k => sg 13 (k / 6) (k % 6)) (6 * p + (fate nf na nw sg rc p z bit)) ((sg 13 p (fate nf na nw sg rc p z bit)) + nI 1)))) (by simp) mm15
        have mm16 := xu_of (t := (10, 17, 0)) (e := .inl (E.2.1 0, 36, .inl (upd (fun k => sg 13 (k / 6) (k % 6)) (6 * p + (fate nf na nw sg rc p z bit)) ((sg 13 p (fate nf na nw sg rc p z bit)) + nI 1)))) (by simp) mm16
        have mm18 := xu_of (t := (10, 17, 0)) (e := .inl (E.2.1 0, 36, .inl (upd (fun k => sg 13 (k / 6) (k % 6)) (6 * p + (fate nf na nw sg rc p z bit)) ((sg 13 p (fate nf na nw sg rc p z bit)) + nI 1)))) (by simp) mm18
        have mm17 : (xu (xu (xu w (10, 0, 0) (.inr (8, [.int (nI 0), .int (nI nw), .int (nI nf), .ref (al (10, 3, 0)), .ref (al (10, 4, 0)), .int (nI np), .ref (al (10, 6, 0)), .ref (al (10, 7, 0)), .ref (al (10, 8, 0)), .ref (al (10, 9, 0)), .int (nI na), .ref (al (10, 11, 0)), .ref (al (10, 12, 0)), .ref (al (10, 13, 0)), .ref (al (10, 14, 0)), .ref (al (10, 15, 0)), .ref (al (10, 16, 0)), .ref (al (10, 17, 0)), .ref (al (10, 18, 0))]))) (10, 18, 0) (.inl (E.2.1 0, 16, .inl fr9))) (10, 17, 0) (.inl (E.2.1 0, 36, .inl (upd (fun k => sg 13 (k / 6) (k % 6)) (6 * p + (fate nf na nw sg rc p z bit)) ((sg 13 p (fate nf na nw sg rc p z bit)) + nI 1))))) (10, 17, 0) = some (.inl (E.2.1 0, 36, .inl (upd (fun k => sg 13 (k / 6) (k % 6)) (6 * p + (fate nf na nw sg rc p z bit)) ((sg 13 p (fate nf na nw sg rc p z bit)) + nI 1)))) := xu_self _ _ _
        have hMM3 := hMM2.s13 (p := p) (f := (fate nf na nw sg rc p z bit)) (y := sg 13 p (fate nf na nw sg rc p z bit) + nI 1) (by omega)
        refine lv_iload hx hb dX7_ask_78 (lv_at hl 0 rfl) ?_
        refine lv_if_eq (tgt := 86) hx hb dX7_ask_80 (by decide) (fun c_13 => ?_) (fun c_13 => ?_)
        · skip
          refine lv_iconst (v := nI 0) hx hb dX7_ask_86 (by decide +kernel) ?_
          refine lv_istore (lv' := [(6, .int (nI 0)), (5, .int (-nI (fate nf na nw sg rc p z bit))), (4, .int (ob (inRb (nI p) np))), (0, .ref (al (10, 0, 0))), (1, .int (nI p)), (2, .int z), (3, .int bit)]) hx hb dX7_ask_87 hl (by decide) rfl (fun ls hl => ?_)
          refine lv_iconst (v := nI 0) hx hb dX7_ask_89 (by decide +kernel) ?_
          refine lv_istore (lv' := [(7, .int (nI 0)), (6, .int (nI 0)), (5, .int (-nI (fate nf na nw sg rc p z bit))), (4, .int (ob (inRb (nI p) np))), (0, .ref (al (10, 0, 0))), (1, .int (nI p)), (2, .int z), (3, .int bit)]) hx hb dX7_ask_90 hl (by decide) rfl (fun ls hl => ?_)
          have lp92 : ∀ (i : Nat), i ≤ nf → ∀ (y : Int32) (H : Heap) (locs : List Loc) (ls : Array Slot), y = xoR z (fun f => sg 1 f 0) i → xH E base al (xu (xu (xu w (10, 0, 0) (.inr (8, [.int (nI 0), .int (nI nw), .int (nI nf), .ref (al (10, 3, 0)), .ref (al (10, 4, 0)), .int (nI np), .ref (al (10, 6, 0)), .ref (al (10, 7, 0)), .ref (al (10, 8, 0)), .ref (al (10, 9, 0)), .int (nI na), .ref (al (10, 11, 0)), .ref (al (10, 12, 0)), .ref (al (10, 13, 0)), .ref (al (10, 14, 0)), .ref (al (10, 15, 0)), .ref (al (10, 16, 0)), .ref (al (10, 17, 0)), .ref (al (10, 18, 0))]))) (10, 18, 0) (.inl (E.2.1 0, 16, .inl fr9))) (10, 17, 0) (.inl (E.2.1 0, 36, .inl (upd (fun k => sg 13 (k / 6) (k % 6)) (6 * p + (fate nf na nw sg rc p z bit)) ((sg 13 p (fate nf na nw sg rc p z bit)) + nI 1))))) H → va_S (xA base) s.heap H locs → lv_has ls 8 [(7, .int (nI i)), (6, .int y), (5, .int (-nI (fate nf na nw sg rc p z bit))), (4, .int (ob (inRb (nI p) np))), (3, .int bit), (2, .int z), (1, .int (nI p)), (0, .ref (al (10, 0, 0)))] → W p9 l e9 ({ frames := 5, cells := 0, slots := 0, locals := 124 } : Room) s m9 ([.ref (al (10, 0, 0)), .int (nI p), .int z, .int bit] : List Value).toArray below meth c9 H locs 0 0 Q (F0 m9 92 ls []) := by
            refine lp_up ?_
            intro i hii ih92 y H locs ls hy hH hS hl
            refine lv_iload hx hb dX7_ask_92 (lv_at hl 0 rfl) ?_
            refine lv_aload_n hx hb dX7_ask_94 rfl (lv_at hl 7 rfl) ?_
            refine x_get C hH (ci := 8) (T := TX7) (N := 19) hM rfl iWX7 2 (by decide) qw_698 rfl rfl dX7_ask_95 ?_
            refine lv_icmp_ge (tgt := 133) hx hb dX7_ask_98 (by decide) (fun c_14 => ?_) (fun c_14 => ?_)
            · skip
              replace c_14 := (nI_leI (by omega) (by omega)).mp c_14
              have e8 : i = nf := by omega
              rw [e8] at hy
              refine lv_aload_n hx hb dX7_ask_133 rfl (lv_at hl 7 rfl) ?_
              refine x_get C hH (ci := 8) (T := TX7) (N := 19) hM rfl iWX7 11 (by decide) qw_707 rfl rfl dX7_ask_134 ?_
              refine lv_aload_n hx hb dX7_ask_137 rfl (lv_at hl 7 rfl) ?_
              refine x_get C hH (ci := 8) (T := TX7) (N := 19) hM rfl iWX7 10 (by decide) qw_706 rfl rfl dX7_ask_138 ?_
              refine lv_iload_n hx hb dX7_ask_141 rfl (lv_at hl 6 rfl) ?_
              refine x_iast C hH hS mm11 (j := na) rfl (by omega) (by omega) dX7_ask_142 (fun H locs hH hS => ?_)
              have hM := xu_of (t := (10, 11, 0)) (e := .inl (E.2.1 0, 150, .inl (upd (fun a => sg 7 a 0) na (nI p)))) (by simp) hM
              have mm3 := xu_of (t := (10, 11, 0)) (e := .inl (E.2.1 0, 150, .inl (upd (fun a => sg 7 a 0) na (nI p)))) (by simp) mm3
              have mm4 := xu_of (t := (10, 11, 0)) (e := .inl (E.2.1 0, 150, .inl (upd (fun a => sg 7 a 0) na (nI p)))) (by simp) mm4
              have mm6 := xu_of (t := (10, 11, 0)) (e := .inl (E.2.1 0, 150, .inl (upd (fun a => sg 7 a 0) na (nI p)))) (by simp) mm6
              have mm7 := xu_of (t := (10, 11, 0)) (e := .inl (E.2.1 0, 150, .inl (upd (fun a => sg 7 a 0) na (nI p)))) (by simp) mm7
              have mm8 := xu_of (t := (10, 11, 0)) (e := .inl (E.2.1 0, 150, .inl (upd (fun a => sg 7 a 0) na (nI p)))) (by simp) mm8
              have mm9 := xu_of (t := (10, 11, 0)) (e := .inl (E.2.1 0, 150, .inl (upd (fun a => sg 7 a 0) na (nI p)))) (by simp) mm9
              have mm12 := xu_of (t := (10, 11, 0)) (e := .inl (E.2.1 0, 150, .inl (upd (fun a => sg 7 a 0) na (nI p)))) (by simp) mm12
              have mm13 := xu_of (t := (10, 11, 0)) (e := .inl (E.2.1 0, 150, .inl (upd (fun a => sg 7 a 0) na (nI p)))) (by simp) mm13
              have mm14 := xu_of (t := (10, 11, 0)) (e := .inl (E.2.1 0, 150, .inl (upd (fun a => sg 7 a 0) na (nI p)))) (by simp) mm14
              have mm15 := xu_of (t := (10, 11, 0)) (e := .inl (E.2.1 0, 150, .inl (upd (fun a => sg 7 a 0) na (nI p)))) (by simp) mm15
              have mm16 := xu_of (t := (10, 11, 0)) (e := .inl (E.2.1 0, 150, .inl (upd (fun a => sg 7 a 0) na (nI p)))) (by simp) mm16
              have mm17 := xu_of (t := (10, 11, 0)) (e := .inl (E.2.1 0, 150, .inl (upd (fun a => sg 7 a 0) na (nI p)))) (by simp) mm17
              have mm18 := xu_of (t := (10, 11, 0)) (e := .inl (E.2.1 0, 150, .inl (upd (fun a => sg 7 a 0) na (nI p)))) (by simp) mm18
              have mm11 : (xu (xu (xu (xu w (10, 0, 0) (.inr (8, [.int (nI 0), .int (nI nw), .int (nI nf), .ref (al (10, 3, 0)), .ref (al (10, 4, 0)), .int (nI np), .ref (al (10, 6, 0)), .ref (al (10, 7, 0)), .ref (al (10, 8, 0)), .ref (al (10, 9, 0)), .int (nI na), .ref (al (10, 11, 0)), .ref (al (10, 12, 0)), .ref (al (10, 13, 0)), .ref (al (10, 14, 0)), .ref (al (10, 15, 0)), .ref (al (10, 16, 0)), .ref (al (10, 17, 0)), .ref (al (10, 18, 0))]))) (10, 18, 0) (.inl (E.2.1 0, 16, .inl fr9))) (10, 17, 0) (.inl (E.2.1 0, 36, .inl (upd (fun k => sg 13 (k / 6) (k % 6)) (6 * p + (fate nf na nw sg rc p z bit)) ((sg 13 p (fate nf na nw sg rc p z bit)) + nI 1))))) (10, 11, 0) (.inl (E.2.1 0, 150, .inl (upd (fun a => sg 7 a 0) na (nI p))))) (10, 11, 0) = some (.inl (E.2.1 0, 150, .inl (upd (fun a => sg 7 a 0) na (nI p)))) := xu_self _ _ _
              refine lv_aload_n hx hb dX7_ask_143 rfl (lv_at hl 7 rfl) ?_
              refine x_get C hH (ci := 8) (T := TX7) (N := 19) hM rfl iWX7 12 (by decide) qw_708 rfl rfl dX7_ask_144 ?_
              refine lv_aload_n hx hb dX7_ask_147 rfl (lv_at hl 7 rfl) ?_
              refine x_get C hH (ci := 8) (T := TX7) (N := 19) hM rfl iWX7 10 (by decide) qw_706 rfl rfl dX7_ask_148 ?_
              refine lv_iload_n hx hb dX7_ask_151 rfl (lv_at hl 5 rfl) ?_
              refine x_iast C hH hS mm12 (j := na) rfl (by omega) (by omega) dX7_ask_152 (fun H locs hH hS => ?_)
              have hM := xu_of (t := (10, 12, 0)) (e := .inl (E.2.1 0, 150, .inl (upd (fun a => sg 8 a 0) na z))) (by simp) hM
              have mm3 := xu_of (t := (10, 12, 0)) (e := .inl (E.2.1 0, 150, .inl (upd (fun a => sg 8 a 0) na z))) (by simp) mm3
              have mm4 := xu_of (t := (10, 12, 0)) (e := .inl (E.2.1 0, 150, .inl (upd (fun a => sg 8 a 0) na z))) (by simp) mm4
              have mm6 := xu_of (t := (10, 12, 0)) (e := .inl (E.2.1 0, 150, .inl (upd (fun a => sg 8 a 0) na z))) (by simp) mm6
              have mm7 := xu_of (t := (10, 12, 0)) (e := .inl (E.2.1 0, 150, .inl (upd (fun a => sg 8 a 0) na z))) (by simp) mm7
              have mm8 := xu_of (t := (10, 12, 0)) (e := .inl (E.2.1 0, 150, .inl (upd (fun a => sg 8 a 0) na z))) (by simp) mm8
              have mm9 := xu_of (t := (10, 12, 0)) (e := .inl (E.2.1 0, 150, .inl (upd (fun a => sg 8 a 0) na z))) (by simp) mm9
              have mm11 := xu_of (t := (10, 12, 0)) (e := .inl (E.2.1 0, 150, .inl (upd (fun a => sg 8 a 0) na z))) (by simp) mm11
              have mm13 := xu_of (t := (10, 12, 0)) (e := .inl (E.2.1 0, 150, .inl (upd (fun a => sg 8 a 0) na z))) (by simp) mm13
              have mm14 := xu_of (t := (10, 12, 0)) (e := .inl (E.2.1 0, 150, .inl (upd (fun a => sg 8 a 0) na z))) (by simp) mm14
              have mm15 := xu_of (t := (10, 12, 0)) (e := .inl (E.2.1 0, 150, .inl (upd (fun a => sg 8 a 0) na z))) (by simp) mm15
              have mm16 := xu_of (t := (10, 12, 0)) (e := .inl (E.2.1 0, 150, .inl (upd (fun a => sg 8 a 0) na z))) (by simp) mm16
              have mm17 := xu_of (t := (10, 12, 0)) (e := .inl (E.2.1 0, 150, .inl (upd (fun a => sg 8 a 0) na z))) (by simp) mm17
              have mm18 := xu_of (t := (10, 12, 0)) (e := .inl (E.2.1 0, 150, .inl (upd (fun a => sg 8 a 0) na z))) (by simp) mm18
              have mm12 : (xu (xu (xu (xu (xu w (10, 0, 0) (.inr (8, [.int (nI 0), .int (nI nw), .int (nI nf), .ref (al (10, 3, 0)), .ref (al (10, 4, 0)), .int (nI np), .ref (al (10, 6, 0)), .ref (al (10, 7, 0)), .ref (al (10, 8, 0)), .ref (al (10, 9, 0)), .int (nI na), .ref (al (10, 11, 0)), .ref (al (10, 12, 0)), .ref (al (10, 13, 0)), .ref (al (10, 14, 0)), .ref (al (10, 15, 0)), .ref (al (10, 16, 0)), .ref (al (10, 17, 0)), .ref (al (10, 18, 0))]))) (10, 18, 0) (.inl (E.2.1 0, 16, .inl fr9))) (10, 17, 0) (.inl (E.2.1 0, 36, .inl (upd (fun k => sg 13 (k / 6) (k % 6)) (6 * p + (fate nf na nw sg rc p z bit)) ((sg 13 p (fate nf na nw sg rc p z bit)) + nI 1))))) (10, 11, 0) (.inl (E.2.1 0, 150, .inl (upd (fun a => sg 7 a 0) na (nI p))))) (10, 12, 0) (.inl (E.2.1 0, 150, .inl (upd (fun a => sg 8 a 0) na z)))) (10, 12, 0) = some (.inl (E.2.1 0, 150, .inl (upd (fun a => sg 8 a 0) na z))) := xu_self _ _ _
              refine lv_aload_n hx hb dX7_ask_153 rfl (lv_at hl 7 rfl) ?_
              refine x_get C hH (ci := 8) (T := TX7) (N := 19) hM rfl iWX7 13 (by decide) qw_709 rfl rfl dX7_ask_154 ?_
              refine lv_aload_n hx hb dX7_ask_157 rfl (lv_at hl 7 rfl) ?_
              refine x_get C hH (ci := 8) (T := TX7) (N := 19) hM rfl iWX7 10 (by decide) qw_706 rfl rfl dX7_ask_158 ?_
              refine lv_iload_n hx hb dX7_ask_161 rfl (lv_at hl 4 rfl) ?_
              refine x_iast C hH hS mm13 (j := na) rfl (by omega) (by omega) dX7_ask_162 (fun H locs hH hS => ?_)
              have hM := xu_of (t := (10, 13, 0)) (e := .inl (E.2.1 0, 150, .inl (upd (fun a => sg 9 a 0) na bit))) (by simp) hM
              have mm3 := xu_of (t := (10, 13, 0)) (e := .inl (E.2.1 0, 150, .inl (upd (fun a => sg 9 a 0) na bit))) (by simp) mm3
              have mm4 := xu_of (t := (10, 13, 0)) (e := .inl (E.2.1 0, 150, .inl (upd (fun a => sg 9 a 0) na bit))) (by simp) mm4
              have mm6 := xu_of (t := (10, 13, 0)) (e := .inl (E.2.1 0, 150, .inl (upd (fun a => sg 9 a 0) na bit))) (by simp) mm6
              have mm7 := xu_of (t := (10, 13, 0)) (e := .inl (E.2.1 0, 150, .inl (upd (fun a => sg 9 a 0) na bit))) (by simp) mm7
              have mm8 := xu_of (t := (10, 13, 0)) (e := .inl (E.2.1 0, 150, .inl (upd (fun a => sg 9 a 0) na bit))) (by simp) mm8
              have mm9 := xu_of (t := (10, 13, 0)) (e := .inl (E.2.1 0, 150, .inl (upd (fun a => sg 9 a 0) na bit))) (by simp) mm9
              have mm11 := xu_of (t := (10, 13, 0)) (e := .inl (E.2.1 0, 150, .inl (upd (fun a => sg 9 a 0) na bit))) (by simp) mm11
              have mm12 := xu_of (t := (10, 13, 0)) (e := .inl (E.2.1 0, 150, .inl (upd (fun a => sg 9 a 0) na bit))) (by simp) mm12
              have mm14 := xu_of (t := (10, 13, 0)) (e := .inl (E.2.1 0, 150, .inl (upd (fun a => sg 9 a 0) na bit))) (by simp) mm14
              have mm15 := xu_of (t := (10, 13, 0)) (e := .inl (E.2.1 0, 150, .inl (upd (fun a => sg 9 a 0) na bit))) (by simp) mm15
              have mm16 := xu_of (t := (10, 13, 0)) (e := .inl (E.2.1 0, 150, .inl (upd (fun a => sg 9 a 0) na bit))) (by simp) mm16
              have mm17 := xu_of (t := (10, 13, 0)) (e := .inl (E.2.1 0, 150, .inl (upd (fun a => sg 9 a 0) na bit))) (by simp) mm17
              have mm18 := xu_of (t := (10, 13, 0)) (e := .inl (E.2.1 0, 150, .inl (upd (fun a => sg 9 a 0) na bit))) (by simp) mm18
              have mm13 : (xu (xu (xu (xu (xu (xu w (10, 0, 0) (.inr (8, [.int (nI 0), .int (nI nw), .int (nI nf), .ref (al (10, 3, 0)), .ref (al (10, 4, 0)), .int (nI np), .ref (al (10, 6, 0)), .ref (al (10, 7, 0)), .ref (al (10, 8, 0)), .ref (al (10, 9, 0)), .int (nI na), .ref (al (10, 11, 0)), .ref (al (10, 12, 0)), .ref (al (10, 13, 0)), .ref (al (10, 14, 0)), .ref (al (10, 15, 0)), .ref (al (10, 16, 0)), .ref (al (10, 17, 0)), .ref (al (10, 18, 0))]))) (10, 18, 0) (.inl (E.2.1 0, 16, .inl fr9))) (10, 17, 0) (.inl (E.2.1 0, 36, .inl (upd (fun k => sg 13 (k / 6) (k % 6)) (6 * p + (fate nf na nw sg rc p z bit)) ((sg 13 p (fate nf na nw sg rc p z bit)) + nI 1))))) (10, 11, 0) (.inl (E.2.1 0, 150, .inl (upd (fun a => sg 7 a 0) na (nI p))))) (10, 12, 0) (.inl (E.2.1 0, 150, .inl (upd (fun a => sg 8 a 0) na z)))) (10, 13, 0) (.inl (E.2.1 0, 150, .inl (upd (fun a => sg 9 a 0) na bit)))) (10, 13, 0) = some (.inl (E.2.1 0, 150, .inl (upd (fun a => sg 9 a 0) na bit))) := xu_self _ _ _
              refine lv_aload_n hx hb dX7_ask_163 rfl (lv_at hl 7 rfl) ?_
              refine x_get C hH (ci := 8) (T := TX7) (N := 19) hM rfl iWX7 14 (by decide) qw_710 rfl rfl dX7_ask_164 ?_
              refine lv_aload_n hx hb dX7_ask_167 rfl (lv_at hl 7 rfl) ?_
              refine x_get C hH (ci := 8) (T := TX7) (N := 19) hM rfl iWX7 10 (by decide) qw_706 rfl rfl dX7_ask_168 ?_
              refine lv_iload_n hx hb dX7_ask_171 rfl (lv_at hl 4 rfl) ?_
              refine lv_iconst (v := (-1)) hx hb dX7_ask_172 (by decide +kernel) ?_
              refine lv_icmp_ne (tgt := 181) hx hb dX7_ask_173 (by decide) (fun c_15 => ?_) (fun c_15 => ?_)
              · skip
                refine lv_iload hx hb dX7_ask_181 (lv_at hl 1 rfl) ?_
                refine lv_iload_n hx hb dX7_ask_183 rfl (lv_at hl 4 rfl) ?_
                refine lv_ishr hx hb dX7_ask_184 ?_
                refine lv_iconst (v := nI 1) hx hb dX7_ask_185 (by decide +kernel) ?_
                refine lv_iand hx hb dX7_ask_186 ?_
                refine x_iast C hH hS mm14 (j := na) rfl (by omega) (by omega) dX7_ask_187 (fun H locs hH hS => ?_)
                have hM := xu_of (t := (10, 14, 0)) (e := .inl (E.2.1 0, 150, .inl (upd (fun a => sg 10 a 0) na ((y >>> (bit &&& 31)) &&& nI 1)))) (by simp) hM
                have mm3 := xu_of (t := (10, 14, 0)) (e := .inl (E.2.1 0, 150, .inl (upd (fun a => sg 10 a 0) na ((y >>> (bit &&& 31)) &&& nI 1)))) (by simp) mm3
                have mm4 := xu_of (t := (10, 14, 0)) (e := .inl (E.2.1 0, 150, .inl (upd (fun a => sg 10 a 0) na ((y >>> (bit &&& 31)) &&& nI 1)))) (by simp) mm4
                have mm6 := xu_of (t := (10, 14, 0)) (e := .inl (E.2.1 0, 150, .inl (upd (fun a => sg 10 a 0) na ((y >>> (bit &&& 31)) &&& nI 1)))) (by simp) mm6
                have mm7 := xu_of (t := (10, 14, 0)) (e := .inl (E.2.1 0, 150, .inl (upd (fun a => sg 10 a 0) na ((y >>> (bit &&& 31)) &&& nI 1)))) (by simp) mm7
                have mm8 := xu_of (t := (10, 14, 0)) (e := .inl (E.2.1 0, 150, .inl (upd (fun a => sg 10 a 0) na ((y >>> (bit &&& 31)) &&& nI 1)))) (by simp) mm8
                have mm9 := xu_of (t := (10, 14, 0)) (e := .inl (E.2.1 0, 150, .inl (upd (fun a => sg 10 a 0) na ((y >>> (bit &&& 31)) &&& nI 1)))) (by simp) mm9
                have mm11 := xu_of (t := (10, 14, 0)) (e := .inl (E.2.1 0, 150, .inl (upd (fun a => sg 10 a 0) na ((y >>> (bit &&& 31)) &&& nI 1)))) (by simp) mm11
                have mm12 := xu_of (t := (10, 14, 0)) (e := .inl (E.2.1 0, 150, .inl (upd (fun a => sg 10 a 0) na ((y >>> (bit &&& 31)) &&& nI 1)))) (by simp) mm12
                have mm13 := xu_of (t := (10, 14, 0)) (e := .inl (E.2.1 0, 150, .inl (upd (fun a => sg 10 a 0) na ((y >>> (bit &&& 31)) &&& nI 1)))) (by simp) mm13
                have mm15 := xu_of (t := (10, 14, 0)) (e := .inl (E.2.1 0, 150, .inl (upd (fun a => sg 10 a 0) na ((y >>> (bit &&& 31)) &&& nI 1)))) (by simp) mm15
                have mm16 := xu_of (t := (10, 14, 0)) (e := .inl (E.2.1 0, 150, .inl (upd (fun a => sg 10 a 0) na ((y >>> (bit &&& 31)) &&& nI 1)))) (by simp) mm16
                have mm17 := xu_of (t := (10, 14, 0)) (e := .inl (E.2.1 0, 150, .inl (upd (fun a => sg 10 a 0) na ((y >>> (bit &&& 31)) &&& nI 1)))) (by simp) mm17
                have mm18 := xu_of (t := (10, 14, 0)) (e := .inl (E.2.1 0, 150, .inl (upd (fun a => sg 10 a 0) na ((y >>> (bit &&& 31)) &&& nI 1)))) (by simp) mm18
                have mm14 : (xu (xu (xu (xu (xu (xu (xu w (10, 0, 0) (.inr (8, [.int (nI 0), .int (nI nw), .int (nI nf), .ref (al (10, 3, 0)), .ref (al (10, 4, 0)), .int (nI np), .ref (al (10, 6, 0)), .ref (al (10, 7, 0)), .ref (al (10, 8, 0)), .ref (al (10, 9, 0)), .int (nI na), .ref (al (10, 11, 0)), .ref (al (10, 12, 0)), .ref (al (10, 13, 0)), .ref (al (10, 14, 0)), .ref (al (10, 15, 0)), .ref (al (10, 16, 0)), .ref (al (10, 17, 0)), .ref (al (10, 18, 0))]))) (10, 18, 0) (.inl (E.2.1 0, 16, .inl fr9))) (10, 17, 0) (.inl (E.2.1 0, 36, .inl (upd (fun k => sg 13 (k / 6) (k % 6)) (6 * p + (fate nf na nw sg rc p z bit)) ((sg 13 p (fate nf na nw sg rc p z bit)) + nI 1))))) (10, 11, 0) (.inl (E.2.1 0, 150, .inl (upd (fun a => sg 7 a 0) na (nI p))))) (10, 12, 0) (.inl (E.2.1 0, 150, .inl (upd (fun a => sg 8 a 0) na z)))) (10, 13, 0) (.inl (E.2.1 0, 150, .inl (upd (fun a => sg 9 a 0) na bit)))) (10, 14, 0) (.inl (E.2.1 0, 150, .inl (upd (fun a => sg 10 a 0) na ((y >>> (bit &&& 31)) &&& nI 1))))) (10, 14, 0) = some (.inl (E.2.1 0, 150, .inl (upd (fun a => sg 10 a 0) na ((y >>> (bit &&& 31)) &&& nI 1)))) := xu_self _ _ _
                refine lv_aload_n hx hb dX7_ask_188 rfl (lv_at hl 7 rfl) ?_
                refine x_get C hH (ci := 8) (T := TX7) (N := 19) hM rfl iWX7 15 (by decide) qw_711 rfl rfl dX7_ask_189 ?_
                refine lv_aload_n hx hb dX7_ask_192 rfl (lv_at hl 7 rfl) ?_
                refine x_get C hH (ci := 8) (T := TX7) (N := 19) hM rfl iWX7 10 (by decide) qw_706 rfl rfl dX7_ask_193 ?_
                refine lv_aload_n hx hb dX7_ask_196 rfl (lv_at hl 7 rfl) ?_
                refine x_get C hH (ci := 8) (T := TX7) (N := 19) hM rfl iWX7 1 (by decide) qw_697 rfl rfl dX7_ask_197 ?_
                refine x_iast C hH hS mm15 (j := na) rfl (by omega) (by omega) dX7_ask_200 (fun H locs hH hS => ?_)
                have hM := xu_of (t := (10, 15, 0)) (e := .inl (E.2.1 0, 150, .inl (upd (fun a => sg 11 a 0) na (nI nw)))) (by simp) hM
                have mm3 := xu_of (t := (10, 15, 0)) (e := .inl (E.2.1 0, 150, .inl (upd (fun a => sg 11 a 0) na (nI nw)))) (by simp) mm3
                have mm4 := xu_of (t := (10, 15, 0)) (e := .inl (E.2.1 0, 150, .inl (upd (fun a => sg 11 a 0) na (nI nw)))) (by simp) mm4
                have mm6 := xu_of (t := (10, 15, 0)) (e := .inl (E.2.1 0, 150, .inl (upd (fun a => sg 11 a 0) na (nI nw)))) (by simp) mm6
                have mm7 := xu_of (t := (10, 15, 0)) (e := .inl (E.2.1 0, 150, .inl (upd (fun a => sg 11 a 0) na (nI nw)))) (by simp) mm7
                have mm8 := xu_of (t := (10, 15, 0)) (e := .inl (E.2.1 0, 150, .inl (upd (fun a => sg 11 a 0) na (nI nw)))) (by simp) mm8
                have mm9 := xu_of (t := (10, 15, 0)) (e := .inl (E.2.1 0, 150, .inl (upd (fun a => sg 11 a 0) na (nI nw)))) (by simp) mm9
                have mm11 := xu_of (t := (10, 15, 0)) (e := .inl (E.2.1 0, 150, .inl (upd (fun a => sg 11 a 0) na (nI nw)))) (by simp) mm11
                have mm12 := xu_of (t := (10, 15, 0)) (e := .inl (E.2.1 0, 150, .inl (upd (fun a => sg 11 a 0) na (nI nw)))) (by simp) mm12
                have mm13 := xu_of (t := (10, 15, 0)) (e := .inl (E.2.1 0, 150, .inl (upd (fun a => sg 11 a 0) na (nI nw)))) (by simp) mm13
                have mm14 := xu_of (t := (10, 15, 0)) (e := .inl (E.2.1 0, 150, .inl (upd (fun a => sg 11 a 0) na (nI nw)))) (by simp) mm14
                have mm16 := xu_of (t := (10, 15, 0)) (e := .inl (E.2.1 0, 150, .inl (upd (fun a => sg 11 a 0) na (nI nw)))) (by simp) mm16
                have mm17 := xu_of (t := (10, 15, 0)) (e := .inl (E.2.1 0, 150, .inl (upd (fun a => sg 11 a 0) na (nI nw)))) (by simp) mm17
                have mm18 := xu_of (t := (10, 15, 0)) (e := .inl (E.2.1 0, 150, .inl (upd (fun a => sg 11 a 0) na (nI nw)))) (by simp) mm18
                have mm15 : (xu (xu (xu (xu (xu (xu (xu (xu w (10, 0, 0) (.inr (8, [.int (nI 0), .int (nI nw), .int (nI nf), .ref (al (10, 3, 0)), .ref (al (10, 4, 0)), .int (nI np), .ref (al (10, 6, 0)), .ref (al (10, 7, 0)), .ref (al (10, 8, 0)), .ref (al (10, 9, 0)), .int (nI na), .ref (al (10, 11, 0)), .ref (al (10, 12, 0)), .ref (al (10, 13, 0)), .ref (al (10, 14, 0)), .ref (al (10, 15, 0)), .ref (al (10, 16, 0)), .ref (al (10, 17, 0)), .ref (al (10, 18, 0))]))) (10, 18, 0) (.inl (E.2.1 0, 16, .inl fr9))) (10, 17, 0) (.inl (E.2.1 0, 36, .inl (upd (fun k => sg 13 (k / 6) (k % 6)) (6 * p + (fate nf na nw sg rc p z bit)) ((sg 13 p (fate nf na nw sg rc p z bit)) + nI 1))))) (10, 11, 0) (.inl (E.2.1 0, 150, .inl (upd (fun a => sg 7 a 0) na (nI p))))) (10, 12, 0) (.inl (E.2.1 0, 150, .inl (upd (fun a => sg 8 a 0) na z)))) (10, 13, 0) (.inl (E.2.1 0, 150, .inl (upd (fun a => sg 9 a 0) na bit)))) (10, 14, 0) (.inl (E.2.1 0, 150, .inl (upd (fun a => sg 10 a 0) na ((y >>> (bit &&& 31)) &&& nI 1))))) (10, 15, 0) (.inl (E.2.1 0, 150, .inl (upd (fun a => sg 11 a 0) na (nI nw))))) (10, 15, 0) = some (.inl (E.2.1 0, 150, .inl (upd (fun a => sg 11 a 0) na (nI nw)))) := xu_self _ _ _
                refine lv_aload_n hx hb dX7_ask_201 rfl (lv_at hl 7 rfl) ?_
                refine lv_dup hx hb dX7_ask_202 rfl ?_
                refine x_get C hH (ci := 8) (T := TX7) (N := 19) hM rfl iWX7 10 (by decide) qw_706 rfl rfl dX7_ask_203 ?_
                refine lv_iconst (v := nI 1) hx hb dX7_ask_206 (by decide +kernel) ?_
                refine lv_iadd hx hb dX7_ask_207 ?_
                refine lv_re (nI_add _ _) ?_
                refine x_put C hH hS (ci := 8) (T := TX7) (N := 19) (fs' := [.int (nI 0), .int (nI nw), .int (nI nf), .ref (al (10, 3, 0)), .ref (al (10, 4, 0)), .int (nI np), .ref (al (10, 6, 0)), .ref (al (10, 7, 0)), .ref (al (10, 8, 0)), .ref (al (10, 9, 0)), .int (nI (na + 1)), .ref (al (10, 11, 0)), .ref (al (10, 12, 0)), .ref (al (10, 13, 0)), .ref (al (10, 14, 0)), .ref (al (10, 15, 0)), .ref (al (10, 16, 0)), .ref (al (10, 17, 0)), .ref (al (10, 18, 0))]) hM rfl iWX7 tyX7 tyX7_ok nmX7 10 (by decide) qw_706 rfl rfl rfl rfl (Nat.le_of_ble_eq_true rfl) rfl dX7_ask_208 (fun H locs hH hS => ?_)
                have mm3 := xu_of (t := (10, 0, 0)) (e := .inr (8, [.int (nI 0), .int (nI nw), .int (nI nf), .ref (al (10, 3, 0)), .ref (al (10, 4, 0)), .int (nI np), .ref (al (10, 6, 0)), .ref (al (10, 7, 0)), .ref (al (10, 8, 0)), .ref (al (10, 9, 0)), .int (nI (na + 1)), .ref (al (10, 11, 0)), .ref (al (10, 12, 0)), .ref (al (10, 13, 0)), .ref (al (10, 14, 0)), .ref (al (10, 15, 0)), .ref (al (10, 16, 0)), .ref (al (10, 17, 0)), .ref (al (10, 18, 0))])) (by simp) mm3
                have mm4 := xu_of (t := (10, 0, 0)) (e := .inr (8, [.int (nI 0), .int (nI nw), .int (nI nf), .ref (al (10, 3, 0)), .ref (al (10, 4, 0)), .int (nI np), .ref (al (10, 6, 0)), .ref (al (10, 7, 0)), .ref (al (10, 8, 0)), .ref (al (10, 9, 0)), .int (nI (na + 1)), .ref (al (10, 11, 0)), .ref (al (10, 12, 0)), .ref (al (10, 13, 0)), .ref (al (10, 14, 0)), .ref (al (10, 15, 0)), .ref (al (10, 16, 0)), .ref (al (10, 17, 0)), .ref (al (10, 18, 0))])) (by simp) mm4
                have mm6 := xu_of (t := (10, 0, 0)) (e := .inr (8, [.int (nI 0), .int (nI nw), .int (nI nf), .ref (al (10, 3, 0)), .ref (al (10, 4, 0)), .int (nI np), .ref (al (10, 6, 0)), .ref (al (10, 7, 0)), .ref (al (10, 8, 0)), .ref (al (10, 9, 0)), .int (nI (na + 1)), .ref (al (10, 11, 0)), .ref (al (10, 12, 0)), .ref (al (10, 13, 0)), .ref (al (10, 14, 0)), .ref (al (10, 15, 0)), .ref (al (10, 16, 0)), .ref (al (10, 17, 0)), .ref (al (10, 18, 0))])) (by simp) mm6
                have mm7 := xu_of (t := (10, 0, 0)) (e := .inr (8, [.int (nI 0), .int (nI nw), .int (nI nf), .ref (al (10, 3, 0)), .ref (al (10, 4, 0)), .int (nI np), .ref (al (10, 6, 0)), .ref (al (10, 7, 0)), .ref (al (10, 8, 0)), .ref (al (10, 9, 0)), .int (nI (na + 1)), .ref (al (10, 11, 0)), .ref (al (10, 12, 0)), .ref (al (10, 13, 0)), .ref (al (10, 14, 0)), .ref (al (10, 15, 0)), .ref (al (10, 16, 0)), .ref (al (10, 17, 0)), .ref (al (10, 18, 0))])) (by simp) mm7
                have mm8 := xu_of (t := (10, 0, 0)) (e := .inr (8, [.int (nI 0), .int (nI nw), .int (nI nf), .ref (al (10, 3, 0)), .ref (al (10, 4, 0)), .int (nI np), .ref (al (10, 6, 0)), .ref (al (10, 7, 0)), .ref (al (10, 8, 0)), .ref (al (10, 9, 0)), .int (nI (na + 1)), .ref (al (10, 11, 0)), .ref (al (10, 12, 0)), .ref (al (10, 13, 0)), .ref (al (10, 14, 0)), .ref (al (10, 15, 0)), .ref (al (10, 16, 0)), .ref (al (10, 17, 0)), .ref (al (10, 18, 0))])) (by simp) mm8
                have mm9 := xu_of (t := (10, 0, 0)) (e := .inr (8, [.int (nI 0), .int (nI nw), .int (nI nf), .ref (al (10, 3, 0)), .ref (al (10, 4, 0)), .int (nI np), .ref (al (10, 6, 0)), .ref (al (10, 7, 0)), .ref (al (10, 8, 0)), .ref (al (10, 9, 0)), .int (nI (na + 1)), .ref (al (10, 11, 0)), .ref (al (10, 12, 0)), .ref (al (10, 13, 0)), .ref (al (10, 14, 0)), .ref (al (10, 15, 0)), .ref (al (10, 16, 0)), .ref (al (10, 17, 0)), .ref (al (10, 18, 0))])) (by simp) mm9
                have mm11 := xu_of (t := (10, 0, 0)) (e := .inr (8, [.int (nI 0), .int (nI nw), .int (nI nf), .ref (al (10, 3, 0)), .ref (al (10, 4, 0)), .int (nI np), .ref (al (10, 6, 0)), .ref (al (10, 7, 0)), .ref (al (10, 8, 0)), .ref (al (10, 9, 0)), .int (nI (na + 1)), .ref (al (10, 11, 0)), .ref (al (10, 12, 0)), .ref (al (10, 13, 0)), .ref (al (10, 14, 0)), .ref (al (10, 15, 0)), .ref (al (10, 16, 0)), .ref (al (10, 17, 0)), .ref (al (10, 18, 0))])) (by simp) mm11
                have mm12 := xu_of (t := (10, 0, 0)) (e := .inr (8, [.int (nI 0), .int (nI nw), .int (nI nf), .ref (al (10, 3, 0)), .ref (al (10, 4, 0)), .int (nI np), .ref (al (10, 6, 0)), .ref (al (10, 7, 0)), .ref (al (10, 8, 0)), .ref (al (10, 9, 0)), .int (nI (na + 1)), .ref (al (10, 11, 0)), .ref (al (10, 12, 0)), .ref (al (10, 13, 0)), .ref (al (10, 14, 0)), .ref (al (10, 15, 0)), .ref (al (10, 16, 0)), .ref (al (10, 17, 0)), .ref (al (10, 18, 0))])) (by simp) mm12
                have mm13 := xu_of (t := (10, 0, 0)) (e := .inr (8, [.int (nI 0), .int (nI nw), .int (nI nf), .ref (al (10, 3, 0)), .ref (al (10, 4, 0)), .int (nI np), .ref (al (10, 6, 0)), .ref (al (10, 7, 0)), .ref (al (10, 8, 0)), .ref (al (10, 9, 0)), .int (nI (na + 1)), .ref (al (10, 11, 0)), .ref (al (10, 12, 0)), .ref (al (10, 13, 0)), .ref (al (10, 14, 0)), .ref (al (10, 15, 0)), .ref (al (10, 16, 0)), .ref (al (10, 17, 0)), .ref (al (10, 18, 0))])) (by simp) mm13
                have mm14 := xu_of (t := (10, 0, 0)) (e := .inr (8, [.int (nI 0), .int (nI nw), .int (nI nf), .ref (al (10, 3, 0)), .ref (al (10, 4, 0)), .int (nI np), .ref (al (10, 6, 0)), .ref (al (10, 7, 0)), .ref (al (10, 8, 0)), .ref (al (10, 9, 0)), .int (nI (na + 1)), .ref (al (10, 11, 0)), .ref (al (10, 12, 0)), .ref (al (10, 13, 0)), .ref (al (10, 14, 0)), .ref (al (10, 15, 0)), .ref (al (10, 16, 0)), .ref (al (10, 17, 0)), .ref (al (10, 18, 0))])) (by simp) mm14
                have mm15 := xu_of (t := (10, 0, 0)) (e := .inr (8, [.int (nI 0), .int (nI nw), .int (nI nf), .ref (al (10, 3, 0)), .ref (al (10, 4, 0)), .int (nI np), .ref (al (10, 6, 0)), .ref (al (10, 7, 0)), .ref (al (10, 8, 0)), .ref (al (10, 9, 0)), .int (nI (na + 1)), .ref (al (10, 11, 0)), .ref (al (10, 12, 0)), .ref (al (10, 13, 0)), .ref (al (10, 14, 0)), .ref (al (10, 15, 0)), .ref (al (10, 16, 0)), .ref (al (10, 17, 0)), .ref (al (10, 18, 0))])) (by simp) mm15
                have mm16 := xu_of (t := (10, 0, 0)) (e := .inr (8, [.int (nI 0), .int (nI nw), .int (nI nf), .ref (al (10, 3, 0)), .ref (al (10, 4, 0)), .int (nI np), .ref (al (10, 6, 0)), .ref (al (10, 7, 0)), .ref (al (10, 8, 0)), .ref (al (10, 9, 0)), .int (nI (na + 1)), .ref (al (10, 11, 0)), .ref (al (10, 12, 0)), .ref (al (10, 13, 0)), .ref (al (10, 14, 0)), .ref (al (10, 15, 0)), .ref (al (10, 16, 0)), .ref (al (10, 17, 0)), .ref (al (10, 18, 0))])) (by simp) mm16
                have mm17 := xu_of (t := (10, 0, 0)) (e := .inr (8, [.int (nI 0), .int (nI nw), .int (nI nf), .ref (al (10, 3, 0)), .ref (al (10, 4, 0)), .int (nI np), .ref (al (10, 6, 0)), .ref (al (10, 7, 0)), .ref (al (10, 8, 0)), .ref (al (10, 9, 0)), .int (nI (na + 1)), .ref (al (10, 11, 0)), .ref (al (10, 12, 0)), .ref (al (10, 13, 0)), .ref (al (10, 14, 0)), .ref (al (10, 15, 0)), .ref (al (10, 16, 0)), .ref (al (10, 17, 0)), .ref (al (10, 18, 0))])) (by simp) mm17
                have mm18 := xu_of (t := (10, 0, 0)) (e := .inr (8, [.int (nI 0), .int (nI nw), .int (nI nf), .ref (al (10, 3, 0)), .ref (al (10, 4, 0)), .int (nI np), .ref (al (10, 6, 0)), .ref (al (10, 7, 0)), .ref (al (10, 8, 0)), .ref (al (10, 9, 0)), .int (nI (na + 1)), .ref (al (10, 11, 0)), .ref (al (10, 12, 0)), .ref (al (10, 13, 0)), .ref (al (10, 14, 0)), .ref (al (10, 15, 0)), .ref (al (10, 16, 0)), .ref (al (10, 17, 0)), .ref (al (10, 18, 0))])) (by simp) mm18
                have hM : (xu (xu (xu (xu (xu (xu (xu (xu (xu w (10, 0, 0) (.inr (8, [.int (nI 0), .int (nI nw), .int (nI nf), .ref (al (10, 3, 0)), .ref (al (10, 4, 0)), .int (nI np), .ref (al (10, 6, 0)), .ref (al (10, 7, 0)), .ref (al (10, 8, 0)), .ref (al (10, 9, 0)), .int (nI na), .ref (al (10, 11, 0)), .ref (al (10, 12, 0)), .ref (al (10, 13, 0)), .ref (al (10, 14, 0)), .ref (al (10, 15, 0)), .ref (al (10, 16, 0)), .ref (al (10, 17, 0)), .ref (al (10, 18, 0))]))) (10, 18, 0) (.inl (E.2.1 0, 16, .inl fr9))) (10, 17, 0) (.inl (E.2.1 0, 36, .inl (upd (fun k => sg 13 (k / 6) (k % 6)) (6 * p + (fate nf na nw sg rc p z bit)) ((sg 13 p (fate nf na nw sg rc p z bit)) + nI 1))))) (10, 11, 0) (.inl (E.2.1 0, 150, .inl (upd (fun a => sg 7 a 0) na (nI p))))) (10, 12, 0) (.inl (E.2.1 0, 150, .inl (upd (fun a => sg 8 a 0) na z)))) (10, 13, 0) (.inl (E.2.1 0, 150, .inl (upd (fun a => sg 9 a 0) na bit)))) (10, 14, 0) (.inl (E.2.1 0, 150, .inl (upd (fun a => sg 10 a 0) na ((y >>> (bit &&& 31)) &&& nI 1))))) (10, 15, 0) (.inl (E.2.1 0, 150, .inl (upd (fun a => sg 11 a 0) na (nI nw))))) (10, 0, 0) (.inr (8, [.int (nI 0), .int (nI nw), .int (nI nf), .ref (al (10, 3, 0)), .ref (al (10, 4, 0)), .int (nI np), .ref (al (10, 6, 0)), .ref (al (10, 7, 0)), .ref (al (10, 8, 0)), .ref (al (10, 9, 0)), .int (nI (na + 1)), .ref (al (10, 11, 0)), .ref (al (10, 12, 0)), .ref (al (10, 13, 0)), .ref (al (10, 14, 0)), .ref (al (10, 15, 0)), .ref (al (10, 16, 0)), .ref (al (10, 17, 0)), .ref (al (10, 18, 0))]))) (10, 0, 0) = some (.inr (8, [.int (nI 0), .int (nI nw), .int (nI nf), .ref (al (10, 3, 0)), .ref (al (10, 4, 0)), .int (nI np), .ref (al (10, 6, 0)), .ref (al (10, 7, 0)), .ref (al (10, 8, 0)), .ref (al (10, 9, 0)), .int (nI (na + 1)), .ref (al (10, 11, 0)), .ref (al (10, 12, 0)), .ref (al (10, 13, 0)), .ref (al (10, 14, 0)), .ref (al (10, 15, 0)), .ref (al (10, 16, 0)), .ref (al (10, 17, 0)), .ref (al (10, 18, 0))])) := xu_self _ _ _
                refine lv_aload_n hx hb dX7_ask_211 rfl (lv_at hl 7 rfl) ?_
                refine x_get C hH (ci := 8) (T := TX7) (N := 19) hM rfl iWX7 14 (by decide) qw_710 rfl rfl dX7_ask_212 ?_
                refine lv_aload_n hx hb dX7_ask_215 rfl (lv_at hl 7 rfl) ?_
                refine x_get C hH (ci := 8) (T := TX7) (N := 19) hM rfl iWX7 10 (by decide) qw_706 rfl rfl dX7_ask_216 ?_
                refine lv_iconst (v := nI 1) hx hb dX7_ask_219 (by decide +kernel) ?_
                refine lv_isub hx hb dX7_ask_220 ?_
                refine lv_re (dI_sub _) ?_
                refine x_iald C hH mm14 (j := na) (dI_s _) (by omega) (by omega) dX7_ask_221 ?_
                refine lv_re (y := ((y >>> (bit &&& 31)) &&& nI 1)) (if_pos rfl) ?_
                have hf0 : (fate nf na nw sg rc p z bit) = 0 := neg_0.mp c_13
                have ht9 : ((y >>> (bit &&& 31)) &&& nI 1) = (tel bit (xoR z (fun f => sg 1 f 0) nf)) := (by unfold tel; rw [if_neg c_15, ← hy])
                have q9 := hMM3.told (s0 := sg) (z := z) (bit := bit) (s := ((y >>> (bit &&& 31)) &&& nI 1)) (p := p) (fun k h1 h2 => (u3_k (by omega)).symm)
                rw [hf0, ht9] at q9
                rw [hf0, ht9] at hH
                rw [← hQ]
                refine x_reti C rfl hS (Nat.le_of_ble_eq_true rfl) (Nat.le_of_ble_eq_true rfl) dX7_ask_222 ?_
                rw [hpost]
                exact ⟨⟨_, rfl⟩, Or.inr (Or.inr (Or.inr ⟨p, hp9, rfl, hQ9, hn9, Or.inr ⟨hf0, by rw [ht9], PM_of hH q9 (fun t ht => by rw [xu_ne (fun e => ht (by rw [e])), xu_ne (fun e => ht (by rw [e])), xu_ne (fun e => ht (by rw [e])), xu_ne (fun e => ht (by rw [e])), xu_ne (fun e => ht (by rw [e])), xu_ne (fun e => ht (by rw [e])), xu_ne (fun e => ht (by rw [e])), xu_ne (fun e => ht (by rw [e])), xu_ne (fun e => ht (by rw [e]))])⟩⟩))⟩
              · skip
                refine lv_iload hx hb dX7_ask_176 (lv_at hl 1 rfl) ?_
                refine lv_goto (tgt := 187) hx hb dX7_ask_178 (by decide) ?_
                refine x_iast C hH hS mm14 (j := na) rfl (by omega) (by omega) dX7_ask_187 (fun H locs hH hS => ?_)
                have hM := xu_of (t := (10, 14, 0)) (e := .inl (E.2.1 0, 150, .inl (upd (fun a => sg 10 a 0) na y))) (by simp) hM
                have mm3 := xu_of (t := (10, 14, 0)) (e := .inl (E.2.1 0, 150, .inl (upd (fun a => sg 10 a 0) na y))) (by simp) mm3
                have mm4 := xu_of (t := (10, 14, 0)) (e := .inl (E.2.1 0, 150, .inl (upd (fun a => sg 10 a 0) na y))) (by simp) mm4
                have mm6 := xu_of (t := (10, 14, 0)) (e := .inl (E.2.1 0, 150, .inl (upd (fun a => sg 10 a 0) na y))) (by simp) mm6
                have mm7 := xu_of (t := (10, 14, 0)) (e := .inl (E.2.1 0, 150, .inl (upd (fun a => sg 10 a 0) na y))) (by simp) mm7
                have mm8 := xu_of (t := (10, 14, 0)) (e := .inl (E.2.1 0, 150, .inl (upd (fun a => sg 10 a 0) na y))) (by simp) mm8
                have mm9 := xu_of (t := (10, 14, 0)) (e := .inl (E.2.1 0, 150, .inl (upd (fun a => sg 10 a 0) na y))) (by simp) mm9
                have mm11 := xu_of (t := (10, 14, 0)) (e := .inl (E.2.1 0, 150, .inl (upd (fun a => sg 10 a 0) na y))) (by simp) mm11
                have mm12 := xu_of (t := (10, 14, 0)) (e := .inl (E.2.1 0, 150, .inl (upd (fun a => sg 10 a 0) na y))) (by simp) mm12
                have mm13 := xu_of (t := (10, 14, 0)) (e := .inl (E.2.1 0, 150, .inl (upd (fun a => sg 10 a 0) na y))) (by simp) mm13
                have mm15 := xu_of (t := (10, 14, 0)) (e := .inl (E.2.1 0, 150, .inl (upd (fun a => sg 10 a 0) na y))) (by simp) mm15
                have mm16 := xu_of (t := (10, 14, 0)) (e := .inl (E.2.1 0, 150, .inl (upd (fun a => sg 10 a 0) na y))) (by simp) mm16
                have mm17 := xu_of (t := (10, 14, 0)) (e := .inl (E.2.1 0, 150, .inl (upd (fun a => sg 10 a 0) na y))) (by simp) mm17
                have mm18 := xu_of (t := (10, 14, 0)) (e := .inl (E.2.1 0, 150, .inl (upd (fun a => sg 10 a 0) na y))) (by simp) mm18
                have mm14 : (xu (xu (xu (xu (xu (xu (xu w (10, 0, 0) (.inr (8, [.int (nI 0), .int (nI nw), .int (nI nf), .ref (al (10, 3, 0)), .ref (al (10, 4, 0)), .int (nI np), .ref (al (10, 6, 0)), .ref (al (10, 7, 0)), .ref (al (10, 8, 0)), .ref (al (10, 9, 0)), .int (nI na), .ref (al (10, 11, 0)), .ref (al (10, 12, 0)), .ref (al (10, 13, 0)), .ref (al (10, 14, 0)), .ref (al (10, 15, 0)), .ref (al (10, 16, 0)), .ref (al (10, 17, 0)), .ref (al (10, 18, 0))]))) (10, 18, 0) (.inl (E.2.1 0, 16, .inl fr9))) (10, 17, 0) (.inl (E.2.1 0, 36, .inl (upd (fun k => sg 13 (k / 6) (k % 6)) (6 * p + (fate nf na nw sg rc p z bit)) ((sg 13 p (fate nf na nw sg rc p z bit)) + nI 1))))) (10, 11, 0) (.inl (E.2.1 0, 150, .inl (upd (fun a => sg 7 a 0) na (nI p))))) (10, 12, 0) (.inl (E.2.1 0, 150, .inl (upd (fun a => sg 8 a 0) na z)))) (10, 13, 0) (.inl (E.2.1 0, 150, .inl (upd (fun a => sg 9 a 0) na bit)))) (10, 14, 0) (.inl (E.2.1 0, 150, .inl (upd (fun a => sg 10 a 0) na y)))) (10, 14, 0) = some (.inl (E.2.1 0, 150, .inl (upd (fun a => sg 10 a 0) na y))) := xu_self _ _ _
                refine lv_aload_n hx hb dX7_ask_188 rfl (lv_at hl 7 rfl) ?_
                refine x_get C hH (ci := 8) (T := TX7) (N := 19) hM rfl iWX7 15 (by decide) qw_711 rfl rfl dX7_ask_189 ?_
                refine lv_aload_n hx hb dX7_ask_192 rfl (lv_at hl 7 rfl) ?_
                refine x_get C hH (ci := 8) (T := TX7) (N := 19) hM rfl iWX7 10 (by decide) qw_706 rfl rfl dX7_ask_193 ?_
                refine lv_aload_n hx hb dX7_ask_196 rfl (lv_at hl 7 rfl) ?_
                refine x_get C hH (ci := 8) (T := TX7) (N := 19) hM rfl iWX7 1 (by decide) qw_697 rfl rfl dX7_ask_197 ?_
                refine x_iast C hH hS mm15 (j := na) rfl (by omega) (by omega) dX7_ask_200 (fun H locs hH hS => ?_)
                have hM := xu_of (t := (10, 15, 0)) (e := .inl (E.2.1 0, 150, .inl (upd (fun a => sg 11 a 0) na (nI nw)))) (by simp) hM
                have mm3 := xu_of (t := (10, 15, 0)) (e := .inl (E.2.1 0, 150, .inl (upd (fun a => sg 11 a 0) na (nI nw)))) (by simp) mm3
                have mm4 := xu_of (t := (10, 15, 0)) (e := .inl (E.2.1 0, 150, .inl (upd (fun a => sg 11 a 0) na (nI nw)))) (by simp) mm4
                have mm6 := xu_of (t := (10, 15, 0)) (e := .inl (E.2.1 0, 150, .inl (upd (fun a => sg 11 a 0) na (nI nw)))) (by simp) mm6
                have mm7 := xu_of (t := (10, 15, 0)) (e := .inl (E.2.1 0, 150, .inl (upd (fun a => sg 11 a 0) na (nI nw)))) (by simp) mm7
                have mm8 := xu_of (t := (10, 15, 0)) (e := .inl (E.2.1 0, 150, .inl (upd (fun a => sg 11 a 0) na (nI nw)))) (by simp) mm8
                have mm9 := xu_of (t := (10, 15, 0)) (e := .inl (E.2.1 0, 150, .inl (upd (fun a => sg 11 a 0) na (nI nw)))) (by simp) mm9
                have mm11 := xu_of (t := (10, 15, 0)) (e := .inl (E.2.1 0, 150, .inl (upd (fun a => sg 11 a 0) na (nI nw)))) (by simp) mm11
                have mm12 := xu_of (t := (10, 15, 0)) (e := .inl (E.2.1 0, 150, .inl (upd (fun a => sg 11 a 0) na (nI nw)))) (by simp) mm12
                have mm13 := xu_of (t := (10, 15, 0)) (e := .inl (E.2.1 0, 150, .inl (upd (fun a => sg 11 a 0) na (nI nw)))) (by simp) mm13
                have mm14 := xu_of (t := (10, 15, 0)) (e := .inl (E.2.1 0, 150, .inl (upd (fun a => sg 11 a 0) na (nI nw)))) (by simp) mm14
                have mm16 := xu_of (t := (10, 15, 0)) (e := .inl (E.2.1 0, 150, .inl (upd (fun a => sg 11 a 0) na (nI nw)))) (by simp) mm16
                have mm17 := xu_of (t := (10, 15, 0)) (e := .inl (E.2.1 0, 150, .inl (upd (fun a => sg 11 a 0) na (nI nw)))) (by simp) mm17
                have mm18 := xu_of (t := (10, 15, 0)) (e := .inl (E.2.1 0, 150, .inl (upd (fun a => sg 11 a 0) na (nI nw)))) (by simp) mm18
                have mm15 : (xu (xu (xu (xu (xu (xu (xu (xu w (10, 0, 0) (.inr (8, [.int (nI 0), .int (nI nw), .int (nI nf), .ref (al (10, 3, 0)), .ref (al (10, 4, 0)), .int (nI np), .ref (al (10, 6, 0)), .ref (al (10, 7, 0)), .ref (al (10, 8, 0)), .ref (al (10, 9, 0)), .int (nI na), .ref (al (10, 11, 0)), .ref (al (10, 12, 0)), .ref (al (10, 13, 0)), .ref (al (10, 14, 0)), .ref (al (10, 15, 0)), .ref (al (10, 16, 0)), .ref (al (10, 17, 0)), .ref (al (10, 18, 0))]))) (10, 18, 0) (.inl (E.2.1 0, 16, .inl fr9))) (10, 17, 0) (.inl (E.2.1 0, 36, .inl (upd (fun k => sg 13 (k / 6) (k % 6)) (6 * p + (fate nf na nw sg rc p z bit)) ((sg 13 p (fate nf na nw sg rc p z bit)) + nI 1))))) (10, 11, 0) (.inl (E.2.1 0, 150, .inl (upd (fun a => sg 7 a 0) na (nI p))))) (10, 12, 0) (.inl (E.2.1 0, 150, .inl (upd (fun a => sg 8 a 0) na z)))) (10, 13, 0) (.inl (E.2.1 0, 150, .inl (upd (fun a => sg 9 a 0) na bit)))) (10, 14, 0) (.inl (E.2.1 0, 150, .inl (upd (fun a => sg 10 a 0) na y)))) (10, 15, 0) (.inl (E.2.1 0, 150, .inl (upd (fun a => sg 11 a 0) na (nI nw))))) (10, 15, 0) = some (.inl (E.2.1 0, 150, .inl (upd (fun a => sg 11 a 0) na (nI nw)))) := xu_self _ _ _
                refine lv_aload_n hx hb dX7_ask_201 rfl (lv_at hl 7 rfl) ?_
                refine lv_dup hx hb dX7_ask_202 rfl ?_
                refine x_get C hH (ci := 8) (T := TX7) (N := 19) hM rfl iWX7 10 (by decide) qw_706 rfl rfl dX7_ask_203 ?_
                refine lv_iconst (v := nI 1) hx hb dX7_ask_206 (by decide +kernel) ?_
                refine lv_iadd hx hb dX7_ask_207 ?_
                refine lv_re (nI_add _ _) ?_
                refine x_put C hH hS (ci := 8) (T := TX7) (N := 19) (fs' := [.int (nI 0), .int (nI nw), .int (nI nf), .ref (al (10, 3, 0)), .ref (al (10, 4, 0)), .int (nI np), .ref (al (10, 6, 0)), .ref (al (10, 7, 0)), .ref (al (10, 8, 0)), .ref (al (10, 9, 0)), .int (nI (na + 1)), .ref (al (10, 11, 0)), .ref (al (10, 12, 0)), .ref (al (10, 13, 0)), .ref (al (10, 14, 0)), .ref (al (10, 15, 0)), .ref (al (10, 16, 0)), .ref (al (10, 17, 0)), .ref (al (10, 18, 0))]) hM rfl iWX7 tyX7 tyX7_ok nmX7 10 (by decide) qw_706 rfl rfl rfl rfl (Nat.le_of_ble_eq_true rfl) rfl dX7_ask_208 (fun H locs hH hS => ?_)
                have mm3 := xu_of (t := (10, 0, 0)) (e := .inr (8, [.int (nI 0), .int (nI nw), .int (nI nf), .ref (al (10, 3, 0)), .ref (al (10, 4, 0)), .int (nI np), .ref (al (10, 6, 0)), .ref (al (10, 7, 0)), .ref (al (10, 8, 0)), .ref (al (10, 9, 0)), .int (nI (na + 1)), .ref (al (10, 11, 0)), .ref (al (10, 12, 0)), .ref (al (10, 13, 0)), .ref (al (10, 14, 0)), .ref (al (10, 15, 0)), .ref (al (10, 16, 0)), .ref (al (10, 17, 0)), .ref (al (10, 18, 0))])) (by simp) mm3
                have mm4 := xu_of (t := (10, 0, 0)) (e := .inr (8, [.int (nI 0), .int (nI nw), .int (nI nf), .ref (al (10, 3, 0)), .ref (al (10, 4, 0)), .int (nI np), .ref (al (10, 6, 0)), .ref (al (10, 7, 0)), .ref (al (10, 8, 0)), .ref (al (10, 9, 0)), .int (nI (na + 1)), .ref (al (10, 11, 0)), .ref (al (10, 12, 0)), .ref (al (10, 13, 0)), .ref (al (10, 14, 0)), .ref (al (10, 15, 0)), .ref (al (10, 16, 0)), .ref (al (10, 17, 0)), .ref (al (10, 18, 0))])) (by simp) mm4
                have mm6 := xu_of (t := (10, 0, 0)) (e := .inr (8, [.int (nI 0), .int (nI nw), .int (nI nf), .ref (al (10, 3, 0)), .ref (al (10, 4, 0)), .int (nI np), .ref (al (10, 6, 0)), .ref (al (10, 7, 0)), .ref (al (10, 8, 0)), .ref (al (10, 9, 0)), .int (nI (na + 1)), .ref (al (10, 11, 0)), .ref (al (10, 12, 0)), .ref (al (10, 13, 0)), .ref (al (10, 14, 0)), .ref (al (10, 15, 0)), .ref (al (10, 16, 0)), .ref (al (10, 17, 0)), .ref (al (10, 18, 0))])) (by simp) mm6
                have mm7 := xu_of (t := (10, 0, 0)) (e := .inr (8, [.int (nI 0), .int (nI nw), .int (nI nf), .ref (al (10, 3, 0)), .ref (al (10, 4, 0)), .int (nI np), .ref (al (10, 6, 0)), .ref (al (10, 7, 0)), .ref (al (10, 8, 0)), .ref (al (10, 9, 0)), .int (nI (na + 1)), .ref (al (10, 11, 0)), .ref (al (10, 12, 0)), .ref (al (10, 13, 0)), .ref (al (10, 14, 0)), .ref (al (10, 15, 0)), .ref (al (10, 16, 0)), .ref (al (10, 17, 0)), .ref (al (10, 18, 0))])) (by simp) mm7
                have mm8 := xu_of (t := (10, 0, 0)) (e := .inr (8, [.int (nI 0), .int (nI nw), .int (nI nf), .ref (al (10, 3, 0)), .ref (al (10, 4, 0)), .int (nI np), .ref (al (10, 6, 0)), .ref (al (10, 7, 0)), .ref (al (10, 8, 0)), .ref (al (10, 9, 0)), .int (nI (na + 1)), .ref (al (10, 11, 0)), .ref (al (10, 12, 0)), .ref (al (10, 13, 0)), .ref (al (10, 14, 0)), .ref (al (10, 15, 0)), .ref (al (10, 16, 0)), .ref (al (10, 17, 0)), .ref (al (10, 18, 0))])) (by simp) mm8
                have mm9 := xu_of (t := (10, 0, 0)) (e := .inr (8, [.int (nI 0), .int (nI nw), .int (nI nf), .ref (al (10, 3, 0)), .ref (al (10, 4, 0)), .int (nI np), .ref (al (10, 6, 0)), .ref (al (10, 7, 0)), .ref (al (10, 8, 0)), .ref (al (10, 9, 0)), .int (nI (na + 1)), .ref (al (10, 11, 0)), .ref (al (10, 12, 0)), .ref (al (10, 13, 0)), .ref (al (10, 14, 0)), .ref (al (10, 15, 0)), .ref (al (10, 16, 0)), .ref (al (10, 17, 0)), .ref (al (10, 18, 0))])) (by simp) mm9
                have mm11 := xu_of (t := (10, 0, 0)) (e := .inr (8, [.int (nI 0), .int (nI nw), .int (nI nf), .ref (al (10, 3, 0)), .ref (al (10, 4, 0)), .int (nI np), .ref (al (10, 6, 0)), .ref (al (10, 7, 0)), .ref (al (10, 8, 0)), .ref (al (10, 9, 0)), .int (nI (na + 1)), .ref (al (10, 11, 0)), .ref (al (10, 12, 0)), .ref (al (10, 13, 0)), .ref (al (10, 14, 0)), .ref (al (10, 15, 0)), .ref (al (10, 16, 0)), .ref (al (10, 17, 0)), .ref (al (10, 18, 0))])) (by simp) mm11
                have mm12 := xu_of (t := (10, 0, 0)) (e := .inr (8, [.int (nI 0), .int (nI nw), .int (nI nf), .ref (al (10, 3, 0)), .ref (al (10, 4, 0)), .int (nI np), .ref (al (10, 6, 0)), .ref (al (10, 7, 0)), .ref (al (10, 8, 0)), .ref (al (10, 9, 0)), .int (nI (na + 1)), .ref (al (10, 11, 0)), .ref (al (10, 12, 0)), .ref (al (10, 13, 0)), .ref (al (10, 14, 0)), .ref (al (10, 15, 0)), .ref (al (10, 16, 0)), .ref (al (10, 17, 0)), .ref (al (10, 18, 0))])) (by simp) mm12
                have mm13 := xu_of (t := (10, 0, 0)) (e := .inr (8, [.int (nI 0), .int (nI nw), .int (nI nf), .ref (al (10, 3, 0)), .ref (al (10, 4, 0)), .int (nI np), .ref (al (10, 6, 0)), .ref (al (10, 7, 0)), .ref (al (10, 8, 0)), .ref (al (10, 9, 0)), .int (nI (na + 1)), .ref (al (10, 11, 0)), .ref (al (10, 12, 0)), .ref (al (10, 13, 0)), .ref (al (10, 14, 0)), .ref (al (10, 15, 0)), .ref (al (10, 16, 0)), .ref (al (10, 17, 0)), .ref (al (10, 18, 0))])) (by simp) mm13
                have mm14 := xu_of (t := (10, 0, 0)) (e := .inr (8, [.int (nI 0), .int (nI nw), .int (nI nf), .ref (al (10, 3, 0)), .ref (al (10, 4, 0)), .int (nI np), .ref (al (10, 6, 0)), .ref (al (10, 7, 0)), .ref (al (10, 8, 0)), .ref (al (10, 9, 0)), .int (nI (na + 1)), .ref (al (10, 11, 0)), .ref (al (10, 12, 0)), .ref (al (10, 13, 0)), .ref (al (10, 14, 0)), .ref (al (10, 15, 0)), .ref (al (10, 16, 0)), .ref (al (10, 17, 0)), .ref (al (10, 18, 0))])) (by simp) mm14
                have mm15 := xu_of (t := (10, 0, 0)) (e := .inr (8, [.int (nI 0), .int (nI nw), .int (nI nf), .ref (al (10, 3, 0)), .ref (al (10, 4, 0)), .int (nI np), .ref (al (10, 6, 0)), .ref (al (10, 7, 0)), .ref (al (10, 8, 0)), .ref (al (10, 9, 0)), .int (nI (na + 1)), .ref (al (10, 11, 0)), .ref (al (10, 12, 0)), .ref (al (10, 13, 0)), .ref (al (10, 14, 0)), .ref (al (10, 15, 0)), .ref (al (10, 16, 0)), .ref (al (10, 17, 0)), .ref (al (10, 18, 0))])) (by simp) mm15
                have mm16 := xu_of (t := (10, 0, 0)) (e := .inr (8, [.int (nI 0), .int (nI nw), .int (nI nf), .ref (al (10, 3, 0)), .ref (al (10, 4, 0)), .int (nI np), .ref (al (10, 6, 0)), .ref (al (10, 7, 0)), .ref (al (10, 8, 0)), .ref (al (10, 9, 0)), .int (nI (na + 1)), .ref (al (10, 11, 0)), .ref (al (10, 12, 0)), .ref (al (10, 13, 0)), .ref (al (10, 14, 0)), .ref (al (10, 15, 0)), .ref (al (10, 16, 0)), .ref (al (10, 17, 0)), .ref (al (10, 18, 0))])) (by simp) mm16
                have mm17 := xu_of (t := (10, 0, 0)) (e := .inr (8, [.int (nI 0), .int (nI nw), .int (nI nf), .ref (al (10, 3, 0)), .ref (al (10, 4, 0)), .int (nI np), .ref (al (10, 6, 0)), .ref (al (10, 7, 0)), .ref (al (10, 8, 0)), .ref (al (10, 9, 0)), .int (nI (na + 1)), .ref (al (10, 11, 0)), .ref (al (10, 12, 0)), .ref (al (10, 13, 0)), .ref (al (10, 14, 0)), .ref (al (10, 15, 0)), .ref (al (10, 16, 0)), .ref (al (10, 17, 0)), .ref (al (10, 18, 0))])) (by simp) mm17
                have mm18 := xu_of (t := (10, 0, 0)) (e := .inr (8, [.int (nI 0), .int (nI nw), .int (nI nf), .ref (al (10, 3, 0)), .ref (al (10, 4, 0)), .int (nI np), .ref (al (10, 6, 0)), .ref (al (10, 7, 0)), .ref (al (10, 8, 0)), .ref (al (10, 9, 0)), .int (nI (na + 1)), .ref (al (10, 11, 0)), .ref (al (10, 12, 0)), .ref (al (10, 13, 0)), .ref (al (10, 14, 0)), .ref (al (10, 15, 0)), .ref (al (10, 16, 0)), .ref (al (10, 17, 0)), .ref (al (10, 18, 0))])) (by simp) mm18
                have hM : (xu (xu (xu (xu (xu (xu (xu (xu (xu w (10, 0, 0) (.inr (8, [.int (nI 0), .int (nI nw), .int (nI nf), .ref (al (10, 3, 0)), .ref (al (10, 4, 0)), .int (nI np), .ref (al (10, 6, 0)), .ref (al (10, 7, 0)), .ref (al (10, 8, 0)), .ref (al (10, 9, 0)), .int (nI na), .ref (al (10, 11, 0)), .ref (al (10, 12, 0)), .ref (al (10, 13, 0)), .ref (al (10, 14, 0)), .ref (al (10, 15, 0)), .ref (al (10, 16, 0)), .ref (al (10, 17, 0)), .ref (al (10, 18, 0))]))) (10, 18, 0) (.inl (E.2.1 0, 16, .inl fr9))) (10, 17, 0) (.inl (E.2.1 0, 36, .inl (upd (fun k => sg 13 (k / 6) (k % 6)) (6 * p + (fate nf na nw sg rc p z bit)) ((sg 13 p (fate nf na nw sg rc p z bit)) + nI 1))))) (10, 11, 0) (.inl (E.2.1 0, 150, .inl (upd (fun a => sg 7 a 0) na (nI p))))) (10, 12, 0) (.inl (E.2.1 0, 150, .inl (upd (fun a => sg 8 a 0) na z)))) (10, 13, 0) (.inl (E.2.1 0, 150, .inl (upd (fun a => sg 9 a 0) na bit)))) (10, 14, 0) (.inl (E.2.1 0, 150, .inl (upd (fun a => sg 10 a 0) na y)))) (10, 15, 0) (.inl (E.2.1 0, 150, .inl (upd (fun a => sg 11 a 0) na (nI nw))))) (10, 0, 0) (.inr (8, [.int (nI 0), .int (nI nw), .int (nI nf), .ref (al (10, 3, 0)), .ref (al (10, 4, 0)), .int (nI np), .ref (al (10, 6, 0)), .ref (al (10, 7, 0)), .ref (al (10, 8, 0)), .ref (al (10, 9, 0)), .int (nI (na + 1)), .ref (al (10, 11, 0)), .ref (al (10, 12, 0)), .ref (al (10, 13, 0)), .ref (al (10, 14, 0)), .ref (al (10, 15, 0)), .ref (al (10, 16, 0)), .ref (al (10, 17, 0)), .ref (al (10, 18, 0))]))) (10, 0, 0) = some (.inr (8, [.int (nI 0), .int (nI nw), .int (nI nf), .ref (al (10, 3, 0)), .ref (al (10, 4, 0)), .int (nI np), .ref (al (10, 6, 0)), .ref (al (10, 7, 0)), .ref (al (10, 8, 0)), .ref (al (10, 9, 0)), .int (nI (na + 1)), .ref (al (10, 11, 0)), .ref (al (10, 12, 0)), .ref (al (10, 13, 0)), .ref (al (10, 14, 0)), .ref (al (10, 15, 0)), .ref (al (10, 16, 0)), .ref (al (10, 17, 0)), .ref (al (10, 18, 0))])) := xu_self _ _ _
                refine lv_aload_n hx hb dX7_ask_211 rfl (lv_at hl 7 rfl) ?_
                refine x_get C hH (ci := 8) (T := TX7) (N := 19) hM rfl iWX7 14 (by decide) qw_710 rfl rfl dX7_ask_212 ?_
                refine lv_aload_n hx hb dX7_ask_215 rfl (lv_at hl 7 rfl) ?_
                refine x_get C hH (ci := 8) (T := TX7) (N := 19) hM rfl iWX7 10 (by decide) qw_706 rfl rfl dX7_ask_216 ?_
                refine lv_iconst (v := nI 1) hx hb dX7_ask_219 (by decide +kernel) ?_
                refine lv_isub hx hb dX7_ask_220 ?_
                refine lv_re (dI_sub _) ?_
                refine x_iald C hH mm14 (j := na) (dI_s _) (by omega) (by omega) dX7_ask_221 ?_
                refine lv_re (y := y) (if_pos rfl) ?_
                have hf0 : (fate nf na nw sg rc p z bit) = 0 := neg_0.mp c_13
                have ht9 : y = (tel bit (xoR z (fun f => sg 1 f 0) nf)) := (by unfold tel; rw [if_pos c_15, ← hy])
                have q9 := hMM3.told (s0 := sg) (z := z) (bit := bit) (s := y) (p := p) (fun k h1 h2 => (u3_k (by omega)).symm)
                rw [hf0, ht9] at q9
                rw [hf0, ht9] at hH
                rw [← hQ]
                refine x_reti C rfl hS (Nat.le_of_ble_eq_true rfl) (Nat.le_of_ble_eq_true rfl) dX7_ask_222 ?_
                rw [hpost]
                exact ⟨⟨_, rfl⟩, Or.inr (Or.inr (Or.inr ⟨p, hp9, rfl, hQ9, hn9, Or.inr ⟨hf0, by rw [ht9], PM_of hH q9 (fun t ht => by rw [xu_ne (fun e => ht (by rw [e])), xu_ne (fun e => ht (by rw [e])), xu_ne (fun e => ht (by rw [e])), xu_ne (fun e => ht (by rw [e])), xu_ne (fun e => ht (by rw [e])), xu_ne (fun e => ht (by rw [e])), xu_ne (fun e => ht (by rw [e])), xu_ne (fun e => ht (by rw [e])), xu_ne (fun e => ht (by rw [e]))])⟩⟩))⟩
            · skip
              replace c_14 := mt (nI_leI (by omega) (by omega)).mpr c_14
              refine lv_iload hx hb dX7_ask_101 (lv_at hl 1 rfl) ?_
              refine lv_iload_n hx hb dX7_ask_103 rfl (lv_at hl 5 rfl) ?_
              refine lv_iload hx hb dX7_ask_104 (lv_at hl 0 rfl) ?_
              refine lv_ishr hx hb dX7_ask_106 ?_
              refine lv_iconst (v := nI 1) hx hb dX7_ask_107 (by decide +kernel) ?_
              refine lv_iand hx hb dX7_ask_108 ?_
              refine lv_re (hd_bt z (k := i) (by omega)) ?_
              refine lv_iconst (v := nI 1) hx hb dX7_ask_109 (by decide +kernel) ?_
              refine lv_icmp_ne (tgt := 123) hx hb dX7_ask_110 (by decide) (fun c_16 => ?_) (fun c_16 => ?_)
              · skip
                replace c_16 := ob_n1.mp c_16
                refine lv_iconst (v := nI 0) hx hb dX7_ask_123 (by decide +kernel) ?_
                refine lv_ixor hx hb dX7_ask_124 ?_
                refine lv_istore (lv' := [(6, .int (y ^^^ nI 0)), (7, .int (nI i)), (5, .int (-nI (fate nf na nw sg rc p z bit))), (4, .int (ob (inRb (nI p) np))), (3, .int bit), (2, .int z), (1, .int (nI p)), (0, .ref (al (10, 0, 0)))]) hx hb dX7_ask_125 hl (by decide) rfl (fun ls hl => ?_)
                refine lv_iinc (v := nI (i + 1)) (lv' := [(7, .int (nI (i + 1))), (6, .int (y ^^^ nI 0)), (5, .int (-nI (fate nf na nw sg rc p z bit))), (4, .int (ob (inRb (nI p) np))), (3, .int bit), (2, .int z), (1, .int (nI p)), (0, .ref (al (10, 0, 0)))]) hx hb dX7_ask_127 hl (k := 1) rfl (nI_1 _) (by decide) rfl (fun ls hl => ?_)
                refine lv_goto (tgt := 92) hx hb dX7_ask_130 (by decide) ?_
                exact ih92 (by omega) (y ^^^ nI 0) _ _ _ (by rw [hy]; show _ = (if bt z i then _ else _); rw [c_16]; simp [nI_0, xor_0]) hH hS (lv_sub hl [0, 1, 2, 3, 4, 5, 6, 7] rfl)
              · skip
                replace c_16 := ob_1.mp c_16
                refine lv_aload_n hx hb dX7_ask_113 rfl (lv_at hl 7 rfl) ?_
                refine x_get C hH (ci := 8) (T := TX7) (N := 19) hM rfl iWX7 3 (by decide) qw_699 rfl rfl dX7_ask_114 ?_
                refine lv_iload hx hb dX7_ask_117 (lv_at hl 0 rfl) ?_
                refine x_iald C hH mm3 (j := i) rfl (by omega) (by omega) dX7_ask_119 ?_
                refine lv_goto (tgt := 124) hx hb dX7_ask_120 (by decide) ?_
                refine lv_ixor hx hb dX7_ask_124 ?_
                refine lv_istore (lv' := [(6, .int (y ^^^ sg 1 i 0)), (7, .int (nI i)), (5, .int (-nI (fate nf na nw sg rc p z bit))), (4, .int (ob (inRb (nI p) np))), (3, .int bit), (2, .int z), (1, .int (nI p)), (0, .ref (al (10, 0, 0)))]) hx hb dX7_ask_125 hl (by decide) rfl (fun ls hl => ?_)
                refine lv_iinc (v := nI (i + 1)) (lv' := [(7, .int (nI (i + 1))), (6, .int (y ^^^ sg 1 i 0)), (5, .int (-nI (fate nf na nw sg rc p z bit))), (4, .int (ob (inRb (nI p) np))), (3, .int bit), (2, .int z), (1, .int (nI p)), (0, .ref (al (10, 0, 0)))]) hx hb dX7_ask_127 hl (k := 1) rfl (nI_1 _) (by decide) rfl (fun ls hl => ?_)
                refine lv_goto (tgt := 92) hx hb dX7_ask_130 (by decide) ?_
                exact ih92 (by omega) (y ^^^ sg 1 i 0) _ _ _ (by rw [hy]; show _ = (if bt z i then _ else _); rw [c_16]; rfl) hH hS (lv_sub hl [0, 1, 2, 3, 4, 5, 6, 7] rfl)
          exact lp92 0 (Nat.zero_le _) (nI 0) _ _ _ rfl hH hS (lv_sub hl [0, 1, 2, 3, 7, 6, 5, 4] rfl)
        · skip
          refine lv_iload hx hb dX7_ask_83 (lv_at hl 0 rfl) ?_
          rw [← hQ]
          refine x_reti C rfl hS (Nat.le_of_ble_eq_true rfl) (Nat.le_of_ble_eq_true rfl) dX7_ask_85 ?_
          rw [hpost]
          exact ⟨⟨_, rfl⟩, Or.inr (Or.inr (Or.inr ⟨p, hp9, rfl, hQ9, hn9, Or.inl ⟨mt neg_0.mpr c_13, rfl, PM_of hH hMM3 (fun t ht => by rw [xu_ne (fun e => ht (by rw [e])), xu_ne (fun e => ht (by rw [e])), xu_ne (fun e => ht (by rw [e]))])⟩⟩))⟩
      · skip
        replace c_7 := (nI_eq (by omega) (by omega)).mp c_7
        refine lv_iconst (v := nI 3) hx hb dX7_ask_40 (by decide +kernel) ?_
        refine lv_goto (tgt := 45) hx hb dX7_ask_41 (by decide) ?_
        refine x_callV C hH hS (ci := 8) (t := (10, 0, 0)) hM rfl rfl (m_goes l (E := E) (base := base) hMM0 (k := 3) (by omega)) hH kX7_goesWell qw_768 (ws_p (List.mem_of_getElem? (i := 19) rfl) rfl) qw_766  rfl [] rfl hl.1 (Nat.le_of_ble_eq_true rfl) ⟨Nat.le_of_ble_eq_true rfl, Nat.le_of_ble_eq_true rfl⟩ dX7_ask_45 ⟨Nat.le_of_ble_eq_true rfl, Nat.le_of_ble_eq_true rfl⟩ (fun r_18 H locs hp_17 hS => ?_)
        obtain ⟨rfl, hH⟩ := hp_17
        have hMM1 := hMM0.goes (nI 3)
        have hMMx := hMM1
        obtain ⟨hM, mm3, mm4, mm6, mm7, mm8, mm9, mm11, mm12, mm13, mm14, mm15, mm16, mm17, mm18⟩ := hMMx
        refine lv_re (y := nI 0) rfl ?_
        refine lv_if_ne (tgt := 53) hx hb dX7_ask_48 (by decide) (fun c_19 => absurd (by decide +kernel) c_19) (fun c_19 => ?_)
        clear c_19
        refine lv_iconst (v := nI 0) hx hb dX7_ask_51 (by decide +kernel) ?_
        rw [← hQ]
        refine x_reti C rfl hS (Nat.le_of_ble_eq_true rfl) (Nat.le_of_ble_eq_true rfl) dX7_ask_52 ?_
        rw [hpost]
        exact ⟨⟨_, rfl⟩, Or.inr (Or.inr (Or.inl ⟨((inRb_iff (by omega)).mp c_3), (qB_iff v16).mp c_6, by omega, PM_th hH hMM0⟩))⟩
    · skip
      replace c_6 := ob_0.mp c_6
      refine lv_iconst (v := nI 2) hx hb dX7_ask_26 (by decide +kernel) ?_
      refine lv_goto (tgt := 45) hx hb dX7_ask_27 (by decide) ?_
      refine x_callV C hH hS (ci := 8) (t := (10, 0, 0)) hM rfl rfl (m_goes l (E := E) (base := base) hMM0 (k := 2) (by omega)) hH kX7_goesWell qw_768 (ws_p (List.mem_of_getElem? (i := 19) rfl) rfl) qw_766  rfl [] rfl hl.1 (Nat.le_of_ble_eq_true rfl) ⟨Nat.le_of_ble_eq_true rfl, Nat.le_of_ble_eq_true rfl⟩ dX7_ask_45 ⟨Nat.le_of_ble_eq_true rfl, Nat.le_of_ble_eq_true rfl⟩ (fun r_21 H locs hp_20 hS => ?_)
      obtain ⟨rfl, hH⟩ := hp_20
      have hMM1 := hMM0.goes (nI 2)
      have hMMx := hMM1
      obtain ⟨hM, mm3, mm4, mm6, mm7, mm8, mm9, mm11, mm12, mm13, mm14, mm15, mm16, mm17, mm18⟩ := hMMx
      refine lv_re (y := nI 0) rfl ?_
      refine lv_if_ne (tgt := 53) hx hb dX7_ask_48 (by decide) (fun c_22 => absurd (by decide +kernel) c_22) (fun c_22 => ?_)
      clear c_22
      refine lv_iconst (v := nI 0) hx hb dX7_ask_51 (by decide +kernel) ?_
      rw [← hQ]
      refine x_reti C rfl hS (Nat.le_of_ble_eq_true rfl) (Nat.le_of_ble_eq_true rfl) dX7_ask_52 ?_
      rw [hpost]
      exact ⟨⟨_, rfl⟩, Or.inr (Or.inl ⟨((inRb_iff (by omega)).mp c_3), (fun q => by rw [(qB_iff v16).mpr q] at c_6; cases c_6), PM_th hH hMM0⟩)⟩
  · skip
    replace c_3 := ob_0.mp c_3
    refine lv_iconst (v := nI 1) hx hb dX7_ask_13 (by decide +kernel) ?_
    refine lv_goto (tgt := 45) hx hb dX7_ask_14 (by decide) ?_
    refine x_callV C hH hS (ci := 8) (t := (10, 0, 0)) hM rfl rfl (m_goes l (E := E) (base := base) hMM0 (k := 1) (by omega)) hH kX7_goesWell qw_768 (ws_p (List.mem_of_getElem? (i := 19) rfl) rfl) qw_766  rfl [] rfl hl.1 (Nat.le_of_ble_eq_true rfl) ⟨Nat.le_of_ble_eq_true rfl, Nat.le_of_ble_eq_true rfl⟩ dX7_ask_45 ⟨Nat.le_of_ble_eq_true rfl, Nat.le_of_ble_eq_true rfl⟩ (fun r_24 H locs hp_23 hS => ?_)
    obtain ⟨rfl, hH⟩ := hp_23
    have hMM1 := hMM0.goes (nI 1)
    have hMMx := hMM1
    obtain ⟨hM, mm3, mm4, mm6, mm7, mm8, mm9, mm11, mm12, mm13, mm14, mm15, mm16, mm17, mm18⟩ := hMMx
    refine lv_re (y := nI 0) rfl ?_
    refine lv_if_ne (tgt := 53) hx hb dX7_ask_48 (by decide) (fun c_25 => absurd (by decide +kernel) c_25) (fun c_25 => ?_)
    clear c_25
    refine lv_iconst (v := nI 0) hx hb dX7_ask_51 (by decide +kernel) ?_
    rw [← hQ]
    refine x_reti C rfl hS (Nat.le_of_ble_eq_true rfl) (Nat.le_of_ble_eq_true rfl) dX7_ask_52 ?_
    rw [hpost]
    exact ⟨⟨_, rfl⟩, Or.inl ⟨(fun q => by rw [(inRb_iff (by omega)).mpr q] at c_3; cases c_3), PM_th hH hMM0⟩⟩
