section ASK
variable {E : xE} {base : Nat} {al : Tg → Nat} {w : Tg → Option va_E} {nf np na nw : Nat} {sg : Nat → Nat → Nat → Int32} {rc : Nat → Bool} {H : Heap} {p : Nat} {z bit s : Int32}
theorem fate_lt : fate nf na nw sg rc p z bit < 5 := by
  unfold fate; split
  · omega
  · split
    · omega
    · split
      · omega
      · split <;> omega
theorem neg_0' : ∀ k, k < 5 → (-nI k = 0 ↔ k = 0) := by decide +kernel
theorem neg_0 : -nI (fate nf na nw sg rc p z bit) = 0 ↔ fate nf na nw sg rc p z bit = 0 := neg_0' _ fate_lt
theorem INV_k13 (hI : INV nf np na nw sg rc) {k : Nat} {v : Int32} (hp : p < np) : INV nf np na nw (u3 sg 13 p k v) rc := by
  obtain ⟨v16, v6, v150, vnow, vA, vS, vP, vK, vR⟩ := hI
  refine ⟨v16, v6, v150, vnow, fun a ha => ?_, fun i hi => ?_, fun q hq => ⟨fun g => ?_, fun k => ?_⟩, fun q g => ?_, vR⟩
  · rw [u3_k (by decide), u3_k (by decide), u3_k (by decide)]; exact vA a ha
  · rw [u3_k (by decide)]; exact vS i hi
  · rw [u3_k (by decide)]; exact (vP q hq).1 g
  · rw [u3_i (by omega)]; exact (vP q hq).2 k
  · rw [u3_k (by decide)]; exact vK q g
theorem PT.kf {bu : Int32} {rk rf rt fr : Nat → Int32} {K K' : Nat → Nat → Int32} {C C' : Nat → Nat} (h : PT E al w p bu rk rf rt fr K C) (h1 : ∀ b, b < 8 → K b = K' b) (h2 : ∀ b, b < 8 → C b = C' b) : PT E al w p bu rk rf rt fr K' C' := by
  obtain ⟨a0, a1, a2, a3, a4, a5, a6⟩ := h
  exact ⟨a0, a1, a2, a3, a4, fun b hb => by rw [← h2 b hb]; exact a5 b hb, fun b hb => by rw [← h1 b hb]; exact a6 b hb⟩
/-- told: all parties' knowledge, with the new answer -/
theorem RM_told {k : Nat} {v : Int32} (h : RMg E al w nf np (na + 1) nw (ansg (u3 sg 13 p k v) na p z bit s nw) rc (fun q => KFs (u3 sg 13 p k v) rc na q) (fun q => KCs (u3 sg 13 p k v) rc na q)) (hI : INV nf np na nw sg rc) (hp : p < np) : RM E al (kw E al w p (lK (KFs (u3 sg 13 p k v) rc na p) bit z 8) (lC (KFs (u3 sg 13 p k v) rc na p) (KCs (u3 sg 13 p k v) rc na p) bit z 8)) nf np (na + 1) nw (ansg (u3 sg 13 p k v) na p z bit s nw) rc := by
  obtain ⟨v16, v6, v150, vnow, vA, vS, vP, vK, vR⟩ := hI
  generalize hS : u3 sg 13 p k v = T at *
  have hr := vR na (Nat.le_refl _)
  have cg : ∀ q b a, a < na → stdb (ansg T na p z bit s nw) rc q b a = stdb T rc q b a := fun q b a ha => by unfold stdb; rw [ag_i (by omega), ag_i (by omega)]
  have cs : ∀ a, a < na → sets (ansg T na p z bit s nw) a = sets T a := fun a ha => by unfold sets; rw [ag_i (by omega)]
  have n7 : ansg T na p z bit s nw 7 na 0 = nI p := if_pos ⟨by omega, rfl, rfl⟩
  have n8 : ansg T na p z bit s nw 8 na 0 = z := if_pos ⟨by omega, rfl, rfl⟩
  have n9 : ansg T na p z bit s nw 9 na 0 = bit := if_pos ⟨by omega, rfl, rfl⟩
  have st : ∀ q b, stdb (ansg T na p z bit s nw) rc q b na = (decide (nI p = nI q) && cov bit b) := fun q b => by unfold stdb; rw [n7, n9, hr]; rfl
  have dq : ∀ q, q < np → decide (nI p = nI q) = decide (q = p) := fun q hq => decide_eq_decide.mpr ((nI_eq (by omega) (by omega)).trans ⟨Eq.symm, Eq.symm⟩)
  have kF : ∀ q b, q < np → b < 8 → va_up (fun q => KFs T rc na q) p (lK (KFs T rc na p) bit z 8) q b = KFs (ansg T na p z bit s nw) rc (na + 1) q b := by
    intro q b hq hb
    show _ = (if stdb (ansg T na p z bit s nw) rc q b na = true then lrF (rws _ _ na) 16 (ansg T na p z bit s nw 8 na 0) else rws _ _ na)
    rw [(rws_cong na (fun a ha => ⟨cg q b a ha, cs a ha⟩)).1, st, n8, dq q hq]
    by_cases e : q = p
    · subst e
      rw [va_up_self, decide_eq_true rfl, Bool.true_and]
      by_cases c : cov bit b = true
      · rw [if_pos c]; exact if_pos ⟨hb, c⟩
      · rw [if_neg c]; exact if_neg (fun z => c z.2)
    · rw [va_up_ne _ _ e, decide_eq_false e, if_neg (by simp)]
  have kC : ∀ q b, q < np → b < 8 → va_up (fun q => KCs T rc na q) p (lC (KFs T rc na p) (KCs T rc na p) bit z 8) q b = KCs (ansg T na p z bit s nw) rc (na + 1) q b := by
    intro q b hq hb
    show _ = cnt (stdb (ansg T na p z bit s nw) rc q b) (sets (ansg T na p z bit s nw)) na + (if stdb (ansg T na p z bit s nw) rc q b na = true then lrG (rws _ _ na) 16 (ansg T na p z bit s nw 8 na 0) else 0)
    rw [(rws_cong na (fun a ha => ⟨cg q b a ha, cs a ha⟩)).1, (rws_cong na (fun a ha => ⟨cg q b a ha, cs a ha⟩)).2, st, n8, dq q hq]
    by_cases e : q = p
    · subst e
      rw [va_up_self, decide_eq_true rfl, Bool.true_and]
      by_cases c : cov bit b = true
      · rw [if_pos c]; exact if_pos ⟨hb, c⟩
      · rw [if_neg c]; exact if_neg (fun z => c z.2)
    · rw [va_up_ne _ _ e, decide_eq_false e, if_neg (by simp)]; rfl
  obtain ⟨hA, hC, hP, hN⟩ := RMg.kw h hp (lK (KFs T rc na p) bit z 8) (lC (KFs T rc na p) (KCs T rc na p) bit z 8)
  exact RM_g.mpr ⟨hA, hC, fun q hq => (hP q hq).kf (fun b hb => kF q b hq hb) (fun b hb => kC q b hq hb), hN⟩
end ASK
set_option maxHeartbeats 4000000 in
set_option maxRecDepth 100000 in
theorem c_ask (l : Launch) (hfl : l.stackTraces = false) {E : xE} {base : Nat} {al : Tg → Nat} {w : Tg → Option va_E} {nf np na nw : Nat} {sg : Nat → Nat → Nat → Int32} {rc : Nat → Bool} (hR : RM E al w nf np na nw sg rc) (hI : INV nf np na nw sg rc) {x z bit : Int32} : xMetX l yX6_ask cX6_ask 7 (some (.int)) ({ frames := 8, cells := 5, slots := 384, locals := 191 } : Room) E base [.ref (al (0, 0, 0)), .int x, .int z, .int bit] (fun H => xH E base al w H) (fun r H => ∃ p, p < np ∧ x = nI p ∧ Qok nf z bit ∧ na < 150 ∧ ((fate nf na nw sg rc p z bit ≠ 0 ∧ r = some (.int (-nI (fate nf na nw sg rc p z bit))) ∧ PO E base al w nf np na nw (u3 sg 13 p (fate nf na nw sg rc p z bit) (sg 13 p (fate nf na nw sg rc p z bit) + nI 1)) rc H) ∨ (fate nf na nw sg rc p z bit = 0 ∧ r = some (.int (tel bit (xoR z (fun f => sg 1 f 0) nf))) ∧ PO E base al w nf np (na + 1) nw (ansg (u3 sg 13 p 0 (sg 13 p 0 + nI 1)) na p z bit (tel bit (xoR z (fun f => sg 1 f 0) nf)) nw) rc H))) (fun X H => ((X = "java/lang/IndexOutOfBoundsException" ∧ ¬ inR x np) ∨ (X = "java/lang/IllegalArgumentException" ∧ inR x np ∧ ¬ Qok nf z bit) ∨ (X = "java/lang/IllegalStateException" ∧ inR x np ∧ Qok nf z bit ∧ ¬ na < 150)) ∧ xH E base al w H) := by
  refine xMetX.of (by decide +kernel) "Dataroom" rfl (Nat.le_of_ble_eq_true rfl) ?_
  intro p9 e9 s m9 below meth c9 ls C het hP hS hl
  have hx := C.hx
  have hb := C.hb
  have hH := hP
  have hl : lv_has ls 7 [(0, .ref (al (0, 0, 0))), (1, .int x), (2, .int z), (3, .int bit)] := hl
  obtain ⟨post, hpost⟩ : ∃ zz9 : Option Value → Heap → Prop, zz9 = (fun r H => ∃ p, p < np ∧ x = nI p ∧ Qok nf z bit ∧ na < 150 ∧ ((fate nf na nw sg rc p z bit ≠ 0 ∧ r = some (.int (-nI (fate nf na nw sg rc p z bit))) ∧ PO E base al w nf np na nw (u3 sg 13 p (fate nf na nw sg rc p z bit) (sg 13 p (fate nf na nw sg rc p z bit) + nI 1)) rc H) ∨ (fate nf na nw sg rc p z bit = 0 ∧ r = some (.int (tel bit (xoR z (fun f => sg 1 f 0) nf))) ∧ PO E base al w nf np (na + 1) nw (ansg (u3 sg 13 p 0 (sg 13 p 0 + nI 1)) na p z bit (tel bit (xoR z (fun f => sg 1 f 0) nf)) nw) rc H))) := ⟨_, rfl⟩
  obtain ⟨px, hpx⟩ : ∃ zz9 : String → Heap → Prop, zz9 = (fun X H => ((X = "java/lang/IndexOutOfBoundsException" ∧ ¬ inR x np) ∨ (X = "java/lang/IllegalArgumentException" ∧ inR x np ∧ ¬ Qok nf z bit) ∨ (X = "java/lang/IllegalStateException" ∧ inR x np ∧ Qok nf z bit ∧ ¬ na < 150)) ∧ xH E base al w H) := ⟨_, rfl⟩
  rw [← hpost, ← hpx]
  generalize hQ : (vx_MQ below (xQ base post) (xX base px) ([.ref (al (0, 0, 0)), .int x, .int z, .int bit] : List Value).toArray s 5 384 (xA base)) = Q
  have hR0 := hR
  have hI0 := hI
  obtain ⟨hX, hF, hPl, hAl, hSh, hMk, hC, hPT, hAn⟩ := hR
  obtain ⟨mcF, aF, hLF⟩ := hF.sz
  obtain ⟨mcP, aP, hLP⟩ := hPl.sz
  obtain ⟨mcA, aA, hLA⟩ := hAl.sz
  obtain ⟨v16, v6, v150, vnow, vA, vS, vP, vK, vR⟩ := hI
  refine lv_aload_n hx hb dX6_ask_0 rfl (lv_at hl 0 rfl) ?_
  refine lv_iload_n hx hb dX6_ask_1 rfl (lv_at hl 1 rfl) ?_
  refine x_thrV C hH hS (ci := 7) (t := (0, 0, 0)) hX rfl rfl (c_pAt l hfl (E := E) (base := base) hR0 hI0 (x := x)) hH kX6_partyAt qw_420 (ws_p (List.mem_of_getElem? (i := 8) rfl) rfl) qw_418  rfl [] rfl hl.1 (Nat.le_of_ble_eq_true rfl) ⟨Nat.le_of_ble_eq_true rfl, Nat.le_of_ble_eq_true rfl⟩ dX6_ask_2 ⟨Nat.le_of_ble_eq_true rfl, Nat.le_of_ble_eq_true rfl⟩ (fun X ce q9 H locs hp_1 hS hce hcv hcl => ?_) (fun r_2 H locs hp_1 hS => ?_)
  · skip
    obtain ⟨rfl, hno, hH⟩ := hp_1
    rw [← hQ]
    refine x_outX C het hS hce hcv hcl (Nat.le_of_ble_eq_true rfl) (Nat.le_of_ble_eq_true rfl) ?_
    rw [hpx]
    exact ⟨Or.inl ⟨rfl, hno⟩, hH⟩
  · skip
    obtain ⟨p_3, hp_3, rfl, rfl, hH⟩ := hp_1
    refine lv_astore (lv' := [(4, .ref (al (2, p_3, 0))), (0, .ref (al (0, 0, 0))), (1, .int (nI p_3)), (2, .int z), (3, .int bit)]) hx hb dX6_ask_5 hl (by decide) rfl (fun ls hl => ?_)
    refine lv_aload_n hx hb dX6_ask_7 rfl (lv_at hl 1 rfl) ?_
    refine lv_iload_n hx hb dX6_ask_8 rfl (lv_at hl 3 rfl) ?_
    refine lv_iload_n hx hb dX6_ask_9 rfl (lv_at hl 4 rfl) ?_
    refine x_thrV C hH hS (ci := 7) (t := (0, 0, 0)) hX rfl rfl (c_rQ l hfl (E := E) (base := base) hR0 hI0 (x := z) (bit := bit)) hH kX6_requireQuestion qw_485 (ws_p (List.mem_of_getElem? (i := 9) rfl) rfl) qw_483  rfl [] rfl hl.1 (Nat.le_of_ble_eq_true rfl) ⟨Nat.le_of_ble_eq_true rfl, Nat.le_of_ble_eq_true rfl⟩ dX6_ask_10 ⟨Nat.le_of_ble_eq_true rfl, Nat.le_of_ble_eq_true rfl⟩ (fun X ce q9 H locs hp_4 hS hce hcv hcl => ?_) (fun r_5 H locs hp_4 hS => ?_)
    · skip
      obtain ⟨rfl, hno, hH⟩ := hp_4
      rw [← hQ]
      refine x_outX C het hS hce hcv hcl (Nat.le_of_ble_eq_true rfl) (Nat.le_of_ble_eq_true rfl) ?_
      rw [hpx]
      exact ⟨Or.inr (Or.inl ⟨rfl, ⟨p_3, hp_3, rfl⟩, hno⟩), hH⟩
    · skip
      obtain ⟨rfl, hQk, hH⟩ := hp_4
      refine lv_aload_n hx hb dX6_ask_13 rfl (lv_at hl 1 rfl) ?_
      refine x_get C hH (ci := 7) (T := TX6) (N := 6) hX rfl iWX6 2 (by decide) qw_89 rfl rfl dX6_ask_14 ?_
      refine x_callV C hH hS (ci := 0) (t := (0, 3, 0)) hLA rfl rfl (c_size l (E := E) (base := base) (al := al) hLA) hH kJx4a65c_size_8abf5 qw_197 qw_198 qw_196  rfl [] rfl hl.1 (Nat.le_of_ble_eq_true rfl) ⟨Nat.le_of_ble_eq_true rfl, Nat.le_of_ble_eq_true rfl⟩ dX6_ask_17 ⟨Nat.le_of_ble_eq_true rfl, Nat.le_of_ble_eq_true rfl⟩ (fun r_7 H locs hp_6 hS => ?_)
      obtain ⟨rfl, hH⟩ := hp_6
      refine lv_sipush (v := nI 150) hx hb dX6_ask_20 (by decide +kernel) ?_
      refine lv_icmp_lt (tgt := 36) hx hb dX6_ask_23 (by decide) (fun c_8 => ?_) (fun c_8 => ?_)
      · skip
        replace c_8 := (nI_ltI (by omega) (by omega)).mp c_8
        refine lv_aload_n hx hb dX6_ask_36 rfl (lv_at hl 1 rfl) ?_
        refine lv_aload hx hb dX6_ask_37 (lv_at hl 0 rfl) ?_
        refine lv_iload_n hx hb dX6_ask_39 rfl (lv_at hl 3 rfl) ?_
        refine lv_iload_n hx hb dX6_ask_40 rfl (lv_at hl 4 rfl) ?_
        refine x_callV C hH hS (ci := 7) (t := (0, 0, 0)) hX rfl rfl (c_refusal l (E := E) (base := base) hR0 hI0 (p := p_3) hp_3 (x := z) (bit := bit)) hH kX6_refusalOf qw_490 (ws_p (List.mem_of_getElem? (i := 10) rfl) rfl) qw_488  rfl [] rfl hl.1 (Nat.le_of_ble_eq_true rfl) ⟨Nat.le_of_ble_eq_true rfl, Nat.le_of_ble_eq_true rfl⟩ dX6_ask_41 ⟨Nat.le_of_ble_eq_true rfl, Nat.le_of_ble_eq_true rfl⟩ (fun r_10 H locs hp_9 hS => ?_)
        obtain ⟨rfl, hH⟩ := hp_9
        refine lv_istore (lv' := [(5, .int (-nI (fate nf na nw sg rc p_3 z bit))), (4, .ref (al (2, p_3, 0))), (0, .ref (al (0, 0, 0))), (1, .int (nI p_3)), (2, .int z), (3, .int bit)]) hx hb dX6_ask_44 hl (by decide) rfl (fun ls hl => ?_)
        refine lv_aload hx hb dX6_ask_46 (lv_at hl 1 rfl) ?_
        refine lv_iload hx hb dX6_ask_48 (lv_at hl 0 rfl) ?_
        refine x_callV C hH hS (ci := 5) (t := (2, p_3, 0)) (hPT p_3 (by omega)).1 rfl rfl (c_countQ l (E := E) (base := base) (hPT p_3 (by omega)) (k := (fate nf na nw sg rc p_3 z bit)) fate_lt) hH kX4_countQuestion qw_540 qw_541 qw_539  rfl [] rfl hl.1 (Nat.le_of_ble_eq_true rfl) ⟨Nat.le_of_ble_eq_true rfl, Nat.le_of_ble_eq_true rfl⟩ dX6_ask_50 ⟨Nat.le_of_ble_eq_true rfl, Nat.le_of_ble_eq_true rfl⟩ (fun r_12 H locs hp_11 hS => ?_)
        obtain ⟨rfl, hH⟩ := hp_11
        have hR1 := RM_fr hR0 (k := (fate nf na nw sg rc p_3 z bit)) (x := sg 13 p_3 (fate nf na nw sg rc p_3 z bit) + nI 1) hp_3
        have hR3 := hR1
        obtain ⟨hX, hF, hPl, hAl, hSh, hMk, hC, hPT, hAn⟩ := hR1
        obtain ⟨mcF, aF, hLF⟩ := hF.sz
        obtain ⟨mcP, aP, hLP⟩ := hPl.sz
        obtain ⟨mcA, aA, hLA⟩ := hAl.sz
        generalize hw3 : (xu w (2, p_3, 3) (.inl (E.2.1 0, 5, .inl (upd (sg 13 p_3) (fate nf na nw sg rc p_3 z bit) (sg 13 p_3 (fate nf na nw sg rc p_3 z bit) + nI 1))))) = w3 at *
        refine lv_iload hx hb dX6_ask_53 (lv_at hl 0 rfl) ?_
        refine lv_if_eq (tgt := 61) hx hb dX6_ask_55 (by decide) (fun c_13 => ?_) (fun c_13 => ?_)
        · skip
          refine lv_aload_n hx hb dX6_ask_61 rfl (lv_at hl 2 rfl) ?_
          refine lv_iload_n hx hb dX6_ask_62 rfl (lv_at hl 4 rfl) ?_
          refine lv_iload_n hx hb dX6_ask_63 rfl (lv_at hl 5 rfl) ?_
          refine x_callV C hH hS (ci := 7) (t := (0, 0, 0)) hX rfl rfl (c_sumOf l (E := E) (base := base) hR3 (INV_k13 hI0 hp_3) (x := z) (bit := bit)) hH kX6_sumOf qw_545 (ws_p (List.mem_of_getElem? (i := 14) rfl) rfl) qw_543  rfl [] rfl hl.1 (Nat.le_of_ble_eq_true rfl) ⟨Nat.le_of_ble_eq_true rfl, Nat.le_of_ble_eq_true rfl⟩ dX6_ask_64 ⟨Nat.le_of_ble_eq_true rfl, Nat.le_of_ble_eq_true rfl⟩ (fun r_15 H locs hp_14 hS => ?_)
          obtain ⟨rfl, hH⟩ := hp_14
          refine lv_re (y := (tel bit (xoR z (fun f => sg 1 f 0) nf))) (by rw [u3_k (by decide)]) ?_
          refine lv_istore (lv' := [(6, .int (tel bit (xoR z (fun f => sg 1 f 0) nf))), (5, .int (-nI (fate nf na nw sg rc p_3 z bit))), (4, .ref (al (2, p_3, 0))), (0, .ref (al (0, 0, 0))), (1, .int (nI p_3)), (2, .int z), (3, .int bit)]) hx hb dX6_ask_67 hl (by decide) rfl (fun ls hl => ?_)
          refine lv_aload_n hx hb dX6_ask_69 rfl (lv_at hl 3 rfl) ?_
          refine x_get C hH (ci := 7) (T := TX6) (N := 6) hX rfl iWX6 2 (by decide) qw_89 rfl rfl dX6_ask_70 ?_
          have hp0 := (hPT p_3 (by omega)).1
          refine x_new C hH hS (6, na, 0) (ci := 1) (T := TX0) (N := 6) (fs := [.int 0, .int 0, .int 0, .int 0, .int 0, .int 0]) rfl iWX0 tyX0 tyX0_ok qw_341 qw_547 qw_22 (fun j hj => by rcases (show j = 0 ∨ j = 1 ∨ j = 2 ∨ j = 3 ∨ j = 4 ∨ j = 5 by omega) with rfl | rfl | rfl | rfl | rfl | rfl <;> rfl) (Nat.le_of_ble_eq_true rfl) (Nat.le_of_ble_eq_true rfl) dX6_ask_73 (fun G16_ hH hS => ?_)
          obtain ⟨q_16, hq_16⟩ : ∃ zz9 : Nat, zz9 = xa al (6, na, 0) H.size (6, na, 0) := ⟨_, rfl⟩
          obtain ⟨alq_16, halq_16⟩ : ∃ zz9 : Tg → Nat, zz9 = xa al (6, na, 0) H.size := ⟨_, rfl⟩
          rw [← halq_16] at hH
          rw [← hq_16]
          have ad_17 : alq_16 (0, 0, 0) = al (0, 0, 0) := by rw [halq_16, xa_ne (by simp)]
          have hX := xu_of (t := (6, na, 0)) (e := .inr (1, [.int 0, .int 0, .int 0, .int 0, .int 0, .int 0])) (by simp) hX
          have ad_18 : alq_16 (0, 1, 0) = al (0, 1, 0) := by rw [halq_16, xa_ne (by simp)]
          have hLF := xu_of (t := (6, na, 0)) (e := .inr (1, [.int 0, .int 0, .int 0, .int 0, .int 0, .int 0])) (by simp) hLF
          have ad_19 : alq_16 (0, 2, 0) = al (0, 2, 0) := by rw [halq_16, xa_ne (by simp)]
          have hLP := xu_of (t := (6, na, 0)) (e := .inr (1, [.int 0, .int 0, .int 0, .int 0, .int 0, .int 0])) (by simp) hLP
          have ad_20 : alq_16 (0, 3, 0) = al (0, 3, 0) := by rw [halq_16, xa_ne (by simp)]
          have hLA := xu_of (t := (6, na, 0)) (e := .inr (1, [.int 0, .int 0, .int 0, .int 0, .int 0, .int 0])) (by simp) hLA
          have ad_21 : alq_16 (2, p_3, 0) = al (2, p_3, 0) := by rw [halq_16, xa_ne (by simp)]
          have hp0 := xu_of (t := (6, na, 0)) (e := .inr (1, [.int 0, .int 0, .int 0, .int 0, .int 0, .int 0])) (by simp) hp0
          have ad_23 : alq_16 (6, na, 0) = q_16 := by rw [halq_16, hq_16]
          have hn_22 : (xu w3 (6, na, 0) (.inr (1, [.int 0, .int 0, .int 0, .int 0, .int 0, .int 0]))) (6, na, 0) = some (.inr (1, [.int 0, .int 0, .int 0, .int 0, .int 0, .int 0])) := xu_self _ _ _
          refine lv_dup hx hb dX6_ask_76 rfl ?_
          refine lv_aload hx hb dX6_ask_77 (lv_at hl 2 rfl) ?_
          refine lv_adr (ad_21).symm ?_
          refine x_getN C hH (ci := 5) (T := TX4) (N := 5) hp0 rfl iWX4 0 (by decide) nw_393 rfl rfl dX6_ask_79 ?_
          refine lv_iload_n hx hb dX6_ask_82 rfl (lv_at hl 5 rfl) ?_
          refine lv_iload_n hx hb dX6_ask_83 rfl (lv_at hl 6 rfl) ?_
          refine lv_iload hx hb dX6_ask_84 (lv_at hl 0 rfl) ?_
          refine lv_aload_n hx hb dX6_ask_86 rfl (lv_at hl 3 rfl) ?_
          refine lv_adr (ad_17).symm ?_
          refine x_get C hH (ci := 7) (T := TX6) (N := 6) hX rfl iWX6 3 (by decide) qw_90 rfl rfl dX6_ask_87 ?_
          refine lv_adr6 (ad_23).symm ?_
          refine x_callI C hS (c_Answer l (E := E) (base := base) hn_22) hH kX0_init qw_549 rfl qw_548  rfl [.ref q_16, .ref (al (0, 3, 0))] rfl hl.1 (Nat.le_of_ble_eq_true rfl) ⟨Nat.le_of_ble_eq_true rfl, Nat.le_of_ble_eq_true rfl⟩ dX6_ask_90 ⟨Nat.le_of_ble_eq_true rfl, Nat.le_of_ble_eq_true rfl⟩ (fun r_25 H locs hp_24 hS => ?_)
          obtain ⟨rfl, hH⟩ := hp_24
          rw [xu_uu] at hH
          have hv9 : (xu w3 (6, na, 0) (.inr (1, [.int (nI p_3), .int z, .int bit, .int (tel bit (xoR z (fun f => sg 1 f 0) nf)), .int (nI nw), .int 0]))) (6, na, 0) = some (.inr (1, [.int (nI p_3), .int z, .int bit, .int (tel bit (xoR z (fun f => sg 1 f 0) nf)), .int (nI nw), .int 0])) := xu_self _ _ _
          have hR1 : RM E alq_16 (xu w3 (6, na, 0) (.inr (1, [.int (nI p_3), .int z, .int bit, .int (tel bit (xoR z (fun f => sg 1 f 0) nf)), .int (nI nw), .int 0]))) nf np na nw (u3 sg 13 p_3 (fate nf na nw sg rc p_3 z bit) (sg 13 p_3 (fate nf na nw sg rc p_3 z bit) + nI 1)) rc := RM.of hR3 (fun t ht => xu_ne (fun e => by rw [e] at ht; revert ht; simp [dm])) (fun t ht => by rw [halq_16]; exact xa_ne (fun e => by rw [e] at ht; revert ht; simp [dm]))
          have hR2 := hR1
          obtain ⟨hX, hF, hPl, hAl, hSh, hMk, hC, hPT, hAn⟩ := hR1
          obtain ⟨mcF, aF, hLF⟩ := hF.sz
          obtain ⟨mcP, aP, hLP⟩ := hPl.sz
          obtain ⟨mcA, aA, hLA⟩ := hAl.sz
          have lad9 : al (0, 3, 0) = alq_16 (0, 3, 0) := by rw [halq_16]; exact (xa_ne (by simp)).symm
          have rad9 : al (0, 0, 0) = alq_16 (0, 0, 0) := by rw [halq_16]; exact (xa_ne (by simp)).symm
          have pad9 : al (2, p_3, 0) = alq_16 (2, p_3, 0) := by rw [halq_16]; exact (xa_ne (by simp)).symm
          refine lv_adr (ad_23).symm ?_
          refine lv_adr2 lad9 ?_
          refine x_callV C hH hS (ci := 0) (t := (0, 3, 0)) hLA rfl rfl (c_add l (E := E) (base := base) (tv := (6, na, 0)) hAl (by omega) (by simp) (by simp) (by simp) (ci := 1) rfl nw_713 hv9 (fun i hi => ⟨⟨by simp, by simp, by simp⟩, ⟨_, hAn i hi⟩⟩) (by simp) (by simp) (by simp)) hH kJx4a65c_add_9ea2d qw_232 qw_233 qw_231  rfl [] rfl hl.1 (Nat.le_of_ble_eq_true rfl) ⟨Nat.le_of_ble_eq_true rfl, Nat.le_of_ble_eq_true rfl⟩ dX6_ask_93 ⟨Nat.le_of_ble_eq_true rfl, Nat.le_of_ble_eq_true rfl⟩ (fun r_27 H locs hp_26 hS => ?_)
          obtain ⟨rfl, al2, w2, hH, hLa, hfr, hL0⟩ := hp_26
          have ar9 : al (0, 0, 0) = al2 (0, 0, 0) := by rw [(hfr (0, 0, 0) (by simp) (by simp) (by simp)).2]; exact rad9
          have hv2 := (hfr (6, na, 0) (by simp) (by simp) (by simp)).1.trans hv9
          have hG := RMg_addN (RM_g.mp hR2) hfr hL0 hLa (vR na (Nat.le_refl _)) hv2
          have hG0 := hG
          have pad8 := pad9.trans (hfr (2, p_3, 0) (by simp) (by simp) (by simp)).2.symm
          obtain ⟨hA9, hC9, hP9, hN9⟩ := hG
          have hP8 := hP9 p_3 hp_3
          refine lv_pop hx hb dX6_ask_96 rfl ?_
          refine lv_aload hx hb dX6_ask_97 (lv_at hl 2 rfl) ?_
          refine lv_iload_n hx hb dX6_ask_99 rfl (lv_at hl 5 rfl) ?_
          refine lv_iload_n hx hb dX6_ask_100 rfl (lv_at hl 6 rfl) ?_
          refine lv_adr3 pad8 ?_
          refine x_callV C hH hS (ci := 5) (t := (2, p_3, 0)) hP8.1 rfl rfl (c_plearn l (E := E) (base := base) hP8 (x := z) (bit := bit)) hH kX4_learn qw_362 qw_363 qw_361  rfl [] rfl hl.1 (Nat.le_of_ble_eq_true rfl) ⟨Nat.le_of_ble_eq_true rfl, Nat.le_of_ble_eq_true rfl⟩ dX6_ask_101 ⟨Nat.le_of_ble_eq_true rfl, Nat.le_of_ble_eq_true rfl⟩ (fun r_29 H locs hp_28 hS => ?_)
          obtain ⟨rfl, hH⟩ := hp_28
          refine lv_iload hx hb dX6_ask_104 (lv_at hl 0 rfl) ?_
          have hf0 : fate nf na nw sg rc p_3 z bit = 0 := neg_0.mp c_13
          rw [← hQ]
          refine vx_ret (x_reti C rfl hS (Nat.le_of_ble_eq_true rfl) (Nat.le_of_ble_eq_true rfl) dX6_ask_106 ?_)
          rw [hpost]
          exact ⟨p_3, hp_3, rfl, hQk, c_8, Or.inr ⟨hf0, rfl, PO_fr hH (by have q9 := RM_told hG0 hI0 hp_3; rw [hf0] at q9; exact q9) ar9.symm (fun t ht => ⟨by rw [kw_o (by omega), (hfr t (fun e => by rw [e] at ht; revert ht; simp) (fun e => by rw [e] at ht; revert ht; simp) (fun e => by rw [e] at ht; revert ht; simp)).1, xu_ne (fun e => by rw [e] at ht; revert ht; simp), ← hw3]; exact xu_ne (fun e => by rw [e] at ht; revert ht; simp), by rw [(hfr t (fun e => by rw [e] at ht; revert ht; simp) (fun e => by rw [e] at ht; revert ht; simp) (fun e => by rw [e] at ht; revert ht; simp)).2, halq_16]; exact xa_ne (fun e => by rw [e] at ht; revert ht; simp)⟩)⟩⟩
        · skip
          refine lv_iload hx hb dX6_ask_58 (lv_at hl 0 rfl) ?_
          rw [← hQ]
          refine vx_ret (x_reti C rfl hS (Nat.le_of_ble_eq_true rfl) (Nat.le_of_ble_eq_true rfl) dX6_ask_60 ?_)
          rw [hpost]
          exact ⟨p_3, hp_3, rfl, hQk, c_8, Or.inl ⟨mt neg_0.mpr c_13, rfl, PO_of hH hR3 (fun t ht => by rw [← hw3]; exact xu_ne (fun e => by rw [e] at ht; revert ht; simp))⟩⟩
      · skip
        replace c_8 := mt (nI_ltI (by omega) (by omega)).mpr c_8
        rw [← hQ]
        refine x_throw C het hfl at_ISE qw_200 qw_11 (List.mem_of_getElem? (i := 6) rfl) (by decide +kernel) hS hl.1 dX6_ask_26 dX6_ask_29 dX6_ask_30 dX6_ask_32 dX6_ask_35 (Nat.le_of_ble_eq_true rfl) (Nat.le_of_ble_eq_true rfl) (Nat.le_of_ble_eq_true rfl) (Nat.le_of_ble_eq_true rfl) (Nat.le_of_ble_eq_true rfl) (Nat.le_of_ble_eq_true rfl) (fun H1 ho => ?_)
        rw [hpx]
        exact ⟨Or.inr (Or.inr ⟨rfl, ⟨p_3, hp_3, rfl⟩, hQk, c_8⟩), hH.kept ho⟩
