section ADDP
variable {E : xE} {al1 al2 : Tg → Nat} {w1 w2 : Tg → Option va_E} {nf np na nw : Nat} {sg : Nat → Nat → Nat → Int32} {rc : Nat → Bool}
theorem RM_addP (h : RMg E al1 w1 nf np na nw sg rc (fun p => KFs sg rc na p) (fun p => KCs sg rc na p)) (hfr : ∀ t, t ≠ (0, 2, 0) → t ≠ (0, 2, 1) → t ≠ (9, 9, 9) → w2 t = w1 t ∧ al2 t = al1 t) (hL0 : al2 (0, 2, 0) = al1 (0, 2, 0)) (hLa : LRa E al2 w2 (0, 2, 0) (0, 2, 1) (np + 1) (fun i => if i = np then (2, np, 0) else tP i)) {x : Int32} (hv : PT E al2 w2 np x (sg 4 np) (sg 5 np) (sg 6 np) (sg 13 np) (KFs sg rc na np) (KCs sg rc na np)) : RMg E al2 w2 nf (np + 1) na nw (u3 sg 3 np 0 x) rc (fun p => KFs (u3 sg 3 np 0 x) rc na p) (fun p => KCs (u3 sg 3 np 0 x) rc na p) := by
  rw [KFs_u3 (by decide) (by decide) (by decide), KCs_u3 (by decide) (by decide) (by decide)]
  exact RMg_addP h hfr hL0 hLa hv
theorem rws_no {c : Nat → Bool} {S : Nat → Int32} : ∀ n, (∀ a, a < n → c a = false) → rws c S n = (fun _ => 0) ∧ cnt c S n = 0
  | 0, _ => ⟨rfl, rfl⟩
  | n + 1, h => by
    obtain ⟨h1, h2⟩ := rws_no (S := S) n (fun a ha => h a (by omega))
    have h3 := h n (Nat.lt_succ_self n)
    constructor
    · show (if c n then _ else _) = _; rw [h3]; exact h1
    · show cnt c S n + (if c n then _ else 0) = 0; rw [h3, h2]; rfl
/-- of a new party nothing is known -/
theorem K_new (hI : INV nf np na nw sg rc) : KFs sg rc na np = (fun _ _ => 0) ∧ KCs sg rc na np = (fun _ => 0) ∧ sg 4 np = (fun _ => 0) ∧ sg 13 np = fun _ => 0 := by
  obtain ⟨v16, v6, v150, vnow, vA, vS, vP, vK, vR⟩ := hI
  have k : ∀ b a, a < na → stdb sg rc np b a = false := by
    intro b a ha
    obtain ⟨q, hq, e⟩ := (vA a ha).1
    unfold stdb
    rw [e, decide_eq_false (mt (nI_eq (by omega) (by omega)).mp (by omega : ¬ q = np))]; simp
  exact ⟨funext fun b => (rws_no na (k b)).1, funext fun b => (rws_no na (k b)).2, funext fun f => (vP np (Nat.le_refl _)).1 f, funext fun f => (vP np (Nat.le_refl _)).2 f⟩
end ADDP
set_option maxHeartbeats 4000000 in
set_option maxRecDepth 100000 in
theorem c_party (l : Launch) (hfl : l.stackTraces = false) {E : xE} {base : Nat} {al : Tg → Nat} {w : Tg → Option va_E} {nf np na nw : Nat} {sg : Nat → Nat → Nat → Int32} {rc : Nat → Bool} (hR : RM E al w nf np na nw sg rc) (hI : INV nf np na nw sg rc) {x : Int32} : xMetX l yX6_party cX6_party 3 (some (.int)) ({ frames := 7, cells := 22, slots := 544, locals := 191 } : Room) E base [.ref (al (0, 0, 0)), .int x] (fun H => xH E base al w H) (fun r H => (nI 0 ≤ x ∧ x ≤ nI 128) ∧ np < 6 ∧ r = some (.int (nI np)) ∧ PO E base al w nf (np + 1) na nw (u3 sg 3 np 0 x) rc H) (fun X H => ((X = "java/lang/IllegalArgumentException" ∧ ¬ (nI 0 ≤ x ∧ x ≤ nI 128)) ∨ (X = "java/lang/IllegalStateException" ∧ (nI 0 ≤ x ∧ x ≤ nI 128) ∧ ¬ np < 6)) ∧ xH E base al w H) := by
  refine xMetX.of (by decide +kernel) "Dataroom" rfl (Nat.le_of_ble_eq_true rfl) ?_
  intro p9 e9 s m9 below meth c9 ls C het hP hS hl
  have hx := C.hx
  have hb := C.hb
  have hH := hP
  have hl : lv_has ls 3 [(0, .ref (al (0, 0, 0))), (1, .int x)] := hl
  obtain ⟨post, hpost⟩ : ∃ zz9 : Option Value → Heap → Prop, zz9 = (fun r H => (nI 0 ≤ x ∧ x ≤ nI 128) ∧ np < 6 ∧ r = some (.int (nI np)) ∧ PO E base al w nf (np + 1) na nw (u3 sg 3 np 0 x) rc H) := ⟨_, rfl⟩
  obtain ⟨px, hpx⟩ : ∃ zz9 : String → Heap → Prop, zz9 = (fun X H => ((X = "java/lang/IllegalArgumentException" ∧ ¬ (nI 0 ≤ x ∧ x ≤ nI 128)) ∨ (X = "java/lang/IllegalStateException" ∧ (nI 0 ≤ x ∧ x ≤ nI 128) ∧ ¬ np < 6)) ∧ xH E base al w H) := ⟨_, rfl⟩
  rw [← hpost, ← hpx]
  generalize hQ : (vx_MQ below (xQ base post) (xX base px) ([.ref (al (0, 0, 0)), .int x] : List Value).toArray s 22 544 (xA base)) = Q
  have hR0 := hR
  have hI0 := hI
  obtain ⟨hX, hF, hPl, hAl, hSh, hMk, hC, hPT, hAn⟩ := hR
  obtain ⟨mcF, aF, hLF⟩ := hF.sz
  obtain ⟨mcP, aP, hLP⟩ := hPl.sz
  obtain ⟨mcA, aA, hLA⟩ := hAl.sz
  obtain ⟨v16, v6, v150, vnow, vA, vS, vP, vK, vR⟩ := hI
  refine lv_iload_n hx hb dX6_party_0 rfl (lv_at hl 1 rfl) ?_
  refine lv_iconst (v := nI 0) hx hb dX6_party_1 (by decide +kernel) ?_
  refine lv_sipush (v := nI 128) hx hb dX6_party_2 (by decide +kernel) ?_
  refine x_thrS C hS (c_rRange l hfl (E := E) (base := base) (al := al) (w := w) (v := x) (lo := nI 0) (hi := nI 128)) hH kX6_requireRange qw_126 qw_125  rfl [] rfl hl.1 (Nat.le_of_ble_eq_true rfl) ⟨Nat.le_of_ble_eq_true rfl, Nat.le_of_ble_eq_true rfl⟩ dX6_party_5 ⟨Nat.le_of_ble_eq_true rfl, Nat.le_of_ble_eq_true rfl⟩ (fun X ce q9 H locs hp_1 hS hce hcv hcl => ?_) (fun r_2 H locs hp_1 hS => ?_)
  · skip
    obtain ⟨rfl, hno, hH⟩ := hp_1
    rw [← hQ]
    refine x_outX C het hS hce hcv hcl (Nat.le_of_ble_eq_true rfl) (Nat.le_of_ble_eq_true rfl) ?_
    rw [hpx]
    exact ⟨Or.inl ⟨rfl, hno⟩, hH⟩
  · skip
    obtain ⟨rfl, rg_3, hH⟩ := hp_1
    refine lv_aload_n hx hb dX6_party_8 rfl (lv_at hl 0 rfl) ?_
    refine x_get C hH (ci := 7) (T := TX6) (N := 6) hX rfl iWX6 1 (by decide) qw_88 rfl rfl dX6_party_9 ?_
    refine x_callV C hH hS (ci := 0) (t := (0, 2, 0)) hLP rfl rfl (c_size l (E := E) (base := base) (al := al) hLP) hH kJx4a65c_size_8abf5 qw_197 qw_198 qw_196  rfl [] rfl hl.1 (Nat.le_of_ble_eq_true rfl) ⟨Nat.le_of_ble_eq_true rfl, Nat.le_of_ble_eq_true rfl⟩ dX6_party_12 ⟨Nat.le_of_ble_eq_true rfl, Nat.le_of_ble_eq_true rfl⟩ (fun r_5 H locs hp_4 hS => ?_)
    obtain ⟨rfl, hH⟩ := hp_4
    refine lv_bipush (v := nI 6) hx hb dX6_party_15 (by decide +kernel) ?_
    refine lv_icmp_lt (tgt := 30) hx hb dX6_party_17 (by decide) (fun c_6 => ?_) (fun c_6 => ?_)
    · skip
      replace c_6 := (nI_ltI (by omega) (by omega)).mp c_6
      refine lv_aload_n hx hb dX6_party_30 rfl (lv_at hl 0 rfl) ?_
      refine x_get C hH (ci := 7) (T := TX6) (N := 6) hX rfl iWX6 1 (by decide) qw_88 rfl rfl dX6_party_31 ?_
      refine x_callV C hH hS (ci := 0) (t := (0, 2, 0)) hLP rfl rfl (c_size l (E := E) (base := base) (al := al) hLP) hH kJx4a65c_size_8abf5 qw_197 qw_198 qw_196  rfl [] rfl hl.1 (Nat.le_of_ble_eq_true rfl) ⟨Nat.le_of_ble_eq_true rfl, Nat.le_of_ble_eq_true rfl⟩ dX6_party_34 ⟨Nat.le_of_ble_eq_true rfl, Nat.le_of_ble_eq_true rfl⟩ (fun r_8 H locs hp_7 hS => ?_)
      obtain ⟨rfl, hH⟩ := hp_7
      refine lv_istore_n (lv' := [(2, .int (nI np)), (0, .ref (al (0, 0, 0))), (1, .int x)]) hx hb dX6_party_37 rfl hl (by decide) rfl (fun ls hl => ?_)
      refine lv_aload_n hx hb dX6_party_38 rfl (lv_at hl 1 rfl) ?_
      refine x_get C hH (ci := 7) (T := TX6) (N := 6) hX rfl iWX6 1 (by decide) qw_88 rfl rfl dX6_party_39 ?_
      refine x_new C hH hS (2, np, 0) (ci := 5) (T := TX4) (N := 5) (fs := [.int 0, .int 0, .null, .null, .null]) rfl iWX4 tyX4 tyX4_ok qw_336 qw_381 qw_20 (fun j hj => by rcases (show j = 0 ∨ j = 1 ∨ j = 2 ∨ j = 3 ∨ j = 4 by omega) with rfl | rfl | rfl | rfl | rfl <;> rfl) (Nat.le_of_ble_eq_true rfl) (Nat.le_of_ble_eq_true rfl) dX6_party_42 (fun G9_ hH hS => ?_)
      obtain ⟨q_9, hq_9⟩ : ∃ zz9 : Nat, zz9 = xa al (2, np, 0) H.size (2, np, 0) := ⟨_, rfl⟩
      obtain ⟨alq_9, halq_9⟩ : ∃ zz9 : Tg → Nat, zz9 = xa al (2, np, 0) H.size := ⟨_, rfl⟩
      rw [← halq_9] at hH
      rw [← hq_9]
      have ad_10 : alq_9 (0, 0, 0) = al (0, 0, 0) := by rw [halq_9, xa_ne (by simp)]
      have hX := xu_of (t := (2, np, 0)) (e := .inr (5, [.int 0, .int 0, .null, .null, .null])) (by simp) hX
      have ad_11 : alq_9 (0, 1, 0) = al (0, 1, 0) := by rw [halq_9, xa_ne (by simp)]
      have hLF := xu_of (t := (2, np, 0)) (e := .inr (5, [.int 0, .int 0, .null, .null, .null])) (by simp) hLF
      have ad_12 : alq_9 (0, 2, 0) = al (0, 2, 0) := by rw [halq_9, xa_ne (by simp)]
      have hLP := xu_of (t := (2, np, 0)) (e := .inr (5, [.int 0, .int 0, .null, .null, .null])) (by simp) hLP
      have ad_13 : alq_9 (0, 3, 0) = al (0, 3, 0) := by rw [halq_9, xa_ne (by simp)]
      have hLA := xu_of (t := (2, np, 0)) (e := .inr (5, [.int 0, .int 0, .null, .null, .null])) (by simp) hLA
      have ad_15 : alq_9 (2, np, 0) = q_9 := by rw [halq_9, hq_9]
      have hn_14 : (xu w (2, np, 0) (.inr (5, [.int 0, .int 0, .null, .null, .null]))) (2, np, 0) = some (.inr (5, [.int 0, .int 0, .null, .null, .null])) := xu_self _ _ _
      refine lv_dup hx hb dX6_party_45 rfl ?_
      refine lv_iload_n hx hb dX6_party_46 rfl (lv_at hl 0 rfl) ?_
      refine lv_iload_n hx hb dX6_party_47 rfl (lv_at hl 2 rfl) ?_
      refine lv_adr3 (ad_15).symm ?_
      refine x_callI C hS (c_Party l (E := E) (base := base) hn_14) hH kX4_init qw_383 rfl qw_382  rfl [.ref q_9, .ref (al (0, 2, 0))] rfl hl.1 (Nat.le_of_ble_eq_true rfl) ⟨Nat.le_of_ble_eq_true rfl, Nat.le_of_ble_eq_true rfl⟩ dX6_party_48 ⟨Nat.le_of_ble_eq_true rfl, Nat.le_of_ble_eq_true rfl⟩ (fun r_17 H locs hp_16 hS => ?_)
      obtain ⟨rfl, al9, w9, hH, hp9, hfr9, ha9⟩ := hp_16
      obtain ⟨w8, hH, hPT8, hw8⟩ := hp9.fix hH (rf := sg 5 np) (rt := sg 6 np)
      have fr8 : ∀ t : Tg, ¬ (2 ≤ t.1 ∧ t.1 ≤ 5 ∧ t.2.1 = np) → w8 t = w t ∧ al9 t = al t := fun t ht => ⟨by rw [hw8 t (fun e => by rw [e] at ht; revert ht; simp), (hfr9 t ht).1]; exact xu_ne (fun e => by rw [e] at ht; revert ht; simp), by rw [(hfr9 t ht).2, halq_9]; exact xa_ne (fun e => by rw [e] at ht; revert ht; simp)⟩
      have hv9 := hPT8.1
      have hR1 : RM E al9 w8 nf np na nw sg rc := RM.of hR0 (fun t ht => (fr8 t (fun q => by unfold dm at ht; omega)).1) (fun t ht => (fr8 t (fun q => by unfold dm at ht; omega)).2)
      have hR2 := hR1
      obtain ⟨hX, hF, hPl, hAl, hSh, hMk, hC, hPT, hAn⟩ := hR1
      obtain ⟨mcF, aF, hLF⟩ := hF.sz
      obtain ⟨mcP, aP, hLP⟩ := hPl.sz
      obtain ⟨mcA, aA, hLA⟩ := hAl.sz
      have lad9 : al (0, 2, 0) = al9 (0, 2, 0) := (fr8 (0, 2, 0) (by simp)).2.symm
      have rad9 : al (0, 0, 0) = al9 (0, 0, 0) := (fr8 (0, 0, 0) (by simp)).2.symm
      have qad9 := ((ad_15).symm).trans ha9.symm
      refine lv_adr qad9 ?_
      refine lv_adr2 lad9 ?_
      refine x_callV C hH hS (ci := 0) (t := (0, 2, 0)) hLP rfl rfl (c_add l (E := E) (base := base) (tv := (2, np, 0)) hPl (by omega) (by simp) (by simp) (by simp) (ci := 5) rfl nw_712 hv9 (fun i hi => ⟨⟨by simp, by simp, by simp⟩, ⟨_, (hPT i hi).1⟩⟩) (by simp) (by simp) (by simp)) hH kJx4a65c_add_9ea2d qw_232 qw_233 qw_231  rfl [] rfl hl.1 (Nat.le_of_ble_eq_true rfl) ⟨Nat.le_of_ble_eq_true rfl, Nat.le_of_ble_eq_true rfl⟩ dX6_party_51 ⟨Nat.le_of_ble_eq_true rfl, Nat.le_of_ble_eq_true rfl⟩ (fun r_19 H locs hp_18 hS => ?_)
      obtain ⟨rfl, al2, w2, hH, hLa, hfr, hL0⟩ := hp_18
      have ar9 : al (0, 0, 0) = al2 (0, 0, 0) := by rw [(hfr (0, 0, 0) (by simp) (by simp) (by simp)).2]; exact rad9
      have hv2 := (hfr (2, np, 0) (by simp) (by simp) (by simp)).1.trans hv9
      have hPn : PT E al2 w2 np x (sg 4 np) (sg 5 np) (sg 6 np) (sg 13 np) (KFs sg rc na np) (KCs sg rc na np) := by rw [(K_new hI0).1, (K_new hI0).2.1, (K_new hI0).2.2.1, (K_new hI0).2.2.2]; exact hPT8.mv (fun t h1 h2 _ => (hfr t (fun e => by rw [e] at h1; revert h1; simp) (fun e => by rw [e] at h1; revert h1; simp) (fun e => by rw [e] at h2; revert h2; simp)).1) (fun t h1 h2 _ => (hfr t (fun e => by rw [e] at h1; revert h1; simp) (fun e => by rw [e] at h1; revert h1; simp) (fun e => by rw [e] at h2; revert h2; simp)).2)
      have hR3 := RM_g.mpr (RM_addP (RM_g.mp hR2) hfr hL0 hLa hPn)
      have hR1 := hR3
      obtain ⟨hX, hF, hPl, hAl, hSh, hMk, hC, hPT, hAn⟩ := hR1
      obtain ⟨mcF, aF, hLF⟩ := hF.sz
      obtain ⟨mcP, aP, hLP⟩ := hPl.sz
      obtain ⟨mcA, aA, hLA⟩ := hAl.sz
      refine lv_pop hx hb dX6_party_54 rfl ?_
      refine lv_iload_n hx hb dX6_party_55 rfl (lv_at hl 0 rfl) ?_
      rw [← hQ]
      refine vx_ret (x_reti C rfl hS (Nat.le_of_ble_eq_true rfl) (Nat.le_of_ble_eq_true rfl) dX6_party_56 ?_)
      rw [hpost]
      exact ⟨rg_3, by omega, rfl, PO_fr hH hR3 ar9.symm (fun t ht => ⟨by rw [(hfr t (fun e => by rw [e] at ht; revert ht; simp) (fun e => by rw [e] at ht; revert ht; simp) (fun e => by rw [e] at ht; revert ht; simp)).1]; exact (fr8 t (fun q => by omega)).1, by rw [(hfr t (fun e => by rw [e] at ht; revert ht; simp) (fun e => by rw [e] at ht; revert ht; simp) (fun e => by rw [e] at ht; revert ht; simp)).2]; exact (fr8 t (fun q => by omega)).2⟩)⟩
    · skip
      replace c_6 := mt (nI_ltI (by omega) (by omega)).mpr c_6
      rw [← hQ]
      refine x_throw C het hfl at_ISE qw_200 qw_11 (List.mem_of_getElem? (i := 3) rfl) (by decide +kernel) hS hl.1 dX6_party_20 dX6_party_23 dX6_party_24 dX6_party_26 dX6_party_29 (Nat.le_of_ble_eq_true rfl) (Nat.le_of_ble_eq_true rfl) (Nat.le_of_ble_eq_true rfl) (Nat.le_of_ble_eq_true rfl) (Nat.le_of_ble_eq_true rfl) (Nat.le_of_ble_eq_true rfl) (fun H1 ho => ?_)
      rw [hpx]
      exact ⟨Or.inr ⟨rfl, rg_3, c_6⟩, hH.kept ho⟩

set_option maxHeartbeats 4000000 in
set_option maxRecDepth 100000 in
theorem c_Dataroom (l : Launch) {E : xE} {base : Nat} {al : Tg → Nat} {w : Tg → Option va_E} {sg : Nat → Nat → Nat → Int32} {rc : Nat → Bool} (hX : w (0, 0, 0) = some (.inr (7, [.null, .null, .null, .int 0, .null, .null]))) : xMet l yX6_init cX6_init 1 none ({ frames := 4, cells := 7, slots := 1053, locals := 72 } : Room) E base [.ref (al (0, 0, 0))] (fun H => xH E base al w H) (fun r H => r = none ∧ PO E base al w 0 0 0 0 sg rc H) := by
  refine xMet.of (by decide +kernel) "Dataroom" rfl (Nat.le_of_ble_eq_true rfl) ?_
  intro p9 e9 s m9 below meth c9 ls C hin hP hS hl
  have hx := C.hx
  have hb := C.hb
  have hH := hP
  have hl : lv_has ls 1 [(0, .ref (al (0, 0, 0)))] := hl
  obtain ⟨post, hpost⟩ : ∃ zz9 : Option Value → Heap → Prop, zz9 = (fun r H => r = none ∧ PO E base al w 0 0 0 0 sg rc H) := ⟨_, rfl⟩
  rw [← hpost]
  generalize hQ : (MQ below (xQ base post) ([.ref (al (0, 0, 0))] : List Value).toArray s 7 1053 (xA base)) = Q
  refine lv_aload_n hx hb dX6_init_0 rfl (lv_at hl 0 rfl) ?_
  refine x_init C qw_29 qw_30 qw_31 hl.1 dX6_init_1 (Nat.le_of_ble_eq_true rfl) (Nat.le_of_ble_eq_true rfl) ?_
  refine lv_aload_n hx hb dX6_init_4 rfl (lv_at hl 0 rfl) ?_
  refine x_new C hH hS (0, 1, 0) (ci := 0) (T := TJx4a65c) (N := 3) (fs := [.int 0, .null, .int 0]) rfl iWJx4a65c tyJx4a65c tyJx4a65c_ok qw_32 qw_33 qw_4 (fun j hj => by rcases (show j = 0 ∨ j = 1 ∨ j = 2 by omega) with rfl | rfl | rfl <;> rfl) (Nat.le_of_ble_eq_true rfl) (Nat.le_of_ble_eq_true rfl) dX6_init_5 (fun G1_ hH hS => ?_)
  obtain ⟨q_1, hq_1⟩ : ∃ zz9 : Nat, zz9 = xa al (0, 1, 0) s.heap.size (0, 1, 0) := ⟨_, rfl⟩
  obtain ⟨alq_1, halq_1⟩ : ∃ zz9 : Tg → Nat, zz9 = xa al (0, 1, 0) s.heap.size := ⟨_, rfl⟩
  rw [← halq_1] at hH
  rw [← hq_1]
  have ad_2 : alq_1 (0, 0, 0) = al (0, 0, 0) := by rw [halq_1, xa_ne (by simp)]
  have hX := xu_of (t := (0, 1, 0)) (e := .inr (0, [.int 0, .null, .int 0])) (by simp) hX
  have ad_4 : alq_1 (0, 1, 0) = q_1 := by rw [halq_1, hq_1]
  have hn_3 : (xu w (0, 1, 0) (.inr (0, [.int 0, .null, .int 0]))) (0, 1, 0) = some (.inr (0, [.int 0, .null, .int 0])) := xu_self _ _ _
  refine lv_dup hx hb dX6_init_8 rfl ?_
  refine lv_adr (ad_4).symm ?_
  refine x_callI C hS (c_List l (E := E) (base := base) hn_3) hH kJx4a65c_init_da8c8 qw_35 rfl qw_34  rfl [.ref q_1, .ref (al (0, 0, 0))] rfl hl.1 (Nat.le_of_ble_eq_true rfl) ⟨Nat.le_of_ble_eq_true rfl, Nat.le_of_ble_eq_true rfl⟩ dX6_init_9 ⟨Nat.le_of_ble_eq_true rfl, Nat.le_of_ble_eq_true rfl⟩ (fun r_6 H locs hp_5 hS => ?_)
  obtain ⟨rfl, hH⟩ := hp_5
  have hX := xu_of (t := (0, 1, 0)) (e := .inr (0, [.int (nI 0), .ref (E.2.2 1), .int 0])) (by simp) hX
  have hn_3 : (xu (xu w (0, 1, 0) (.inr (0, [.int 0, .null, .int 0]))) (0, 1, 0) (.inr (0, [.int (nI 0), .ref (E.2.2 1), .int 0]))) (0, 1, 0) = some (.inr (0, [.int (nI 0), .ref (E.2.2 1), .int 0])) := xu_self _ _ _
  refine lv_adr2 (ad_2).symm ?_
  refine x_putF C hH hS (ci := 7) (T := TX6) (N := 6) (fs' := [.ref q_1, .null, .null, .int 0, .null, .null]) hX rfl iWX6 tyX6 tyX6_ok nmX6 0 (by decide) qw_87 rfl rfl hin rfl rfl rfl (Nat.le_of_ble_eq_true rfl) rfl dX6_init_12 (fun H locs hH hS => ?_)
  have hn_3 := xu_of (t := (0, 0, 0)) (e := .inr (7, [.ref q_1, .null, .null, .int 0, .null, .null])) (by simp) hn_3
  have hX : (xu (xu (xu w (0, 1, 0) (.inr (0, [.int 0, .null, .int 0]))) (0, 1, 0) (.inr (0, [.int (nI 0), .ref (E.2.2 1), .int 0]))) (0, 0, 0) (.inr (7, [.ref q_1, .null, .null, .int 0, .null, .null]))) (0, 0, 0) = some (.inr (7, [.ref q_1, .null, .null, .int 0, .null, .null])) := xu_self _ _ _
  refine lv_aload_n hx hb dX6_init_15 rfl (lv_at hl 0 rfl) ?_
  refine x_new C hH hS (0, 2, 0) (ci := 0) (T := TJx4a65c) (N := 3) (fs := [.int 0, .null, .int 0]) rfl iWJx4a65c tyJx4a65c tyJx4a65c_ok qw_32 qw_33 qw_4 (fun j hj => by rcases (show j = 0 ∨ j = 1 ∨ j = 2 by omega) with rfl | rfl | rfl <;> rfl) (Nat.le_of_ble_eq_true rfl) (Nat.le_of_ble_eq_true rfl) dX6_init_16 (fun G7_ hH hS => ?_)
  obtain ⟨q_7, hq_7⟩ : ∃ zz9 : Nat, zz9 = xa alq_1 (0, 2, 0) H.size (0, 2, 0) := ⟨_, rfl⟩
  obtain ⟨alq_7, halq_7⟩ : ∃ zz9 : Tg → Nat, zz9 = xa alq_1 (0, 2, 0) H.size := ⟨_, rfl⟩
  rw [← halq_7] at hH
  rw [← hq_7]
  have ad_8 : alq_7 (0, 0, 0) = al (0, 0, 0) := by rw [halq_7, xa_ne (by simp)]; exact ((ad_2).symm).symm
  have hX := xu_of (t := (0, 2, 0)) (e := .inr (0, [.int 0, .null, .int 0])) (by simp) hX
  have ad_9 : alq_7 (0, 1, 0) = q_1 := by rw [halq_7, xa_ne (by simp)]; exact ((ad_4).symm).symm
  have hn_3 := xu_of (t := (0, 2, 0)) (e := .inr (0, [.int 0, .null, .int 0])) (by simp) hn_3
  have ad_11 : alq_7 (0, 2, 0) = q_7 := by rw [halq_7, hq_7]
  have hn_10 : (xu (xu (xu (xu w (0, 1, 0) (.inr (0, [.int 0, .null, .int 0]))) (0, 1, 0) (.inr (0, [.int (nI 0), .ref (E.2.2 1), .int 0]))) (0, 0, 0) (.inr (7, [.ref q_1, .null, .null, .int 0, .null, .null]))) (0, 2, 0) (.inr (0, [.int 0, .null, .int 0]))) (0, 2, 0) = some (.inr (0, [.int 0, .null, .int 0])) := xu_self _ _ _
  refine lv_dup hx hb dX6_init_19 rfl ?_
  refine lv_adr (ad_11).symm ?_
  refine x_callI C hS (c_List l (E := E) (base := base) hn_10) hH kJx4a65c_init_da8c8 qw_35 rfl qw_34  rfl [.ref q_7, .ref (al (0, 0, 0))] rfl hl.1 (Nat.le_of_ble_eq_true rfl) ⟨Nat.le_of_ble_eq_true rfl, Nat.le_of_ble_eq_true rfl⟩ dX6_init_20 ⟨Nat.le_of_ble_eq_true rfl, Nat.le_of_ble_eq_true rfl⟩ (fun r_13 H locs hp_12 hS => ?_)
  obtain ⟨rfl, hH⟩ := hp_12
  have hX := xu_of (t := (0, 2, 0)) (e := .inr (0, [.int (nI 0), .ref (E.2.2 1), .int 0])) (by simp) hX
  have hn_3 := xu_of (t := (0, 2, 0)) (e := .inr (0, [.int (nI 0), .ref (E.2.2 1), .int 0])) (by simp) hn_3
  have hn_10 : (xu (xu (xu (xu (xu w (0, 1, 0) (.inr (0, [.int 0, .null, .int 0]))) (0, 1, 0) (.inr (0, [.int (nI 0), .ref (E.2.2 1), .int 0]))) (0, 0, 0) (.inr (7, [.ref q_1, .null, .null, .int 0, .null, .null]))) (0, 2, 0) (.inr (0, [.int 0, .null, .int 0]))) (0, 2, 0) (.inr (0, [.int (nI 0), .ref (E.2.2 1), .int 0]))) (0, 2, 0) = some (.inr (0, [.int (nI 0), .ref (E.2.2 1), .int 0])) := xu_self _ _ _
  refine lv_adr2 (ad_8).symm ?_
  refine x_putF C hH hS (ci := 7) (T := TX6) (N := 6) (fs' := [.ref q_1, .ref q_7, .null, .int 0, .null, .null]) hX rfl iWX6 tyX6 tyX6_ok nmX6 1 (by decide) qw_88 rfl rfl hin rfl rfl rfl (Nat.le_of_ble_eq_true rfl) rfl dX6_init_23 (fun H locs hH hS => ?_)
  have hn_3 := xu_of (t := (0, 0, 0)) (e := .inr (7, [.ref q_1, .ref q_7, .null, .int 0, .null, .null])) (by simp) hn_3
  have hn_10 := xu_of (t := (0, 0, 0)) (e := .inr (7, [.ref q_1, .ref q_7, .null, .int 0, .null, .null])) (by simp) hn_10
  have hX : (xu (xu (xu (xu (xu (xu w (0, 1, 0) (.inr (0, [.int 0, .null, .int 0]))) (0, 1, 0) (.inr (0, [.int (nI 0), .ref (E.2.2 1), .int 0]))) (0, 0, 0) (.inr (7, [.ref q_1, .null, .null, .int 0, .null, .null]))) (0, 2, 0) (.inr (0, [.int 0, .null, .int 0]))) (0, 2, 0) (.inr (0, [.int (nI 0), .ref (E.2.2 1), .int 0]))) (0, 0, 0) (.inr (7, [.ref q_1, .ref q_7, .null, .int 0, .null, .null]))) (0, 0, 0) = some (.inr (7, [.ref q_1, .ref q_7, .null, .int 0, .null, .null])) := xu_self _ _ _
  refine lv_aload_n hx hb dX6_init_26 rfl (lv_at hl 0 rfl) ?_
  refine x_new C hH hS (0, 3, 0) (ci := 0) (T := TJx4a65c) (N := 3) (fs := [.int 0, .null, .int 0]) rfl iWJx4a65c tyJx4a65c tyJx4a65c_ok qw_32 qw_33 qw_4 (fun j hj => by rcases (show j = 0 ∨ j = 1 ∨ j = 2 by omega) with rfl | rfl | rfl <;> rfl) (Nat.le_of_ble_eq_true rfl) (Nat.le_of_ble_eq_true rfl) dX6_init_27 (fun G14_ hH hS => ?_)
  obtain ⟨q_14, hq_14⟩ : ∃ zz9 : Nat, zz9 = xa alq_7 (0, 3, 0) H.size (0, 3, 0) := ⟨_, rfl⟩
  obtain ⟨alq_14, halq_14⟩ : ∃ zz9 : Tg → Nat, zz9 = xa alq_7 (0, 3, 0) H.size := ⟨_, rfl⟩
  rw [← halq_14] at hH
  rw [← hq_14]
  have ad_15 : alq_14 (0, 0, 0) = al (0, 0, 0) := by rw [halq_14, xa_ne (by simp)]; exact ((ad_8).symm).symm
  have hX := xu_of (t := (0, 3, 0)) (e := .inr (0, [.int 0, .null, .int 0])) (by simp) hX
  have ad_16 : alq_14 (0, 1, 0) = q_1 := by rw [halq_14, xa_ne (by simp)]; exact ((ad_9).symm).symm
  have hn_3 := xu_of (t := (0, 3, 0)) (e := .inr (0, [.int 0, .null, .int 0])) (by simp) hn_3
  have ad_17 : alq_14 (0, 2, 0) = q_7 := by rw [halq_14, xa_ne (by simp)]; exact ((ad_11).symm).symm
  have hn_10 := xu_of (t := (0, 3, 0)) (e := .inr (0, [.int 0, .null, .int 0])) (by simp) hn_10
  have ad_19 : alq_14 (0, 3, 0) = q_14 := by rw [halq_14, hq_14]
  have hn_18 : (xu (xu (xu (xu (xu (xu (xu w (0, 1, 0) (.inr (0, [.int 0, .null, .int 0]))) (0, 1, 0) (.inr (0, [.int (nI 0), .ref (E.2.2 1), .int 0]))) (0, 0, 0) (.inr (7, [.ref q_1, .null, .null, .int 0, .null, .null]))) (0, 2, 0) (.inr (0, [.int 0, .null, .int 0]))) (0, 2, 0) (.inr (0, [.int (nI 0), .ref (E.2.2 1), .int 0]))) (0, 0, 0) (.inr (7, [.ref q_1, .ref q_7, .null, .int 0, .null, .null]))) (0, 3, 0) (.inr (0, [.int 0, .null, .int 0]))) (0, 3, 0) = some (.inr (0, [.int 0, .null, .int 0])) := xu_self _ _ _
  refine lv_dup hx hb dX6_init_30 rfl ?_
  refine lv_adr (ad_19).symm ?_
  refine x_callI C hS (c_List l (E := E) (base := base) hn_18) hH kJx4a65c_init_da8c8 qw_35 rfl qw_34  rfl [.ref q_14, .ref (al (0, 0, 0))] rfl hl.1 (Nat.le_of_ble_eq_true rfl) ⟨Nat.le_of_ble_eq_true rfl, Nat.le_of_ble_eq_true rfl⟩ dX6_init_31 ⟨Nat.le_of_ble_eq_true rfl, Nat.le_of_ble_eq_true rfl⟩ (fun r_21 H locs hp_20 hS => ?_)
  obtain ⟨rfl, hH⟩ := hp_20
  have hX := xu_of (t := (0, 3, 0)) (e := .inr (0, [.int (nI 0), .ref (E.2.2 1), .int 0])) (by simp) hX
  have hn_3 := xu_of (t := (0, 3, 0)) (e := .inr (0, [.int (nI 0), .ref (E.2.2 1), .int 0])) (by simp) hn_3
  have hn_10 := xu_of (t := (0, 3, 0)) (e := .inr (0, [.int (nI 0), .ref (E.2.2 1), .int 0])) (by simp) hn_10
  have hn_18 : (xu (xu (xu (xu (xu (xu (xu (xu w (0, 1, 0) (.inr (0, [.int 0, .null, .int 0]))) (0, 1, 0) (.inr (0, [.int (nI 0), .ref (E.2.2 1), .int 0]))) (0, 0, 0) (.inr (7, [.ref q_1, .null, .null, .int 0, .null, .null]))) (0, 2, 0) (.inr (0, [.int 0, .null, .int 0]))) (0, 2, 0) (.inr (0, [.int (nI 0), .ref (E.2.2 1), .int 0]))) (0, 0, 0) (.inr (7, [.ref q_1, .ref q_7, .null, .int 0, .null, .null]))) (0, 3, 0) (.inr (0, [.int 0, .null, .int 0]))) (0, 3, 0) (.inr (0, [.int (nI 0), .ref (E.2.2 1), .int 0]))) (0, 3, 0) = some (.inr (0, [.int (nI 0), .ref (E.2.2 1), .int 0])) := xu_self _ _ _
  refine lv_adr2 (ad_15).symm ?_
  refine x_putF C hH hS (ci := 7) (T := TX6) (N := 6) (fs' := [.ref q_1, .ref q_7, .ref q_14, .int 0, .null, .null]) hX rfl iWX6 tyX6 tyX6_ok nmX6 2 (by decide) qw_89 rfl rfl hin rfl rfl rfl (Nat.le_of_ble_eq_true rfl) rfl dX6_init_34 (fun H locs hH hS => ?_)
  have hn_3 := xu_of (t := (0, 0, 0)) (e := .inr (7, [.ref q_1, .ref q_7, .ref q_14, .int 0, .null, .null])) (by simp) hn_3
  have hn_10 := xu_of (t := (0, 0, 0)) (e := .inr (7, [.ref q_1, .ref q_7, .ref q_14, .int 0, .null, .null])) (by simp) hn_10
  have hn_18 := xu_of (t := (0, 0, 0)) (e := .inr (7, [.ref q_1, .ref q_7, .ref q_14, .int 0, .null, .null])) (by simp) hn_18
  have hX : (xu (xu (xu (xu (xu (xu (xu (xu (xu w (0, 1, 0) (.inr (0, [.int 0, .null, .int 0]))) (0, 1, 0) (.inr (0, [.int (nI 0), .ref (E.2.2 1), .int 0]))) (0, 0, 0) (.inr (7, [.ref q_1, .null, .null, .int 0, .null, .null]))) (0, 2, 0) (.inr (0, [.int 0, .null, .int 0]))) (0, 2, 0) (.inr (0, [.int (nI 0), .ref (E.2.2 1), .int 0]))) (0, 0, 0) (.inr (7, [.ref q_1, .ref q_7, .null, .int 0, .null, .null]))) (0, 3, 0) (.inr (0, [.int 0, .null, .int 0]))) (0, 3, 0) (.inr (0, [.int (nI 0), .ref (E.2.2 1), .int 0]))) (0, 0, 0) (.inr (7, [.ref q_1, .ref q_7, .ref q_14, .int 0, .null, .null]))) (0, 0, 0) = some (.inr (7, [.ref q_1, .ref q_7, .ref q_14, .int 0, .null, .null])) := xu_self _ _ _
  refine lv_aload_n hx hb dX6_init_37 rfl (lv_at hl 0 rfl) ?_
  refine x_new C hH hS (0, 4, 0) (ci := 3) (T := TX2) (N := 2) (fs := [.null, .int 0]) rfl iWX2 tyX2 tyX2_ok qw_58 qw_59 qw_5 (fun j hj => by rcases (show j = 0 ∨ j = 1 by omega) with rfl | rfl <;> rfl) (Nat.le_of_ble_eq_true rfl) (Nat.le_of_ble_eq_true rfl) dX6_init_38 (fun G22_ hH hS => ?_)
  obtain ⟨q_22, hq_22⟩ : ∃ zz9 : Nat, zz9 = xa alq_14 (0, 4, 0) H.size (0, 4, 0) := ⟨_, rfl⟩
  obtain ⟨alq_22, halq_22⟩ : ∃ zz9 : Tg → Nat, zz9 = xa alq_14 (0, 4, 0) H.size := ⟨_, rfl⟩
  rw [← halq_22] at hH
  rw [← hq_22]
  have ad_23 : alq_22 (0, 0, 0) = al (0, 0, 0) := by rw [halq_22, xa_ne (by simp)]; exact ((ad_15).symm).symm
  have hX := xu_of (t := (0, 4, 0)) (e := .inr (3, [.null, .int 0])) (by simp) hX
  have ad_24 : alq_22 (0, 1, 0) = q_1 := by rw [halq_22, xa_ne (by simp)]; exact ((ad_16).symm).symm
  have hn_3 := xu_of (t := (0, 4, 0)) (e := .inr (3, [.null, .int 0])) (by simp) hn_3
  have ad_25 : alq_22 (0, 2, 0) = q_7 := by rw [halq_22, xa_ne (by simp)]; exact ((ad_17).symm).symm
  have hn_10 := xu_of (t := (0, 4, 0)) (e := .inr (3, [.null, .int 0])) (by simp) hn_10
  have ad_26 : alq_22 (0, 3, 0) = q_14 := by rw [halq_22, xa_ne (by simp)]; exact ((ad_19).symm).symm
  have hn_18 := xu_of (t := (0, 4, 0)) (e := .inr (3, [.null, .int 0])) (by simp) hn_18
  have ad_28 : alq_22 (0, 4, 0) = q_22 := by rw [halq_22, hq_22]
  have hn_27 : (xu (xu (xu (xu (xu (xu (xu (xu (xu (xu w (0, 1, 0) (.inr (0, [.int 0, .null, .int 0]))) (0, 1, 0) (.inr (0, [.int (nI 0), .ref (E.2.2 1), .int 0]))) (0, 0, 0) (.inr (7, [.ref q_1, .null, .null, .int 0, .null, .null]))) (0, 2, 0) (.inr (0, [.int 0, .null, .int 0]))) (0, 2, 0) (.inr (0, [.int (nI 0), .ref (E.2.2 1), .int 0]))) (0, 0, 0) (.inr (7, [.ref q_1, .ref q_7, .null, .int 0, .null, .null]))) (0, 3, 0) (.inr (0, [.int 0, .null, .int 0]))) (0, 3, 0) (.inr (0, [.int (nI 0), .ref (E.2.2 1), .int 0]))) (0, 0, 0) (.inr (7, [.ref q_1, .ref q_7, .ref q_14, .int 0, .null, .null]))) (0, 4, 0) (.inr (3, [.null, .int 0]))) (0, 4, 0) = some (.inr (3, [.null, .int 0])) := xu_self _ _ _
  refine lv_dup hx hb dX6_init_41 rfl ?_
  refine lv_adr (ad_28).symm ?_
  refine x_callIN C hS (c_Knowledge l (E := E) (base := base) (tr := (0, 4, 1)) (by simp) hn_27) hH kX2_init qw_61 rfl nw_60  rfl [.ref q_22, .ref (al (0, 0, 0))] rfl hl.1 (Nat.le_of_ble_eq_true rfl) ⟨Nat.le_of_ble_eq_true rfl, Nat.le_of_ble_eq_true rfl⟩ dX6_init_42 ⟨Nat.le_of_ble_eq_true rfl, Nat.le_of_ble_eq_true rfl⟩ (fun r_30 H locs hp_29 hS => ?_)
  obtain ⟨rfl, qk_31, hH⟩ := hp_29
  obtain ⟨alx_32, halx_32⟩ : ∃ zz9 : Tg → Nat, zz9 = xa alq_22 (0, 4, 1) qk_31 := ⟨_, rfl⟩
  rw [← halx_32] at hH
  have ad_33 : alx_32 (0, 0, 0) = al (0, 0, 0) := by rw [halx_32, xa_ne (by simp)]; exact ((ad_23).symm).symm
  have ad_34 : alx_32 (0, 1, 0) = q_1 := by rw [halx_32, xa_ne (by simp)]; exact ((ad_24).symm).symm
  have ad_35 : alx_32 (0, 2, 0) = q_7 := by rw [halx_32, xa_ne (by simp)]; exact ((ad_25).symm).symm
  have ad_36 : alx_32 (0, 3, 0) = q_14 := by rw [halx_32, xa_ne (by simp)]; exact ((ad_26).symm).symm
  have ad_37 : alx_32 (0, 4, 0) = q_22 := by rw [halx_32, xa_ne (by simp)]; exact ((ad_28).symm).symm
  have hX := xu_of (t := (0, 4, 1)) (e := .inl (E.2.1 0, 16, .inl (fun _ => 0))) (by simp) hX
  have hn_3 := xu_of (t := (0, 4, 1)) (e := .inl (E.2.1 0, 16, .inl (fun _ => 0))) (by simp) hn_3
  have hn_10 := xu_of (t := (0, 4, 1)) (e := .inl (E.2.1 0, 16, .inl (fun _ => 0))) (by simp) hn_10
  have hn_18 := xu_of (t := (0, 4, 1)) (e := .inl (E.2.1 0, 16, .inl (fun _ => 0))) (by simp) hn_18
  have hn_27 := xu_of (t := (0, 4, 1)) (e := .inl (E.2.1 0, 16, .inl (fun _ => 0))) (by simp) hn_27
  have hn_38 : (xu (xu (xu (xu (xu (xu (xu (xu (xu (xu (xu w (0, 1, 0) (.inr (0, [.int 0, .null, .int 0]))) (0, 1, 0) (.inr (0, [.int (nI 0), .ref (E.2.2 1), .int 0]))) (0, 0, 0) (.inr (7, [.ref q_1, .null, .null, .int 0, .null, .null]))) (0, 2, 0) (.inr (0, [.int 0, .null, .int 0]))) (0, 2, 0) (.inr (0, [.int (nI 0), .ref (E.2.2 1), .int 0]))) (0, 0, 0) (.inr (7, [.ref q_1, .ref q_7, .null, .int 0, .null, .null]))) (0, 3, 0) (.inr (0, [.int 0, .null, .int 0]))) (0, 3, 0) (.inr (0, [.int (nI 0), .ref (E.2.2 1), .int 0]))) (0, 0, 0) (.inr (7, [.ref q_1, .ref q_7, .ref q_14, .int 0, .null, .null]))) (0, 4, 0) (.inr (3, [.null, .int 0]))) (0, 4, 1) (.inl (E.2.1 0, 16, .inl (fun _ => 0)))) (0, 4, 1) = _ := xu_self _ _ _
  have ad_39 : qk_31 = alx_32 (0, 4, 1) := by rw [halx_32, xa_self]
  have hX := xu_of (t := (0, 4, 0)) (e := .inr (3, [.ref qk_31, .int 0])) (by simp) hX
  have hn_3 := xu_of (t := (0, 4, 0)) (e := .inr (3, [.ref qk_31, .int 0])) (by simp) hn_3
  have hn_10 := xu_of (t := (0, 4, 0)) (e := .inr (3, [.ref qk_31, .int 0])) (by simp) hn_10
  have hn_18 := xu_of (t := (0, 4, 0)) (e := .inr (3, [.ref qk_31, .int 0])) (by simp) hn_18
  have hn_38 := xu_of (t := (0, 4, 0)) (e := .inr (3, [.ref qk_31, .int 0])) (by simp) hn_38
  have hn_27 : (xu (xu (xu (xu (xu (xu (xu (xu (xu (xu (xu (xu w (0, 1, 0) (.inr (0, [.int 0, .null, .int 0]))) (0, 1, 0) (.inr (0, [.int (nI 0), .ref (E.2.2 1), .int 0]))) (0, 0, 0) (.inr (7, [.ref q_1, .null, .null, .int 0, .null, .null]))) (0, 2, 0) (.inr (0, [.int 0, .null, .int 0]))) (0, 2, 0) (.inr (0, [.int (nI 0), .ref (E.2.2 1), .int 0]))) (0, 0, 0) (.inr (7, [.ref q_1, .ref q_7, .null, .int 0, .null, .null]))) (0, 3, 0) (.inr (0, [.int 0, .null, .int 0]))) (0, 3, 0) (.inr (0, [.int (nI 0), .ref (E.2.2 1), .int 0]))) (0, 0, 0) (.inr (7, [.ref q_1, .ref q_7, .ref q_14, .int 0, .null, .null]))) (0, 4, 0) (.inr (3, [.null, .int 0]))) (0, 4, 1) (.inl (E.2.1 0, 16, .inl (fun _ => 0)))) (0, 4, 0) (.inr (3, [.ref qk_31, .int 0]))) (0, 4, 0) = some (.inr (3, [.ref qk_31, .int 0])) := xu_self _ _ _
  refine lv_adr2 (ad_33).symm ?_
  refine x_putF C hH hS (ci := 7) (T := TX6) (N := 6) (fs' := [.ref q_1, .ref q_7, .ref q_14, .int 0, .ref q_22, .null]) hX rfl iWX6 tyX6 tyX6_ok nmX6 4 (by decide) qw_91 rfl rfl hin rfl rfl rfl (Nat.le_of_ble_eq_true rfl) rfl dX6_init_45 (fun H locs hH hS => ?_)
  have hn_3 := xu_of (t := (0, 0, 0)) (e := .inr (7, [.ref q_1, .ref q_7, .ref q_14, .int 0, .ref q_22, .null])) (by simp) hn_3
  have hn_10 := xu_of (t := (0, 0, 0)) (e := .inr (7, [.ref q_1, .ref q_7, .ref q_14, .int 0, .ref q_22, .null])) (by simp) hn_10
  have hn_18 := xu_of (t := (0, 0, 0)) (e := .inr (7, [.ref q_1, .ref q_7, .ref q_14, .int 0, .ref q_22, .null])) (by simp) hn_18
  have hn_27 := xu_of (t := (0, 0, 0)) (e := .inr (7, [.ref q_1, .ref q_7, .ref q_14, .int 0, .ref q_22, .null])) (by simp) hn_27
  have hn_38 := xu_of (t := (0, 0, 0)) (e := .inr (7, [.ref q_1, .ref q_7, .ref q_14, .int 0, .ref q_22, .null])) (by simp) hn_38
  have hX : (xu (xu (xu (xu (xu (xu (xu (xu (xu (xu (xu (xu (xu w (0, 1, 0) (.inr (0, [.int 0, .null, .int 0]))) (0, 1, 0) (.inr (0, [.int (nI 0), .ref (E.2.2 1), .int 0]))) (0, 0, 0) (.inr (7, [.ref q_1, .null, .null, .int 0, .null, .null]))) (0, 2, 0) (.inr (0, [.int 0, .null, .int 0]))) (0, 2, 0) (.inr (0, [.int (nI 0), .ref (E.2.2 1), .int 0]))) (0, 0, 0) (.inr (7, [.ref q_1, .ref q_7, .null, .int 0, .null, .null]))) (0, 3, 0) (.inr (0, [.int 0, .null, .int 0]))) (0, 3, 0) (.inr (0, [.int (nI 0), .ref (E.2.2 1), .int 0]))) (0, 0, 0) (.inr (7, [.ref q_1, .ref q_7, .ref q_14, .int 0, .null, .null]))) (0, 4, 0) (.inr (3, [.null, .int 0]))) (0, 4, 1) (.inl (E.2.1 0, 16, .inl (fun _ => 0)))) (0, 4, 0) (.inr (3, [.ref qk_31, .int 0]))) (0, 0, 0) (.inr (7, [.ref q_1, .ref q_7, .ref q_14, .int 0, .ref q_22, .null]))) (0, 0, 0) = some (.inr (7, [.ref q_1, .ref q_7, .ref q_14, .int 0, .ref q_22, .null])) := xu_self _ _ _
  refine lv_aload_n hx hb dX6_init_48 rfl (lv_at hl 0 rfl) ?_
  refine x_new C hH hS (0, 5, 0) (ci := 4) (T := TX3) (N := 2) (fs := [.null, .int 0]) rfl iWX3 tyX3 tyX3_ok qw_73 qw_74 qw_6 (fun j hj => by rcases (show j = 0 ∨ j = 1 by omega) with rfl | rfl <;> rfl) (Nat.le_of_ble_eq_true rfl) (Nat.le_of_ble_eq_true rfl) dX6_init_49 (fun G40_ hH hS => ?_)
  obtain ⟨q_40, hq_40⟩ : ∃ zz9 : Nat, zz9 = xa alx_32 (0, 5, 0) H.size (0, 5, 0) := ⟨_, rfl⟩
  obtain ⟨alq_40, halq_40⟩ : ∃ zz9 : Tg → Nat, zz9 = xa alx_32 (0, 5, 0) H.size := ⟨_, rfl⟩
  rw [← halq_40] at hH
  rw [← hq_40]
  have ad_41 : alq_40 (0, 0, 0) = al (0, 0, 0) := by rw [halq_40, xa_ne (by simp)]; exact ((ad_33).symm).symm
  have hX := xu_of (t := (0, 5, 0)) (e := .inr (4, [.null, .int 0])) (by simp) hX
  have ad_42 : alq_40 (0, 1, 0) = q_1 := by rw [halq_40, xa_ne (by simp)]; exact ((ad_34).symm).symm
  have hn_3 := xu_of (t := (0, 5, 0)) (e := .inr (4, [.null, .int 0])) (by simp) hn_3
  have ad_43 : alq_40 (0, 2, 0) = q_7 := by rw [halq_40, xa_ne (by simp)]; exact ((ad_35).symm).symm
  have hn_10 := xu_of (t := (0, 5, 0)) (e := .inr (4, [.null, .int 0])) (by simp) hn_10
  have ad_44 : alq_40 (0, 3, 0) = q_14 := by rw [halq_40, xa_ne (by simp)]; exact ((ad_36).symm).symm
  have hn_18 := xu_of (t := (0, 5, 0)) (e := .inr (4, [.null, .int 0])) (by simp) hn_18
  have ad_45 : alq_40 (0, 4, 0) = q_22 := by rw [halq_40, xa_ne (by simp)]; exact ((ad_37).symm).symm
  have hn_27 := xu_of (t := (0, 5, 0)) (e := .inr (4, [.null, .int 0])) (by simp) hn_27
  have ad_46 : alq_40 (0, 4, 1) = qk_31 := by rw [halq_40, xa_ne (by simp)]; exact (ad_39).symm
  have hn_38 := xu_of (t := (0, 5, 0)) (e := .inr (4, [.null, .int 0])) (by simp) hn_38
  have ad_48 : alq_40 (0, 5, 0) = q_40 := by rw [halq_40, hq_40]
  have hn_47 : (xu (xu (xu (xu (xu (xu (xu (xu (xu (xu (xu (xu (xu (xu w (0, 1, 0) (.inr (0, [.int 0, .null, .int 0]))) (0, 1, 0) (.inr (0, [.int (nI 0), .ref (E.2.2 1), .int 0]))) (0, 0, 0) (.inr (7, [.ref q_1, .null, .null, .int 0, .null, .null]))) (0, 2, 0) (.inr (0, [.int 0, .null, .int 0]))) (0, 2, 0) (.inr (0, [.int (nI 0), .ref (E.2.2 1), .int 0]))) (0, 0, 0) (.inr (7, [.ref q_1, .ref q_7, .null, .int 0, .null, .null]))) (0, 3, 0) (.inr (0, [.int 0, .null, .int 0]))) (0, 3, 0) (.inr (0, [.int (nI 0), .ref (E.2.2 1), .int 0]))) (0, 0, 0) (.inr (7, [.ref q_1, .ref q_7, .ref q_14, .int 0, .null, .null]))) (0, 4, 0) (.inr (3, [.null, .int 0]))) (0, 4, 1) (.inl (E.2.1 0, 16, .inl (fun _ => 0)))) (0, 4, 0) (.inr (3, [.ref qk_31, .int 0]))) (0, 0, 0) (.inr (7, [.ref q_1, .ref q_7, .ref q_14, .int 0, .ref q_22, .null]))) (0, 5, 0) (.inr (4, [.null, .int 0]))) (0, 5, 0) = some (.inr (4, [.null, .int 0])) := xu_self _ _ _
  refine lv_dup hx hb dX6_init_52 rfl ?_
  refine lv_adr (ad_48).symm ?_
  refine x_callIN C hS (c_Marks l (E := E) (base := base) (tr := (0, 5, 1)) (by simp) hn_47) hH kX3_init qw_76 rfl nw_75  rfl [.ref q_40, .ref (al (0, 0, 0))] rfl hl.1 (Nat.le_of_ble_eq_true rfl) ⟨Nat.le_of_ble_eq_true rfl, Nat.le_of_ble_eq_true rfl⟩ dX6_init_53 ⟨Nat.le_of_ble_eq_true rfl, Nat.le_of_ble_eq_true rfl⟩ (fun r_50 H locs hp_49 hS => ?_)
  obtain ⟨rfl, qk_51, hH⟩ := hp_49
  obtain ⟨alx_52, halx_52⟩ : ∃ zz9 : Tg → Nat, zz9 = xa alq_40 (0, 5, 1) qk_51 := ⟨_, rfl⟩
  rw [← halx_52] at hH
  have ad_53 : alx_52 (0, 0, 0) = al (0, 0, 0) := by rw [halx_52, xa_ne (by simp)]; exact ((ad_41).symm).symm
  have ad_54 : alx_52 (0, 1, 0) = q_1 := by rw [halx_52, xa_ne (by simp)]; exact ((ad_42).symm).symm
  have ad_55 : alx_52 (0, 2, 0) = q_7 := by rw [halx_52, xa_ne (by simp)]; exact ((ad_43).symm).symm
  have ad_56 : alx_52 (0, 3, 0) = q_14 := by rw [halx_52, xa_ne (by simp)]; exact ((ad_44).symm).symm
  have ad_57 : alx_52 (0, 4, 0) = q_22 := by rw [halx_52, xa_ne (by simp)]; exact ((ad_45).symm).symm
  have ad_58 : alx_52 (0, 4, 1) = qk_31 := by rw [halx_52, xa_ne (by simp)]; exact ((ad_46).symm).symm
  have ad_59 : alx_52 (0, 5, 0) = q_40 := by rw [halx_52, xa_ne (by simp)]; exact ((ad_48).symm).symm
  have hX := xu_of (t := (0, 5, 1)) (e := .inl (E.2.1 1, 1024, .inr (.inl (fun _ => 0)))) (by simp) hX
  have hn_3 := xu_of (t := (0, 5, 1)) (e := .inl (E.2.1 1, 1024, .inr (.inl (fun _ => 0)))) (by simp) hn_3
  have hn_10 := xu_of (t := (0, 5, 1)) (e := .inl (E.2.1 1, 1024, .inr (.inl (fun _ => 0)))) (by simp) hn_10
  have hn_18 := xu_of (t := (0, 5, 1)) (e := .inl (E.2.1 1, 1024, .inr (.inl (fun _ => 0)))) (by simp) hn_18
  have hn_27 := xu_of (t := (0, 5, 1)) (e := .inl (E.2.1 1, 1024, .inr (.inl (fun _ => 0)))) (by simp) hn_27
  have hn_38 := xu_of (t := (0, 5, 1)) (e := .inl (E.2.1 1, 1024, .inr (.inl (fun _ => 0)))) (by simp) hn_38
  have hn_47 := xu_of (t := (0, 5, 1)) (e := .inl (E.2.1 1, 1024, .inr (.inl (fun _ => 0)))) (by simp) hn_47
  have hn_60 : (xu (xu (xu (xu (xu (xu (xu (xu (xu (xu (xu (xu (xu (xu (xu w (0, 1, 0) (.inr (0, [.int 0, .null, .int 0]))) (0, 1, 0) (.inr (0, [.int (nI 0), .ref (E.2.2 1), .int 0]))) (0, 0, 0) (.inr (7, [.ref q_1, .null, .null, .int 0, .null, .null]))) (0, 2, 0) (.inr (0, [.int 0, .null, .int 0]))) (0, 2, 0) (.inr (0, [.int (nI 0), .ref (E.2.2 1), .int 0]))) (0, 0, 0) (.inr (7, [.ref q_1, .ref q_7, .null, .int 0, .null, .null]))) (0, 3, 0) (.inr (0, [.int 0, .null, .int 0]))) (0, 3, 0) (.inr (0, [.int (nI 0), .ref (E.2.2 1), .int 0]))) (0, 0, 0) (.inr (7, [.ref q_1, .ref q_7, .ref q_14, .int 0, .null, .null]))) (0, 4, 0) (.inr (3, [.null, .int 0]))) (0, 4, 1) (.inl (E.2.1 0, 16, .inl (fun _ => 0)))) (0, 4, 0) (.inr (3, [.ref qk_31, .int 0]))) (0, 0, 0) (.inr (7, [.ref q_1, .ref q_7, .ref q_14, .int 0, .ref q_22, .null]))) (0, 5, 0) (.inr (4, [.null, .int 0]))) (0, 5, 1) (.inl (E.2.1 1, 1024, .inr (.inl (fun _ => 0))))) (0, 5, 1) = _ := xu_self _ _ _
  have ad_61 : qk_51 = alx_52 (0, 5, 1) := by rw [halx_52, xa_self]
  have hX := xu_of (t := (0, 5, 0)) (e := .inr (4, [.ref qk_51, .int 0])) (by simp) hX
  have hn_3 := xu_of (t := (0, 5, 0)) (e := .inr (4, [.ref qk_51, .int 0])) (by simp) hn_3
  have hn_10 := xu_of (t := (0, 5, 0)) (e := .inr (4, [.ref qk_51, .int 0])) (by simp) hn_10
  have hn_18 := xu_of (t := (0, 5, 0)) (e := .inr (4, [.ref qk_51, .int 0])) (by simp) hn_18
  have hn_27 := xu_of (t := (0, 5, 0)) (e := .inr (4, [.ref qk_51, .int 0])) (by simp) hn_27
  have hn_38 := xu_of (t := (0, 5, 0)) (e := .inr (4, [.ref qk_51, .int 0])) (by simp) hn_38
  have hn_60 := xu_of (t := (0, 5, 0)) (e := .inr (4, [.ref qk_51, .int 0])) (by simp) hn_60
  have hn_47 : (xu (xu (xu (xu (xu (xu (xu (xu (xu (xu (xu (xu (xu (xu (xu (xu w (0, 1, 0) (.inr (0, [.int 0, .null, .int 0]))) (0, 1, 0) (.inr (0, [.int (nI 0), .ref (E.2.2 1), .int 0]))) (0, 0, 0) (.inr (7, [.ref q_1, .null, .null, .int 0, .null, .null]))) (0, 2, 0) (.inr (0, [.int 0, .null, .int 0]))) (0, 2, 0) (.inr (0, [.int (nI 0), .ref (E.2.2 1), .int 0]))) (0, 0, 0) (.inr (7, [.ref q_1, .ref q_7, .null, .int 0, .null, .null]))) (0, 3, 0) (.inr (0, [.int 0, .null, .int 0]))) (0, 3, 0) (.inr (0, [.int (nI 0), .ref (E.2.2 1), .int 0]))) (0, 0, 0) (.inr (7, [.ref q_1, .ref q_7, .ref q_14, .int 0, .null, .null]))) (0, 4, 0) (.inr (3, [.null, .int 0]))) (0, 4, 1) (.inl (E.2.1 0, 16, .inl (fun _ => 0)))) (0, 4, 0) (.inr (3, [.ref qk_31, .int 0]))) (0, 0, 0) (.inr (7, [.ref q_1, .ref q_7, .ref q_14, .int 0, .ref q_22, .null]))) (0, 5, 0) (.inr (4, [.null, .int 0]))) (0, 5, 1) (.inl (E.2.1 1, 1024, .inr (.inl (fun _ => 0))))) (0, 5, 0) (.inr (4, [.ref qk_51, .int 0]))) (0, 5, 0) = some (.inr (4, [.ref qk_51, .int 0])) := xu_self _ _ _
  refine lv_adr2 (ad_53).symm ?_
  refine x_putF C hH hS (ci := 7) (T := TX6) (N := 6) (fs' := [.ref q_1, .ref q_7, .ref q_14, .int 0, .ref q_22, .ref q_40]) hX rfl iWX6 tyX6 tyX6_ok nmX6 5 (by decide) qw_92 rfl rfl hin rfl rfl rfl (Nat.le_of_ble_eq_true rfl) rfl dX6_init_56 (fun H locs hH hS => ?_)
  have hn_3 := xu_of (t := (0, 0, 0)) (e := .inr (7, [.ref q_1, .ref q_7, .ref q_14, .int 0, .ref q_22, .ref q_40])) (by simp) hn_3
  have hn_10 := xu_of (t := (0, 0, 0)) (e := .inr (7, [.ref q_1, .ref q_7, .ref q_14, .int 0, .ref q_22, .ref q_40])) (by simp) hn_10
  have hn_18 := xu_of (t := (0, 0, 0)) (e := .inr (7, [.ref q_1, .ref q_7, .ref q_14, .int 0, .ref q_22, .ref q_40])) (by simp) hn_18
  have hn_27 := xu_of (t := (0, 0, 0)) (e := .inr (7, [.ref q_1, .ref q_7, .ref q_14, .int 0, .ref q_22, .ref q_40])) (by simp) hn_27
  have hn_38 := xu_of (t := (0, 0, 0)) (e := .inr (7, [.ref q_1, .ref q_7, .ref q_14, .int 0, .ref q_22, .ref q_40])) (by simp) hn_38
  have hn_47 := xu_of (t := (0, 0, 0)) (e := .inr (7, [.ref q_1, .ref q_7, .ref q_14, .int 0, .ref q_22, .ref q_40])) (by simp) hn_47
  have hn_60 := xu_of (t := (0, 0, 0)) (e := .inr (7, [.ref q_1, .ref q_7, .ref q_14, .int 0, .ref q_22, .ref q_40])) (by simp) hn_60
  have hX : (xu (xu (xu (xu (xu (xu (xu (xu (xu (xu (xu (xu (xu (xu (xu (xu (xu w (0, 1, 0) (.inr (0, [.int 0, .null, .int 0]))) (0, 1, 0) (.inr (0, [.int (nI 0), .ref (E.2.2 1), .int 0]))) (0, 0, 0) (.inr (7, [.ref q_1, .null, .null, .int 0, .null, .null]))) (0, 2, 0) (.inr (0, [.int 0, .null, .int 0]))) (0, 2, 0) (.inr (0, [.int (nI 0), .ref (E.2.2 1), .int 0]))) (0, 0, 0) (.inr (7, [.ref q_1, .ref q_7, .null, .int 0, .null, .null]))) (0, 3, 0) (.inr (0, [.int 0, .null, .int 0]))) (0, 3, 0) (.inr (0, [.int (nI 0), .ref (E.2.2 1), .int 0]))) (0, 0, 0) (.inr (7, [.ref q_1, .ref q_7, .ref q_14, .int 0, .null, .null]))) (0, 4, 0) (.inr (3, [.null, .int 0]))) (0, 4, 1) (.inl (E.2.1 0, 16, .inl (fun _ => 0)))) (0, 4, 0) (.inr (3, [.ref qk_31, .int 0]))) (0, 0, 0) (.inr (7, [.ref q_1, .ref q_7, .ref q_14, .int 0, .ref q_22, .null]))) (0, 5, 0) (.inr (4, [.null, .int 0]))) (0, 5, 1) (.inl (E.2.1 1, 1024, .inr (.inl (fun _ => 0))))) (0, 5, 0) (.inr (4, [.ref qk_51, .int 0]))) (0, 0, 0) (.inr (7, [.ref q_1, .ref q_7, .ref q_14, .int 0, .ref q_22, .ref q_40]))) (0, 0, 0) = some (.inr (7, [.ref q_1, .ref q_7, .ref q_14, .int 0, .ref q_22, .ref q_40])) := xu_self _ _ _
  rw [← hQ]
  refine x_retv C hS (Nat.le_of_ble_eq_true rfl) (Nat.le_of_ble_eq_true rfl) dX6_init_59 ?_
  rw [hpost]
  refine ⟨rfl, alx_52, _, hH, ⟨?_, Or.inl ⟨rfl, nI 0, hn_3⟩, Or.inl ⟨rfl, nI 0, hn_10⟩, Or.inl ⟨rfl, nI 0, hn_18⟩, ⟨0, fun _ => 0, ?_, hn_38⟩, ⟨0, fun _ => 0, ?_, hn_60⟩, fun i hi => absurd hi (Nat.not_lt_zero i), fun i hi => absurd hi (Nat.not_lt_zero i), fun i hi => absurd hi (Nat.not_lt_zero i)⟩, fun t ht => ⟨?_, ?_⟩, ((ad_53).symm).symm⟩
  · rw [← ((ad_54).symm), ← ((ad_55).symm), ← ((ad_56).symm), ← ((ad_57).symm), ← ((ad_59).symm)]; exact hX
  · rw [← ((ad_58).symm)]; exact hn_27
  · rw [← (ad_61)]; exact hn_47
  · rw [xu_ne (fun e => by rw [e] at ht; revert ht; simp), xu_ne (fun e => by rw [e] at ht; revert ht; simp), xu_ne (fun e => by rw [e] at ht; revert ht; simp), xu_ne (fun e => by rw [e] at ht; revert ht; simp), xu_ne (fun e => by rw [e] at ht; revert ht; simp), xu_ne (fun e => by rw [e] at ht; revert ht; simp), xu_ne (fun e => by rw [e] at ht; revert ht; simp), xu_ne (fun e => by rw [e] at ht; revert ht; simp), xu_ne (fun e => by rw [e] at ht; revert ht; simp), xu_ne (fun e => by rw [e] at ht; revert ht; simp), xu_ne (fun e => by rw [e] at ht; revert ht; simp), xu_ne (fun e => by rw [e] at ht; revert ht; simp), xu_ne (fun e => by rw [e] at ht; revert ht; simp), xu_ne (fun e => by rw [e] at ht; revert ht; simp), xu_ne (fun e => by rw [e] at ht; revert ht; simp), xu_ne (fun e => by rw [e] at ht; revert ht; simp), xu_ne (fun e => by rw [e] at ht; revert ht; simp)]
  · rw [halx_52, xa_ne (fun e => by rw [e] at ht; revert ht; simp), halq_40, xa_ne (fun e => by rw [e] at ht; revert ht; simp), halx_32, xa_ne (fun e => by rw [e] at ht; revert ht; simp), halq_22, xa_ne (fun e => by rw [e] at ht; revert ht; simp), halq_14, xa_ne (fun e => by rw [e] at ht; revert ht; simp), halq_7, xa_ne (fun e => by rw [e] at ht; revert ht; simp), halq_1, xa_ne (fun e => by rw [e] at ht; revert ht; simp)]
