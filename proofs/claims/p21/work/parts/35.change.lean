/-- all standing answers for sets with the file are recalled, those of parties before i -/
def rcJ (sg : Nat → Nat → Nat → Int32) (rc : Nat → Bool) (na f i : Nat) : Nat → Bool := fun a => rc a || ((decide (a < na) && bt (sg 8 a 0) f) && anyB (fun p => decide (sg 7 a 0 = nI p)) i)
def rcA (sg : Nat → Nat → Nat → Int32) (rc : Nat → Bool) (na f : Nat) : Nat → Bool := fun a => rc a || (decide (a < na) && bt (sg 8 a 0) f)
def jP (sg : Nat → Nat → Nat → Int32) (rc : Nat → Bool) (f i : Nat) : Nat → Bool := fun a => (!rc a && bt (sg 8 a 0) f) && anyB (fun p => decide (sg 7 a 0 = nI p)) i
section TBK
variable {nf np na nw : Nat} {sg : Nat → Nat → Nat → Int32} {rc : Nat → Bool} {p f i : Nat}
theorem u3_id {k i j : Nat} {v : Int32} (h : sg k i j = v) : u3 sg k i j v = sg := by
  funext a b d
  unfold u3
  by_cases e : a = k ∧ b = i ∧ d = j
  · rw [if_pos e, e.1, e.2.1, e.2.2, h]
  · rw [if_neg e]
theorem prc_u3 {k i j : Nat} {v : Int32} (h7 : 7 ≠ k) (h8 : 8 ≠ k) : prc (u3 sg k i j v) rc p f = prc sg rc p f := by
  funext a; unfold prc; rw [u3_k h7, u3_k h8]
theorem rcI_u3 {k i j n : Nat} {v : Int32} (h7 : 7 ≠ k) (h8 : 8 ≠ k) : rcI (u3 sg k i j v) rc p f n = rcI sg rc p f n := by
  funext a; unfold rcI; rw [u3_k h7, u3_k h8]
theorem INV_k4 (hI : INV nf np na nw sg rc) {v : Int32} (hp : p < np) (hv : ∃ k, k ≤ 2 ∧ v = nI k) : INV nf np na nw (u3 sg 4 p f v) rc := by
  obtain ⟨v16, v6, v150, vnow, vA, vS, vP, vK, vR⟩ := hI
  refine ⟨v16, v6, v150, vnow, fun a ha => ?_, fun i hi => ?_, fun q hq => ⟨fun g => ?_, fun k => ?_⟩, fun q g => ?_, vR⟩
  · rw [u3_k (by decide), u3_k (by decide), u3_k (by decide)]; exact vA a ha
  · rw [u3_k (by decide)]; exact vS i hi
  · rw [u3_i (by omega)]; exact (vP q hq).1 g
  · rw [u3_k (by decide)]; exact (vP q hq).2 k
  · by_cases e : q = p
    · subst e
      by_cases e2 : g = f
      · subst e2; rw [u3_s]; exact hv
      · rw [u3_j e2]; exact vK q g
    · rw [u3_i e]; exact vK q g
theorem INV_k1 (hI : INV nf np na nw sg rc) {v : Int32} : INV nf np na nw (u3 sg 1 f 0 v) rc := by
  obtain ⟨v16, v6, v150, vnow, vA, vS, vP, vK, vR⟩ := hI
  refine ⟨v16, v6, v150, vnow, fun a ha => ?_, fun i hi => ?_, fun q hq => ⟨fun g => ?_, fun k => ?_⟩, fun q g => ?_, vR⟩
  · rw [u3_k (by decide), u3_k (by decide), u3_k (by decide)]; exact vA a ha
  · rw [u3_k (by decide)]; exact vS i hi
  · rw [u3_k (by decide)]; exact (vP q hq).1 g
  · rw [u3_k (by decide)]; exact (vP q hq).2 k
  · rw [u3_k (by decide)]; exact vK q g
theorem rcJ_out (hI : INV nf np na nw sg rc) : ∀ a, na ≤ a → rcJ sg rc na f i a = false := by
  obtain ⟨v16, v6, v150, vnow, vA, vS, vP, vK, vR⟩ := hI
  intro a ha
  unfold rcJ
  rw [vR a ha, decide_eq_false (by omega)]; rfl
theorem rcJ_0 : rcJ sg rc na f 0 = rc := by funext a; simp [rcJ, anyB]
theorem rcJ_s {y : Int32} {g : Nat} : rcI (u3 sg 1 g 0 y) (rcJ sg rc na f i) i f na = rcJ sg rc na f (i + 1) := by
  funext a
  unfold rcI rcJ
  rw [u3_k (by decide), u3_k (by decide)]
  show _ = (rc a || ((decide (a < na) && bt (sg 8 a 0) f) && (anyB (fun p => decide (sg 7 a 0 = nI p)) i || decide (sg 7 a 0 = nI i))))
  generalize anyB (fun p => decide (sg 7 a 0 = nI p)) i = b1
  generalize decide (sg 7 a 0 = nI i) = b2
  generalize bt (sg 8 a 0) f = b3
  generalize decide (a < na) = b4
  cases rc a <;> cases b1 <;> cases b2 <;> cases b3 <;> cases b4 <;> rfl
theorem jP_0 : bsum (jP sg rc f 0) na = 0 := by
  have : ∀ n, bsum (jP sg rc f 0) n = 0 := by
    intro n
    induction n with
    | zero => rfl
    | succ n ih => show bsum _ n + (if jP sg rc f 0 n = true then 1 else 0) = 0; rw [ih, if_neg (by simp [jP, anyB])]
  exact this na
theorem jP_s {y : Int32} {g : Nat} : bsum (jP sg rc f i) na + bsum (prc (u3 sg 1 g 0 y) (rcJ sg rc na f i) i f) na = bsum (jP sg rc f (i + 1)) na := by
  rw [prc_u3 (by decide) (by decide), ← bsum_or]
  · refine bsum_cong _ fun a ha => ?_
    show (jP sg rc f i a || prc sg (rcJ sg rc na f i) i f a) = _
    unfold jP prc rcJ
    show _ = ((!rc a && bt (sg 8 a 0) f) && (anyB (fun p => decide (sg 7 a 0 = nI p)) i || decide (sg 7 a 0 = nI i)))
    rw [decide_eq_true ha]
    generalize anyB (fun p => decide (sg 7 a 0 = nI p)) i = b1
    generalize decide (sg 7 a 0 = nI i) = b2
    generalize bt (sg 8 a 0) f = b3
    cases rc a <;> cases b1 <;> cases b2 <;> cases b3 <;> rfl
  · intro a ha h
    unfold jP at h
    unfold prc rcJ
    rw [decide_eq_true ha]
    revert h
    generalize anyB (fun p => decide (sg 7 a 0 = nI p)) i = b1
    generalize decide (sg 7 a 0 = nI i) = b2
    generalize bt (sg 8 a 0) f = b3
    cases rc a <;> cases b1 <;> cases b2 <;> cases b3 <;> simp
theorem any_np (hI : INV nf np na nw sg rc) {a : Nat} (ha : a < na) : anyB (fun p => decide (sg 7 a 0 = nI p)) np = true := by
  obtain ⟨p, hp, e⟩ := (hI.2.2.2.2.1 a ha).1
  exact anyB_t (P := fun p => decide (sg 7 a 0 = nI p)) (i := p) (decide_eq_true e) np hp
theorem rcJ_e (hI : INV nf np na nw sg rc) : rcJ sg rc na f np = rcA sg rc na f := by
  funext a
  unfold rcJ rcA
  by_cases ha : a < na
  · rw [any_np hI ha, Bool.and_true]
  · rw [decide_eq_false ha]; rfl
theorem jP_e (hI : INV nf np na nw sg rc) : bsum (jP sg rc f np) na = bsum (fun a => !rc a && bt (sg 8 a 0) f) na :=
  bsum_cong _ fun a ha => by unfold jP; rw [any_np hI ha, Bool.and_true]
end TBK
set_option maxHeartbeats 4000000 in
set_option maxRecDepth 100000 in
theorem c_takeBack (l : Launch) (hfl : l.stackTraces = false) {E : xE} {base : Nat} {al : Tg → Nat} {w : Tg → Option va_E} {nf np na nw : Nat} {sg : Nat → Nat → Nat → Int32} {rc : Nat → Bool} (hR : RM E al w nf np na nw sg rc) (hI : INV nf np na nw sg rc) {x z : Int32} : xMetX l yX6_takeBack cX6_takeBack 4 (some (.int)) ({ frames := 7, cells := 2, slots := 12, locals := 115 } : Room) E base [.ref (al (0, 0, 0)), .int x, .int z] (fun H => xH E base al w H) (fun r H => ∃ p f, p < np ∧ f < nf ∧ x = nI p ∧ z = nI f ∧ r = some (.int (if sg 4 p f = 0 then nI 0 else nI (bsum (prc sg rc p f) na))) ∧ PO E base al w nf np na nw (u3 sg 4 p f 0) (if sg 4 p f = 0 then rc else rcI sg rc p f na) H) (fun X H => X = "java/lang/IndexOutOfBoundsException" ∧ ¬ (inR x np ∧ inR z nf) ∧ xH E base al w H) := by
  refine xMetX.of (by decide +kernel) "Dataroom" rfl (Nat.le_of_ble_eq_true rfl) ?_
  intro p9 e9 s m9 below meth c9 ls C het hP hS hl
  have hx := C.hx
  have hb := C.hb
  have hH := hP
  have hl : lv_has ls 4 [(0, .ref (al (0, 0, 0))), (1, .int x), (2, .int z)] := hl
  obtain ⟨post, hpost⟩ : ∃ zz9 : Option Value → Heap → Prop, zz9 = (fun r H => ∃ p f, p < np ∧ f < nf ∧ x = nI p ∧ z = nI f ∧ r = some (.int (if sg 4 p f = 0 then nI 0 else nI (bsum (prc sg rc p f) na))) ∧ PO E base al w nf np na nw (u3 sg 4 p f 0) (if sg 4 p f = 0 then rc else rcI sg rc p f na) H) := ⟨_, rfl⟩
  obtain ⟨px, hpx⟩ : ∃ zz9 : String → Heap → Prop, zz9 = (fun X H => X = "java/lang/IndexOutOfBoundsException" ∧ ¬ (inR x np ∧ inR z nf) ∧ xH E base al w H) := ⟨_, rfl⟩
  rw [← hpost, ← hpx]
  generalize hQ : (vx_MQ below (xQ base post) (xX base px) ([.ref (al (0, 0, 0)), .int x, .int z] : List Value).toArray s 2 12 (xA base)) = Q
  have hR0 := hR
  have hI0 := hI
  obtain ⟨hX, hF, hPl, hAl, hSh, hMk, hC, hPT, hAn⟩ := hR
  obtain ⟨mcF, aF, hLF⟩ := hF.sz
  obtain ⟨mcP, aP, hLP⟩ := hPl.sz
  obtain ⟨mcA, aA, hLA⟩ := hAl.sz
  obtain ⟨v16, v6, v150, vnow, vA, vS, vP, vK, vR⟩ := hI
  refine lv_aload_n hx hb dX6_takeBack_0 rfl (lv_at hl 0 rfl) ?_
  refine lv_iload_n hx hb dX6_takeBack_1 rfl (lv_at hl 1 rfl) ?_
  refine x_thrV C hH hS (ci := 7) (t := (0, 0, 0)) hX rfl rfl (c_pAt l hfl (E := E) (base := base) hR0 hI0 (x := x)) hH kX6_partyAt qw_420 (ws_p (List.mem_of_getElem? (i := 8) rfl) rfl) qw_418  rfl [] rfl hl.1 (Nat.le_of_ble_eq_true rfl) ⟨Nat.le_of_ble_eq_true rfl, Nat.le_of_ble_eq_true rfl⟩ dX6_takeBack_2 ⟨Nat.le_of_ble_eq_true rfl, Nat.le_of_ble_eq_true rfl⟩ (fun X ce q9 H locs hp_1 hS hce hcv hcl => ?_) (fun r_2 H locs hp_1 hS => ?_)
  · skip
    obtain ⟨rfl, hno, hH⟩ := hp_1
    rw [← hQ]
    refine x_outX C het hS hce hcv hcl (Nat.le_of_ble_eq_true rfl) (Nat.le_of_ble_eq_true rfl) ?_
    rw [hpx]
    exact ⟨rfl, fun q => hno q.1, hH⟩
  · skip
    obtain ⟨p_3, hp_3, rfl, rfl, hH⟩ := hp_1
    refine lv_astore_n (lv' := [(3, .ref (al (2, p_3, 0))), (0, .ref (al (0, 0, 0))), (1, .int (nI p_3)), (2, .int z)]) hx hb dX6_takeBack_5 rfl hl (by decide) rfl (fun ls hl => ?_)
    refine lv_aload_n hx hb dX6_takeBack_6 rfl (lv_at hl 1 rfl) ?_
    refine lv_iload_n hx hb dX6_takeBack_7 rfl (lv_at hl 3 rfl) ?_
    refine x_thrV C hH hS (ci := 7) (t := (0, 0, 0)) hX rfl rfl (c_rFile l hfl (E := E) (base := base) hR0 hI0 (x := z)) hH kX6_requireFile qw_304 (ws_p (List.mem_of_getElem? (i := 5) rfl) rfl) qw_302  rfl [] rfl hl.1 (Nat.le_of_ble_eq_true rfl) ⟨Nat.le_of_ble_eq_true rfl, Nat.le_of_ble_eq_true rfl⟩ dX6_takeBack_8 ⟨Nat.le_of_ble_eq_true rfl, Nat.le_of_ble_eq_true rfl⟩ (fun X ce q9 H locs hp_4 hS hce hcv hcl => ?_) (fun r_5 H locs hp_4 hS => ?_)
    · skip
      obtain ⟨rfl, hno, hH⟩ := hp_4
      rw [← hQ]
      refine x_outX C het hS hce hcv hcl (Nat.le_of_ble_eq_true rfl) (Nat.le_of_ble_eq_true rfl) ?_
      rw [hpx]
      exact ⟨rfl, fun q => hno q.2, hH⟩
    · skip
      obtain ⟨rfl, ⟨f_6, hf_6, rfl⟩, hH⟩ := hp_4
      by_cases hk : sg 4 p_3 f_6 = 0
      · skip
        refine lv_aload_n hx hb dX6_takeBack_11 rfl (lv_at hl 0 rfl) ?_
        refine lv_iload_n hx hb dX6_takeBack_12 rfl (lv_at hl 3 rfl) ?_
        refine x_callV C hH hS (ci := 5) (t := (2, p_3, 0)) (hPT p_3 (by omega)).1 rfl rfl (c_rightFor0 l (E := E) (base := base) (hPT p_3 (by omega)) (f := f_6) (by omega) hk) hH kX4_rightFor qw_458 qw_459 qw_457  rfl [] rfl hl.1 (Nat.le_of_ble_eq_true rfl) ⟨Nat.le_of_ble_eq_true rfl, Nat.le_of_ble_eq_true rfl⟩ dX6_takeBack_13 ⟨Nat.le_of_ble_eq_true rfl, Nat.le_of_ble_eq_true rfl⟩ (fun r_8 H locs hp_7 hS => ?_)
        obtain ⟨rfl, hH⟩ := hp_7
        refine lv_ifnonnullN hx hb dX6_takeBack_16 ?_
        refine lv_iconst (v := nI 0) hx hb dX6_takeBack_19 (by decide +kernel) ?_
        rw [← hQ]
        refine vx_ret (x_reti C rfl hS (Nat.le_of_ble_eq_true rfl) (Nat.le_of_ble_eq_true rfl) dX6_takeBack_20 ?_)
        rw [hpost]
        exact ⟨p_3, f_6, hp_3, hf_6, rfl, rfl, by rw [if_pos hk], by rw [if_pos hk, u3_id hk]; exact PO_of hH hR0 (fun _ _ => rfl)⟩
      · skip
        refine lv_aload_n hx hb dX6_takeBack_11 rfl (lv_at hl 0 rfl) ?_
        refine lv_iload_n hx hb dX6_takeBack_12 rfl (lv_at hl 3 rfl) ?_
        refine x_callV C hH hS (ci := 5) (t := (2, p_3, 0)) (hPT p_3 (by omega)).1 rfl rfl (c_rightFor1 l (E := E) (base := base) (hPT p_3 (by omega)) (f := f_6) (by omega) hk) hH kX4_rightFor qw_458 qw_459 qw_457  rfl [] rfl hl.1 (Nat.le_of_ble_eq_true rfl) ⟨Nat.le_of_ble_eq_true rfl, Nat.le_of_ble_eq_true rfl⟩ dX6_takeBack_13 ⟨Nat.le_of_ble_eq_true rfl, Nat.le_of_ble_eq_true rfl⟩ (fun r_10 H locs hp_9 hS => ?_)
        obtain ⟨rfl, hH⟩ := hp_9
        refine lv_ifnonnull (tgt := 21) hx hb dX6_takeBack_16 (by decide) ?_
        refine lv_aload_n hx hb dX6_takeBack_21 rfl (lv_at hl 0 rfl) ?_
        refine lv_iload_n hx hb dX6_takeBack_22 rfl (lv_at hl 3 rfl) ?_
        refine lv_null hx hb dX6_takeBack_23 ?_
        refine x_callV C hH hS (ci := 5) (t := (2, p_3, 0)) (hPT p_3 (by omega)).1 rfl rfl (c_setRightN l (E := E) (base := base) (hPT p_3 (by omega)) (f := f_6) (by omega)) hH kX4_setRight qw_447 qw_448 qw_446  rfl [] rfl hl.1 (Nat.le_of_ble_eq_true rfl) ⟨Nat.le_of_ble_eq_true rfl, Nat.le_of_ble_eq_true rfl⟩ dX6_takeBack_24 ⟨Nat.le_of_ble_eq_true rfl, Nat.le_of_ble_eq_true rfl⟩ (fun r_12 H locs hp_11 hS => ?_)
        obtain ⟨rfl, hH⟩ := hp_11
        have hR1 := RM_rt0 hR0 (f := f_6) hp_3
        have hR2 := hR1
        obtain ⟨hX, hF, hPl, hAl, hSh, hMk, hC, hPT, hAn⟩ := hR1
        obtain ⟨mcF, aF, hLF⟩ := hF.sz
        obtain ⟨mcP, aP, hLP⟩ := hPl.sz
        obtain ⟨mcA, aA, hLA⟩ := hAl.sz
        refine lv_aload_n hx hb dX6_takeBack_27 rfl (lv_at hl 1 rfl) ?_
        refine lv_aload_n hx hb dX6_takeBack_28 rfl (lv_at hl 0 rfl) ?_
        refine lv_iload_n hx hb dX6_takeBack_29 rfl (lv_at hl 3 rfl) ?_
        refine x_callV C hH hS (ci := 7) (t := (0, 0, 0)) hX rfl rfl (c_recall l (E := E) (base := base) hR2 (INV_k4 hI0 hp_3 ⟨0, by omega, rfl⟩) hp_3 (f := f_6) (by omega)) hH kX6_recall qw_339 (ws_p (List.mem_of_getElem? (i := 6) rfl) rfl) qw_337  rfl [] rfl hl.1 (Nat.le_of_ble_eq_true rfl) ⟨Nat.le_of_ble_eq_true rfl, Nat.le_of_ble_eq_true rfl⟩ dX6_takeBack_30 ⟨Nat.le_of_ble_eq_true rfl, Nat.le_of_ble_eq_true rfl⟩ (fun r_14 H locs hp_13 hS => ?_)
        obtain ⟨rfl, w9, hH, hR9, hw9⟩ := hp_13
        rw [← hQ]
        refine vx_ret (x_reti C rfl hS (Nat.le_of_ble_eq_true rfl) (Nat.le_of_ble_eq_true rfl) dX6_takeBack_33 ?_)
        rw [hpost]
        exact ⟨p_3, f_6, hp_3, hf_6, rfl, rfl, by rw [if_neg hk, prc_u3 (by decide) (by decide)], by rw [if_neg hk, ← rcI_u3 (k := 4) (i := p_3) (j := f_6) (v := 0) (by decide) (by decide)]; exact PO_of hH hR9 (fun t ht => by rw [hw9 t (by omega)]; exact xu_ne (fun e => by rw [e] at ht; revert ht; simp))⟩

set_option maxHeartbeats 4000000 in
set_option maxRecDepth 100000 in
theorem c_change (l : Launch) (hfl : l.stackTraces = false) {E : xE} {base : Nat} {al : Tg → Nat} {w : Tg → Option va_E} {nf np na nw : Nat} {sg : Nat → Nat → Nat → Int32} {rc : Nat → Bool} (hR : RM E al w nf np na nw sg rc) (hI : INV nf np na nw sg rc) {x y : Int32} : xMetX l yX6_change cX6_change 6 (some (.int)) ({ frames := 8, cells := 2, slots := 12, locals := 124 } : Room) E base [.ref (al (0, 0, 0)), .int x, .int y] (fun H => xH E base al w H) (fun r H => ∃ f, f < nf ∧ x = nI f ∧ (nI 0 ≤ y ∧ y ≤ nI 255) ∧ r = some (.int (nI (bsum (fun a => !rc a && bt (sg 8 a 0) f) na))) ∧ PO E base al w nf np na nw (u3 sg 1 f 0 y) (rcA sg rc na f) H) (fun X H => ((X = "java/lang/IndexOutOfBoundsException" ∧ ¬ inR x nf) ∨ (X = "java/lang/IllegalArgumentException" ∧ inR x nf ∧ ¬ (nI 0 ≤ y ∧ y ≤ nI 255))) ∧ xH E base al w H) := by
  refine xMetX.of (by decide +kernel) "Dataroom" rfl (Nat.le_of_ble_eq_true rfl) ?_
  intro p9 e9 s m9 below meth c9 ls C het hP hS hl
  have hx := C.hx
  have hb := C.hb
  have hH := hP
  have hl : lv_has ls 6 [(0, .ref (al (0, 0, 0))), (1, .int x), (2, .int y)] := hl
  obtain ⟨post, hpost⟩ : ∃ zz9 : Option Value → Heap → Prop, zz9 = (fun r H => ∃ f, f < nf ∧ x = nI f ∧ (nI 0 ≤ y ∧ y ≤ nI 255) ∧ r = some (.int (nI (bsum (fun a => !rc a && bt (sg 8 a 0) f) na))) ∧ PO E base al w nf np na nw (u3 sg 1 f 0 y) (rcA sg rc na f) H) := ⟨_, rfl⟩
  obtain ⟨px, hpx⟩ : ∃ zz9 : String → Heap → Prop, zz9 = (fun X H => ((X = "java/lang/IndexOutOfBoundsException" ∧ ¬ inR x nf) ∨ (X = "java/lang/IllegalArgumentException" ∧ inR x nf ∧ ¬ (nI 0 ≤ y ∧ y ≤ nI 255))) ∧ xH E base al w H) := ⟨_, rfl⟩
  rw [← hpost, ← hpx]
  generalize hQ : (vx_MQ below (xQ base post) (xX base px) ([.ref (al (0, 0, 0)), .int x, .int y] : List Value).toArray s 2 12 (xA base)) = Q
  have hR0 := hR
  have hI0 := hI
  obtain ⟨hX, hF, hPl, hAl, hSh, hMk, hC, hPT, hAn⟩ := hR
  obtain ⟨mcF, aF, hLF⟩ := hF.sz
  obtain ⟨mcP, aP, hLP⟩ := hPl.sz
  obtain ⟨mcA, aA, hLA⟩ := hAl.sz
  obtain ⟨v16, v6, v150, vnow, vA, vS, vP, vK, vR⟩ := hI
  refine lv_aload_n hx hb dX6_change_0 rfl (lv_at hl 0 rfl) ?_
  refine lv_iload_n hx hb dX6_change_1 rfl (lv_at hl 1 rfl) ?_
  refine x_thrV C hH hS (ci := 7) (t := (0, 0, 0)) hX rfl rfl (c_fAt l hfl (E := E) (base := base) hR0 hI0 (x := x)) hH kX6_fileAt qw_300 (ws_p (List.mem_of_getElem? (i := 4) rfl) rfl) qw_298  rfl [] rfl hl.1 (Nat.le_of_ble_eq_true rfl) ⟨Nat.le_of_ble_eq_true rfl, Nat.le_of_ble_eq_true rfl⟩ dX6_change_2 ⟨Nat.le_of_ble_eq_true rfl, Nat.le_of_ble_eq_true rfl⟩ (fun X ce q9 H locs hp_1 hS hce hcv hcl => ?_) (fun r_2 H locs hp_1 hS => ?_)
  · skip
    obtain ⟨rfl, hno, hH⟩ := hp_1
    rw [← hQ]
    refine x_outX C het hS hce hcv hcl (Nat.le_of_ble_eq_true rfl) (Nat.le_of_ble_eq_true rfl) ?_
    rw [hpx]
    exact ⟨Or.inl ⟨rfl, hno⟩, hH⟩
  · skip
    obtain ⟨f_3, hf_3, rfl, rfl, hH⟩ := hp_1
    refine lv_astore_n (lv' := [(3, .ref (al (1, f_3, 0))), (0, .ref (al (0, 0, 0))), (1, .int (nI f_3)), (2, .int y)]) hx hb dX6_change_5 rfl hl (by decide) rfl (fun ls hl => ?_)
    refine lv_iload_n hx hb dX6_change_6 rfl (lv_at hl 3 rfl) ?_
    refine lv_iconst (v := nI 0) hx hb dX6_change_7 (by decide +kernel) ?_
    refine lv_sipush (v := nI 255) hx hb dX6_change_8 (by decide +kernel) ?_
    refine x_thrS C hS (c_rRange l hfl (E := E) (base := base) (al := al) (w := w) (v := y) (lo := nI 0) (hi := nI 255)) hH kX6_requireRange qw_126 qw_125  rfl [] rfl hl.1 (Nat.le_of_ble_eq_true rfl) ⟨Nat.le_of_ble_eq_true rfl, Nat.le_of_ble_eq_true rfl⟩ dX6_change_11 ⟨Nat.le_of_ble_eq_true rfl, Nat.le_of_ble_eq_true rfl⟩ (fun X ce q9 H locs hp_4 hS hce hcv hcl => ?_) (fun r_5 H locs hp_4 hS => ?_)
    · skip
      obtain ⟨rfl, hno, hH⟩ := hp_4
      rw [← hQ]
      refine x_outX C het hS hce hcv hcl (Nat.le_of_ble_eq_true rfl) (Nat.le_of_ble_eq_true rfl) ?_
      rw [hpx]
      exact ⟨Or.inr ⟨rfl, ⟨f_3, hf_3, rfl⟩, hno⟩, hH⟩
    · skip
      obtain ⟨rfl, rg_6, hH⟩ := hp_4
      refine lv_aload_n hx hb dX6_change_14 rfl (lv_at hl 0 rfl) ?_
      refine lv_iload_n hx hb dX6_change_15 rfl (lv_at hl 3 rfl) ?_
      refine x_putN C hH hS (ci := 2) (T := TX1) (N := 2) (fs' := [.int y, .int (sg 2 f_3 0)]) (hC f_3 (by omega)) rfl iWX1 tyX1 tyX1_ok nmX1 0 (by decide) nw_223 rfl rfl rfl rfl (Nat.le_of_ble_eq_true rfl) rfl dX6_change_16 (fun H locs hH hS => ?_)
      have hd_7 := (hC f_3 (by omega))
      have hX := xu_of (t := (1, f_3, 0)) (e := .inr (2, [.int y, .int (sg 2 f_3 0)])) (by simp) hX
      have hLF := xu_of (t := (1, f_3, 0)) (e := .inr (2, [.int y, .int (sg 2 f_3 0)])) (by simp) hLF
      have hLP := xu_of (t := (1, f_3, 0)) (e := .inr (2, [.int y, .int (sg 2 f_3 0)])) (by simp) hLP
      have hLA := xu_of (t := (1, f_3, 0)) (e := .inr (2, [.int y, .int (sg 2 f_3 0)])) (by simp) hLA
      have hd_7 : (xu w (1, f_3, 0) (.inr (2, [.int y, .int (sg 2 f_3 0)]))) (1, f_3, 0) = some (.inr (2, [.int y, .int (sg 2 f_3 0)])) := xu_self _ _ _
      refine lv_iconst (v := nI 0) hx hb dX6_change_19 (by decide +kernel) ?_
      refine lv_istore (lv' := [(4, .int (nI 0)), (3, .ref (al (1, f_3, 0))), (0, .ref (al (0, 0, 0))), (1, .int (nI f_3)), (2, .int y)]) hx hb dX6_change_20 hl (by decide) rfl (fun ls hl => ?_)
      refine lv_iconst (v := nI 0) hx hb dX6_change_22 (by decide +kernel) ?_
      refine lv_istore (lv' := [(5, .int (nI 0)), (4, .int (nI 0)), (3, .ref (al (1, f_3, 0))), (0, .ref (al (0, 0, 0))), (1, .int (nI f_3)), (2, .int y)]) hx hb dX6_change_23 hl (by decide) rfl (fun ls hl => ?_)
      have lp25 : ∀ (i : Nat), i ≤ np → ∀ (y9 : Nat) (w9 : Tg → Option va_E) (H : Heap) (locs : List Loc) (ls : Array Slot), y9 = bsum (jP sg rc f_3 i) na → RM E al w9 nf np na nw (u3 sg 1 f_3 0 y) (rcJ sg rc na f_3 i) → (∀ t : Tg, 10 ≤ t.1 → w9 t = w t) → xH E base al w9 H → va_S (xA base) s.heap H locs → lv_has ls 6 [(5, .int (nI i)), (4, .int (nI y9)), (3, .ref (al (1, f_3, 0))), (2, .int y), (1, .int (nI f_3)), (0, .ref (al (0, 0, 0)))] → W p9 l e9 ({ frames := 8, cells := 2, slots := 12, locals := 124 } : Room) s m9 ([.ref (al (0, 0, 0)), .int (nI f_3), .int y] : List Value).toArray below meth c9 H locs 2 12 Q (F0 m9 25 ls []) := by
        refine lp_up ?_
        intro i hii ih25 y9 w9 H locs ls hy hr9 hw9 hH hS hl
        have hR1 := hr9
        obtain ⟨hX, hF, hPl, hAl, hSh, hMk, hC, hPT, hAn⟩ := hR1
        obtain ⟨mcF, aF, hLF⟩ := hF.sz
        obtain ⟨mcP, aP, hLP⟩ := hPl.sz
        obtain ⟨mcA, aA, hLA⟩ := hAl.sz
        have hyb : y9 < 2 ^ 20 := by have := bsum_le (jP sg rc f_3 i) na; omega
        refine lv_iload hx hb dX6_change_25 (lv_at hl 0 rfl) ?_
        refine lv_aload_n hx hb dX6_change_27 rfl (lv_at hl 5 rfl) ?_
        refine x_get C hH (ci := 7) (T := TX6) (N := 6) hX rfl iWX6 1 (by decide) qw_88 rfl rfl dX6_change_28 ?_
        refine x_callV C hH hS (ci := 0) (t := (0, 2, 0)) hLP rfl rfl (c_size l (E := E) (base := base) (al := al) hLP) hH kJx4a65c_size_8abf5 qw_197 qw_198 qw_196  rfl [.int (nI i)] rfl hl.1 (Nat.le_of_ble_eq_true rfl) ⟨Nat.le_of_ble_eq_true rfl, Nat.le_of_ble_eq_true rfl⟩ dX6_change_31 ⟨Nat.le_of_ble_eq_true rfl, Nat.le_of_ble_eq_true rfl⟩ (fun r_9 H locs hp_8 hS => ?_)
        obtain ⟨rfl, hH⟩ := hp_8
        refine lv_icmp_ge (tgt := 65) hx hb dX6_change_34 (by decide) (fun c_10 => ?_) (fun c_10 => ?_)
        · skip
          replace c_10 := (nI_leI (by omega) (by omega)).mp c_10
          refine lv_iload hx hb dX6_change_65 (lv_at hl 1 rfl) ?_
          rw [← hQ]
          refine vx_ret (x_reti C rfl hS (Nat.le_of_ble_eq_true rfl) (Nat.le_of_ble_eq_true rfl) dX6_change_67 ?_)
          rw [hpost]
          have e8 : i = np := by omega
          subst e8
          rw [rcJ_e hI0] at hr9
          exact ⟨f_3, hf_3, rfl, rg_6, by rw [hy, jP_e hI0], PO_of hH hr9 hw9⟩
        · skip
          replace c_10 := mt (nI_leI (by omega) (by omega)).mpr c_10
          refine lv_iload hx hb dX6_change_37 (lv_at hl 1 rfl) ?_
          refine lv_aload_n hx hb dX6_change_39 rfl (lv_at hl 5 rfl) ?_
          refine lv_aload_n hx hb dX6_change_40 rfl (lv_at hl 5 rfl) ?_
          refine x_get C hH (ci := 7) (T := TX6) (N := 6) hX rfl iWX6 1 (by decide) qw_88 rfl rfl dX6_change_41 ?_
          refine lv_iload hx hb dX6_change_44 (lv_at hl 0 rfl) ?_
          obtain ⟨mcz_11, capz_11, gz_11, a1z_11, a2z_11, a3z_11, a4z_11, a5z_11⟩ := hPl.at (i := i) (by omega)
          refine x_callV C hH hS (ci := 0) (t := (0, 2, 0)) a1z_11 rfl rfl (c_get l (E := E) (base := base) a1z_11 a2z_11 (i := i) (by omega) a3z_11 a4z_11 a5z_11) hH kJx4a65c_get_915e3 qw_323 qw_324 qw_322  rfl [.ref (al (0, 0, 0)), .int (nI y9)] rfl hl.1 (Nat.le_of_ble_eq_true rfl) ⟨Nat.le_of_ble_eq_true rfl, Nat.le_of_ble_eq_true rfl⟩ dX6_change_46 ⟨Nat.le_of_ble_eq_true rfl, Nat.le_of_ble_eq_true rfl⟩ (fun r_13 H locs hp_12 hS => ?_)
          obtain ⟨rfl, hH⟩ := hp_12
          refine x_cast C hH (ci := 5) (hPT i (by omega)).1 rfl qw_336 dX6_change_49 ?_
          refine lv_iload_n hx hb dX6_change_52 rfl (lv_at hl 4 rfl) ?_
          refine x_callV C hH hS (ci := 7) (t := (0, 0, 0)) hX rfl rfl (c_recall l (E := E) (base := base) hr9 (INV_k1 (INV_rc hI0 (rcJ_out hI0))) (p := i) (f := f_3) (by omega) (by omega)) hH kX6_recall qw_339 (ws_p (List.mem_of_getElem? (i := 6) rfl) rfl) qw_337  rfl [.int (nI y9)] rfl hl.1 (Nat.le_of_ble_eq_true rfl) ⟨Nat.le_of_ble_eq_true rfl, Nat.le_of_ble_eq_true rfl⟩ dX6_change_53 ⟨Nat.le_of_ble_eq_true rfl, Nat.le_of_ble_eq_true rfl⟩ (fun r_15 H locs hp_14 hS => ?_)
          obtain ⟨rfl, w8, hH, hR8, hw8⟩ := hp_14
          refine lv_iadd hx hb dX6_change_56 ?_
          refine lv_re (nI_add _ _) ?_
          refine lv_istore (lv' := [(4, .int (nI (y9 + bsum (prc (u3 sg 1 f_3 0 y) (rcJ sg rc na f_3 i) i f_3) na))), (5, .int (nI i)), (3, .ref (al (1, f_3, 0))), (2, .int y), (1, .int (nI f_3)), (0, .ref (al (0, 0, 0)))]) hx hb dX6_change_57 hl (by decide) rfl (fun ls hl => ?_)
          refine lv_iinc (v := nI (i + 1)) (lv' := [(5, .int (nI (i + 1))), (4, .int (nI (y9 + bsum (prc (u3 sg 1 f_3 0 y) (rcJ sg rc na f_3 i) i f_3) na))), (3, .ref (al (1, f_3, 0))), (2, .int y), (1, .int (nI f_3)), (0, .ref (al (0, 0, 0)))]) hx hb dX6_change_59 hl (k := 1) rfl (nI_1 _) (by decide) rfl (fun ls hl => ?_)
          refine lv_goto (tgt := 25) hx hb dX6_change_62 (by decide) ?_
          exact ih25 (by omega) (y9 + bsum (prc (u3 sg 1 f_3 0 y) (rcJ sg rc na f_3 i) i f_3) na) w8 _ _ _ (by rw [hy]; exact jP_s) (by rw [rcJ_s] at hR8; exact hR8) (fun t ht => (hw8 t (by omega)).trans (hw9 t ht)) hH hS (lv_sub hl [0, 1, 2, 3, 4, 5] rfl)
      exact lp25 0 (Nat.zero_le _) 0 _ _ _ _ (by exact jP_0.symm) (by rw [rcJ_0]; exact RM_num hR0 hf_3) (fun t ht => xu_ne (fun e => by rw [e] at ht; revert ht; simp)) hH hS (lv_sub hl [0, 1, 2, 5, 4, 3] rfl)
