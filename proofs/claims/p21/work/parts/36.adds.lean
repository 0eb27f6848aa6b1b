theorem RA_addF {E : xE} {al1 al2 : Tg → Nat} {w1 w2 : Tg → Option va_E} {nf np na nw : Nat} (h : RA E al1 w1 nf np na nw) (hfr : ∀ t, t ≠ (0, 1, 0) → t ≠ (0, 1, 1) → t ≠ (9, 9, 9) → w2 t = w1 t ∧ al2 t = al1 t) (hL0 : al2 (0, 1, 0) = al1 (0, 1, 0)) (hLa : LRa E al2 w2 (0, 1, 0) (0, 1, 1) (nf + 1) (fun i => if i = nf then tF nf else tF i)) : RA E al2 w2 (nf + 1) np na nw := by
  obtain ⟨h0, h1, h2, h3, h4, h5⟩ := h
  have e : (fun i => if i = nf then tF nf else tF i) = tF := by
    funext i
    by_cases q : i = nf
    · rw [if_pos q, q]
    · rw [if_neg q]
  rw [e] at hLa
  refine ⟨?_, Or.inr hLa, h2.mv (hfr _ (by simp) (by simp) (by simp)).1 (hfr _ (by simp) (by simp) (by simp)).1 (hfr _ (by simp) (by simp) (by simp)).2 (fun i hi => (hfr _ (by simp) (by simp) (by simp)).2), h3.mv (hfr _ (by simp) (by simp) (by simp)).1 (hfr _ (by simp) (by simp) (by simp)).1 (hfr _ (by simp) (by simp) (by simp)).2 (fun i hi => (hfr _ (by simp) (by simp) (by simp)).2), ?_, ?_⟩
  · rw [(hfr (0, 0, 0) (by simp) (by simp) (by simp)).1, hL0, (hfr (0, 2, 0) (by simp) (by simp) (by simp)).2, (hfr (0, 3, 0) (by simp) (by simp) (by simp)).2, (hfr (0, 4, 0) (by simp) (by simp) (by simp)).2, (hfr (0, 5, 0) (by simp) (by simp) (by simp)).2]; exact h0
  · rw [(hfr (0, 4, 0) (by simp) (by simp) (by simp)).1, (hfr (0, 4, 1) (by simp) (by simp) (by simp)).1, (hfr (0, 4, 1) (by simp) (by simp) (by simp)).2]; exact h4
  · rw [(hfr (0, 5, 0) (by simp) (by simp) (by simp)).1, (hfr (0, 5, 1) (by simp) (by simp) (by simp)).1, (hfr (0, 5, 1) (by simp) (by simp) (by simp)).2]; exact h5
theorem RA_addP {E : xE} {al1 al2 : Tg → Nat} {w1 w2 : Tg → Option va_E} {nf np na nw : Nat} (h : RA E al1 w1 nf np na nw) (hfr : ∀ t, t ≠ (0, 2, 0) → t ≠ (0, 2, 1) → t ≠ (9, 9, 9) → w2 t = w1 t ∧ al2 t = al1 t) (hL0 : al2 (0, 2, 0) = al1 (0, 2, 0)) (hLa : LRa E al2 w2 (0, 2, 0) (0, 2, 1) (np + 1) (fun i => if i = np then tP np else tP i)) : RA E al2 w2 nf (np + 1) na nw := by
  obtain ⟨h0, h1, h2, h3, h4, h5⟩ := h
  have e : (fun i => if i = np then tP np else tP i) = tP := by
    funext i
    by_cases q : i = np
    · rw [if_pos q, q]
    · rw [if_neg q]
  rw [e] at hLa
  refine ⟨?_, h1.mv (hfr _ (by simp) (by simp) (by simp)).1 (hfr _ (by simp) (by simp) (by simp)).1 (hfr _ (by simp) (by simp) (by simp)).2 (fun i hi => (hfr _ (by simp) (by simp) (by simp)).2), Or.inr hLa, h3.mv (hfr _ (by simp) (by simp) (by simp)).1 (hfr _ (by simp) (by simp) (by simp)).1 (hfr _ (by simp) (by simp) (by simp)).2 (fun i hi => (hfr _ (by simp) (by simp) (by simp)).2), ?_, ?_⟩
  · rw [(hfr (0, 0, 0) (by simp) (by simp) (by simp)).1, (hfr (0, 1, 0) (by simp) (by simp) (by simp)).2, hL0, (hfr (0, 3, 0) (by simp) (by simp) (by simp)).2, (hfr (0, 4, 0) (by simp) (by simp) (by simp)).2, (hfr (0, 5, 0) (by simp) (by simp) (by simp)).2]; exact h0
  · rw [(hfr (0, 4, 0) (by simp) (by simp) (by simp)).1, (hfr (0, 4, 1) (by simp) (by simp) (by simp)).1, (hfr (0, 4, 1) (by simp) (by simp) (by simp)).2]; exact h4
  · rw [(hfr (0, 5, 0) (by simp) (by simp) (by simp)).1, (hfr (0, 5, 1) (by simp) (by simp) (by simp)).1, (hfr (0, 5, 1) (by simp) (by simp) (by simp)).2]; exact h5
theorem RA_addN {E : xE} {al1 al2 : Tg → Nat} {w1 w2 : Tg → Option va_E} {nf np na nw : Nat} (h : RA E al1 w1 nf np na nw) (hfr : ∀ t, t ≠ (0, 3, 0) → t ≠ (0, 3, 1) → t ≠ (9, 9, 9) → w2 t = w1 t ∧ al2 t = al1 t) (hL0 : al2 (0, 3, 0) = al1 (0, 3, 0)) (hLa : LRa E al2 w2 (0, 3, 0) (0, 3, 1) (na + 1) (fun i => if i = na then tN na else tN i)) : RA E al2 w2 nf np (na + 1) nw := by
  obtain ⟨h0, h1, h2, h3, h4, h5⟩ := h
  have e : (fun i => if i = na then tN na else tN i) = tN := by
    funext i
    by_cases q : i = na
    · rw [if_pos q, q]
    · rw [if_neg q]
  rw [e] at hLa
  refine ⟨?_, h1.mv (hfr _ (by simp) (by simp) (by simp)).1 (hfr _ (by simp) (by simp) (by simp)).1 (hfr _ (by simp) (by simp) (by simp)).2 (fun i hi => (hfr _ (by simp) (by simp) (by simp)).2), h2.mv (hfr _ (by simp) (by simp) (by simp)).1 (hfr _ (by simp) (by simp) (by simp)).1 (hfr _ (by simp) (by simp) (by simp)).2 (fun i hi => (hfr _ (by simp) (by simp) (by simp)).2), Or.inr hLa, ?_, ?_⟩
  · rw [(hfr (0, 0, 0) (by simp) (by simp) (by simp)).1, (hfr (0, 1, 0) (by simp) (by simp) (by simp)).2, (hfr (0, 2, 0) (by simp) (by simp) (by simp)).2, hL0, (hfr (0, 4, 0) (by simp) (by simp) (by simp)).2, (hfr (0, 5, 0) (by simp) (by simp) (by simp)).2]; exact h0
  · rw [(hfr (0, 4, 0) (by simp) (by simp) (by simp)).1, (hfr (0, 4, 1) (by simp) (by simp) (by simp)).1, (hfr (0, 4, 1) (by simp) (by simp) (by simp)).2]; exact h4
  · rw [(hfr (0, 5, 0) (by simp) (by simp) (by simp)).1, (hfr (0, 5, 1) (by simp) (by simp) (by simp)).1, (hfr (0, 5, 1) (by simp) (by simp) (by simp)).2]; exact h5
section ADDS
variable {E : xE} {base : Nat} {al al1 al2 : Tg → Nat} {w w1 w2 : Tg → Option va_E} {nf np na nw : Nat} {sg : Nat → Nat → Nat → Int32} {rc : Nat → Bool} {KF : Nat → Nat → Nat → Int32} {KC : Nat → Nat → Nat} {H : Heap}
theorem PO_fr (hH : xH E base al2 w2 H) (hR : RM E al2 w2 nf np na nw sg rc) (h0 : al2 (0, 0, 0) = al (0, 0, 0)) (hw : ∀ t : Tg, 10 ≤ t.1 → w2 t = w t ∧ al2 t = al t) : PO E base al w nf np na nw sg rc H := ⟨al2, w2, hH, hR, hw, h0⟩
theorem RMg_addF (h : RMg E al1 w1 nf np na nw sg rc KF KC) (hfr : ∀ t, t ≠ (0, 1, 0) → t ≠ (0, 1, 1) → t ≠ (9, 9, 9) → w2 t = w1 t ∧ al2 t = al1 t) (hL0 : al2 (0, 1, 0) = al1 (0, 1, 0)) (hLa : LRa E al2 w2 (0, 1, 0) (0, 1, 1) (nf + 1) (fun i => if i = nf then tF nf else tF i)) {x : Int32} (hv : w2 (1, nf, 0) = some (.inr (2, [.int x, .int (-1)]))) (h2 : sg 2 nf 0 = -1) : RMg E al2 w2 (nf + 1) np na nw (u3 sg 1 nf 0 x) rc KF KC := by
  obtain ⟨hA, hC, hP, hN⟩ := h
  refine ⟨RA_addF hA hfr hL0 hLa, fun i hi => ?_, fun p hp => ?_, fun a ha => ?_⟩
  · rw [u3_k (a := 2) (by decide)]
    by_cases e : i = nf
    · subst e; rw [u3_s, h2]; exact hv
    · rw [u3_i e, (hfr _ (by simp) (by simp) (by simp)).1]; exact hC i (by omega)
  · rw [u3_k (by decide), u3_k (by decide), u3_k (by decide), u3_k (by decide), u3_k (by decide)]
    exact (hP p hp).mv (fun t h1 h2 _ => (hfr t (fun e => by rw [e] at h1; revert h1; simp) (fun e => by rw [e] at h1; revert h1; simp) (fun e => by rw [e] at h2; revert h2; simp)).1) (fun t h1 h2 _ => (hfr t (fun e => by rw [e] at h1; revert h1; simp) (fun e => by rw [e] at h1; revert h1; simp) (fun e => by rw [e] at h2; revert h2; simp)).2)
  · rw [(hfr _ (by simp) (by simp) (by simp)).1, u3_k (by decide), u3_k (by decide), u3_k (by decide), u3_k (by decide), u3_k (by decide)]; exact hN a ha
theorem RM_addF (h : RMg E al1 w1 nf np na nw sg rc (fun p => KFs sg rc na p) (fun p => KCs sg rc na p)) (hfr : ∀ t, t ≠ (0, 1, 0) → t ≠ (0, 1, 1) → t ≠ (9, 9, 9) → w2 t = w1 t ∧ al2 t = al1 t) (hL0 : al2 (0, 1, 0) = al1 (0, 1, 0)) (hLa : LRa E al2 w2 (0, 1, 0) (0, 1, 1) (nf + 1) (fun i => if i = nf then (1, nf, 0) else tF i)) {x : Int32} (hv : w2 (1, nf, 0) = some (.inr (2, [.int x, .int (-1)]))) (h2 : sg 2 nf 0 = -1) : RMg E al2 w2 (nf + 1) np na nw (u3 sg 1 nf 0 x) rc (fun p => KFs (u3 sg 1 nf 0 x) rc na p) (fun p => KCs (u3 sg 1 nf 0 x) rc na p) := by
  rw [KFs_u3 (by decide) (by decide) (by decide), KCs_u3 (by decide) (by decide) (by decide)]
  exact RMg_addF h hfr hL0 hLa hv h2
theorem RMg_addP (h : RMg E al1 w1 nf np na nw sg rc KF KC) (hfr : ∀ t, t ≠ (0, 2, 0) → t ≠ (0, 2, 1) → t ≠ (9, 9, 9) → w2 t = w1 t ∧ al2 t = al1 t) (hL0 : al2 (0, 2, 0) = al1 (0, 2, 0)) (hLa : LRa E al2 w2 (0, 2, 0) (0, 2, 1) (np + 1) (fun i => if i = np then tP np else tP i)) {x : Int32} (hv : PT E al2 w2 np x (sg 4 np) (sg 5 np) (sg 6 np) (sg 13 np) (KF np) (KC np)) : RMg E al2 w2 nf (np + 1) na nw (u3 sg 3 np 0 x) rc KF KC := by
  obtain ⟨hA, hC, hP, hN⟩ := h
  refine ⟨RA_addP hA hfr hL0 hLa, fun i hi => ?_, fun p hp => ?_, fun a ha => ?_⟩
  · rw [(hfr _ (by simp) (by simp) (by simp)).1, u3_k (by decide), u3_k (by decide)]; exact hC i hi
  · rw [u3_k (a := 4) (by decide), u3_k (a := 5) (by decide), u3_k (a := 6) (by decide), u3_k (a := 13) (by decide)]
    by_cases e : p = np
    · subst e; rw [u3_s]; exact hv
    · rw [u3_i e]
      exact (hP p (by omega)).mv (fun t h1 h2 _ => (hfr t (fun e => by rw [e] at h1; revert h1; simp) (fun e => by rw [e] at h1; revert h1; simp) (fun e => by rw [e] at h2; revert h2; simp)).1) (fun t h1 h2 _ => (hfr t (fun e => by rw [e] at h1; revert h1; simp) (fun e => by rw [e] at h1; revert h1; simp) (fun e => by rw [e] at h2; revert h2; simp)).2)
  · rw [(hfr _ (by simp) (by simp) (by simp)).1, u3_k (by decide), u3_k (by decide), u3_k (by decide), u3_k (by decide), u3_k (by decide)]; exact hN a ha
/-- an answer is told -/
def ansg (sg : Nat → Nat → Nat → Int32) (na p : Nat) (z bit s : Int32) (nw : Nat) : Nat → Nat → Nat → Int32 := fun k i j =>
  if (7 ≤ k ∧ k ≤ 11) ∧ i = na ∧ j = 0 then (if k = 7 then nI p else if k = 8 then z else if k = 9 then bit else if k = 10 then s else nI nw) else sg k i j
theorem ag_k {p : Nat} {z bit s : Int32} {k : Nat} (h : k < 7 ∨ 11 < k) : ansg sg na p z bit s nw k = sg k := by
  funext i j; exact if_neg (fun q => by omega)
theorem ag_i {p : Nat} {z bit s : Int32} {k i : Nat} (h : i ≠ na) : ansg sg na p z bit s nw k i = sg k i := by
  funext j; exact if_neg (fun q => h q.2.1)
theorem RMg_addN (h : RMg E al1 w1 nf np na nw sg rc KF KC) (hfr : ∀ t, t ≠ (0, 3, 0) → t ≠ (0, 3, 1) → t ≠ (9, 9, 9) → w2 t = w1 t ∧ al2 t = al1 t) (hL0 : al2 (0, 3, 0) = al1 (0, 3, 0)) (hLa : LRa E al2 w2 (0, 3, 0) (0, 3, 1) (na + 1) (fun i => if i = na then tN na else tN i)) {p : Nat} {z bit s : Int32} (hr : rc na = false) (hv : w2 (6, na, 0) = some (.inr (1, [.int (nI p), .int z, .int bit, .int s, .int (nI nw), .int 0]))) : RMg E al2 w2 nf np (na + 1) nw (ansg sg na p z bit s nw) rc KF KC := by
  obtain ⟨hA, hC, hP, hN⟩ := h
  refine ⟨RA_addN hA hfr hL0 hLa, fun i hi => ?_, fun q hq => ?_, fun a ha => ?_⟩
  · rw [(hfr _ (by simp) (by simp) (by simp)).1, ag_k (by omega), ag_k (by omega)]; exact hC i hi
  · rw [ag_k (by omega), ag_k (by omega), ag_k (by omega), ag_k (by omega), ag_k (by omega)]
    exact (hP q hq).mv (fun t h1 h2 _ => (hfr t (fun e => by rw [e] at h1; revert h1; simp) (fun e => by rw [e] at h1; revert h1; simp) (fun e => by rw [e] at h2; revert h2; simp)).1) (fun t h1 h2 _ => (hfr t (fun e => by rw [e] at h1; revert h1; simp) (fun e => by rw [e] at h1; revert h1; simp) (fun e => by rw [e] at h2; revert h2; simp)).2)
  · by_cases e : a = na
    · subst e
      have u : ∀ k, 7 ≤ k → k ≤ 11 → ansg sg a p z bit s nw k a 0 = (if k = 7 then nI p else if k = 8 then z else if k = 9 then bit else if k = 10 then s else nI nw) := fun k h1 h2 => if_pos ⟨⟨h1, h2⟩, rfl, rfl⟩
      rw [u 7 (by decide) (by decide), u 8 (by decide) (by decide), u 9 (by decide) (by decide), u 10 (by decide) (by decide), u 11 (by decide) (by decide), hr]
      exact hv
    · rw [ag_i e, ag_i e, ag_i e, ag_i e, ag_i e, (hfr _ (by simp) (by simp) (by simp)).1]; exact hN a (by omega)
end ADDS
set_option maxHeartbeats 4000000 in
set_option maxRecDepth 100000 in
theorem c_file (l : Launch) (hfl : l.stackTraces = false) {E : xE} {base : Nat} {al : Tg → Nat} {w : Tg → Option va_E} {nf np na nw : Nat} {sg : Nat → Nat → Nat → Int32} {rc : Nat → Bool} (hR : RM E al w nf np na nw sg rc) (hI : INV nf np na nw sg rc) {x : Int32} : xMetX l yX6_file cX6_file 2 (some (.int)) ({ frames := 7, cells := 3, slots := 368, locals := 191 } : Room) E base [.ref (al (0, 0, 0)), .int x] (fun H => xH E base al w H) (fun r H => (nI 0 ≤ x ∧ x ≤ nI 255) ∧ nf < 16 ∧ r = some (.int (nI nf)) ∧ PO E base al w (nf + 1) np na nw (u3 sg 1 nf 0 x) rc H) (fun X H => ((X = "java/lang/IllegalArgumentException" ∧ ¬ (nI 0 ≤ x ∧ x ≤ nI 255)) ∨ (X = "java/lang/IllegalStateException" ∧ (nI 0 ≤ x ∧ x ≤ nI 255) ∧ ¬ nf < 16)) ∧ xH E base al w H) := by
  refine xMetX.of (by decide +kernel) "Dataroom" rfl (Nat.le_of_ble_eq_true rfl) ?_
  intro p9 e9 s m9 below meth c9 ls C het hP hS hl
  have hx := C.hx
  have hb := C.hb
  have hH := hP
  have hl : lv_has ls 2 [(0, .ref (al (0, 0, 0))), (1, .int x)] := hl
  obtain ⟨post, hpost⟩ : ∃ zz9 : Option Value → Heap → Prop, zz9 = (fun r H => (nI 0 ≤ x ∧ x ≤ nI 255) ∧ nf < 16 ∧ r = some (.int (nI nf)) ∧ PO E base al w (nf + 1) np na nw (u3 sg 1 nf 0 x) rc H) := ⟨_, rfl⟩
  obtain ⟨px, hpx⟩ : ∃ zz9 : String → Heap → Prop, zz9 = (fun X H => ((X = "java/lang/IllegalArgumentException" ∧ ¬ (nI 0 ≤ x ∧ x ≤ nI 255)) ∨ (X = "java/lang/IllegalStateException" ∧ (nI 0 ≤ x ∧ x ≤ nI 255) ∧ ¬ nf < 16)) ∧ xH E base al w H) := ⟨_, rfl⟩
  rw [← hpost, ← hpx]
  generalize hQ : (vx_MQ below (xQ base post) (xX base px) ([.ref (al (0, 0, 0)), .int x] : List Value).toArray s 3 368 (xA base)) = Q
  have hR0 := hR
  have hI0 := hI
  obtain ⟨hX, hF, hPl, hAl, hSh, hMk, hC, hPT, hAn⟩ := hR
  obtain ⟨mcF, aF, hLF⟩ := hF.sz
  obtain ⟨mcP, aP, hLP⟩ := hPl.sz
  obtain ⟨mcA, aA, hLA⟩ := hAl.sz
  obtain ⟨v16, v6, v150, vnow, vA, vS, vP, vK, vR⟩ := hI
  refine lv_iload_n hx hb dX6_file_0 rfl (lv_at hl 1 rfl) ?_
  refine lv_iconst (v := nI 0) hx hb dX6_file_1 (by decide +kernel) ?_
  refine lv_sipush (v := nI 255) hx hb dX6_file_2 (by decide +kernel) ?_
  refine x_thrS C hS (c_rRange l hfl (E := E) (base := base) (al := al) (w := w) (v := x) (lo := nI 0) (hi := nI 255)) hH kX6_requireRange qw_126 qw_125  rfl [] rfl hl.1 (Nat.le_of_ble_eq_true rfl) ⟨Nat.le_of_ble_eq_true rfl, Nat.le_of_ble_eq_true rfl⟩ dX6_file_5 ⟨Nat.le_of_ble_eq_true rfl, Nat.le_of_ble_eq_true rfl⟩ (fun X ce q9 H locs hp_1 hS hce hcv hcl => ?_) (fun r_2 H locs hp_1 hS => ?_)
  · skip
    obtain ⟨rfl, hno, hH⟩ := hp_1
    rw [← hQ]
    refine x_outX C het hS hce hcv hcl (Nat.le_of_ble_eq_true rfl) (Nat.le_of_ble_eq_true rfl) ?_
    rw [hpx]
    exact ⟨Or.inl ⟨rfl, hno⟩, hH⟩
  · skip
    obtain ⟨rfl, rg_3, hH⟩ := hp_1
    refine lv_aload_n hx hb dX6_file_8 rfl (lv_at hl 0 rfl) ?_
    refine x_get C hH (ci := 7) (T := TX6) (N := 6) hX rfl iWX6 0 (by decide) qw_87 rfl rfl dX6_file_9 ?_
    refine x_callV C hH hS (ci := 0) (t := (0, 1, 0)) hLF rfl rfl (c_size l (E := E) (base := base) (al := al) hLF) hH kJx4a65c_size_8abf5 qw_197 qw_198 qw_196  rfl [] rfl hl.1 (Nat.le_of_ble_eq_true rfl) ⟨Nat.le_of_ble_eq_true rfl, Nat.le_of_ble_eq_true rfl⟩ dX6_file_12 ⟨Nat.le_of_ble_eq_true rfl, Nat.le_of_ble_eq_true rfl⟩ (fun r_5 H locs hp_4 hS => ?_)
    obtain ⟨rfl, hH⟩ := hp_4
    refine lv_bipush (v := nI 16) hx hb dX6_file_15 (by decide +kernel) ?_
    refine lv_icmp_lt (tgt := 30) hx hb dX6_file_17 (by decide) (fun c_6 => ?_) (fun c_6 => ?_)
    · skip
      replace c_6 := (nI_ltI (by omega) (by omega)).mp c_6
      refine lv_aload_n hx hb dX6_file_30 rfl (lv_at hl 0 rfl) ?_
      refine x_get C hH (ci := 7) (T := TX6) (N := 6) hX rfl iWX6 0 (by decide) qw_87 rfl rfl dX6_file_31 ?_
      refine x_new C hH hS (1, nf, 0) (ci := 2) (T := TX1) (N := 2) (fs := [.int 0, .int 0]) rfl iWX1 tyX1 tyX1_ok qw_216 qw_217 qw_12 (fun j hj => by rcases (show j = 0 ∨ j = 1 by omega) with rfl | rfl <;> rfl) (Nat.le_of_ble_eq_true rfl) (Nat.le_of_ble_eq_true rfl) dX6_file_34 (fun G7_ hH hS => ?_)
      obtain ⟨q_7, hq_7⟩ : ∃ zz9 : Nat, zz9 = xa al (1, nf, 0) H.size (1, nf, 0) := ⟨_, rfl⟩
      obtain ⟨alq_7, halq_7⟩ : ∃ zz9 : Tg → Nat, zz9 = xa al (1, nf, 0) H.size := ⟨_, rfl⟩
      rw [← halq_7] at hH
      rw [← hq_7]
      have ad_8 : alq_7 (0, 0, 0) = al (0, 0, 0) := by rw [halq_7, xa_ne (by simp)]
      have hX := xu_of (t := (1, nf, 0)) (e := .inr (2, [.int 0, .int 0])) (by simp) hX
      have ad_9 : alq_7 (0, 1, 0) = al (0, 1, 0) := by rw [halq_7, xa_ne (by simp)]
      have hLF := xu_of (t := (1, nf, 0)) (e := .inr (2, [.int 0, .int 0])) (by simp) hLF
      have ad_10 : alq_7 (0, 2, 0) = al (0, 2, 0) := by rw [halq_7, xa_ne (by simp)]
      have hLP := xu_of (t := (1, nf, 0)) (e := .inr (2, [.int 0, .int 0])) (by simp) hLP
      have ad_11 : alq_7 (0, 3, 0) = al (0, 3, 0) := by rw [halq_7, xa_ne (by simp)]
      have hLA := xu_of (t := (1, nf, 0)) (e := .inr (2, [.int 0, .int 0])) (by simp) hLA
      have ad_13 : alq_7 (1, nf, 0) = q_7 := by rw [halq_7, hq_7]
      have hn_12 : (xu w (1, nf, 0) (.inr (2, [.int 0, .int 0]))) (1, nf, 0) = some (.inr (2, [.int 0, .int 0])) := xu_self _ _ _
      refine lv_dup hx hb dX6_file_37 rfl ?_
      refine lv_iload_n hx hb dX6_file_38 rfl (lv_at hl 1 rfl) ?_
      refine lv_adr2 (ad_13).symm ?_
      refine x_callI C hS (c_Card l (E := E) (base := base) hn_12) hH kX1_init qw_219 rfl qw_218  rfl [.ref q_7, .ref (al (0, 1, 0))] rfl hl.1 (Nat.le_of_ble_eq_true rfl) ⟨Nat.le_of_ble_eq_true rfl, Nat.le_of_ble_eq_true rfl⟩ dX6_file_39 ⟨Nat.le_of_ble_eq_true rfl, Nat.le_of_ble_eq_true rfl⟩ (fun r_15 H locs hp_14 hS => ?_)
      obtain ⟨rfl, hH⟩ := hp_14
      rw [xu_uu] at hH
      have hv9 : (xu w (1, nf, 0) (.inr (2, [.int x, .int (-1)]))) (1, nf, 0) = some (.inr (2, [.int x, .int (-1)])) := xu_self _ _ _
      have hR1 : RM E alq_7 (xu w (1, nf, 0) (.inr (2, [.int x, .int (-1)]))) nf np na nw sg rc := RM.of hR0 (fun t ht => xu_ne (fun e => by rw [e] at ht; revert ht; simp [dm])) (fun t ht => by rw [halq_7]; exact xa_ne (fun e => by rw [e] at ht; revert ht; simp [dm]))
      have hR2 := hR1
      obtain ⟨hX, hF, hPl, hAl, hSh, hMk, hC, hPT, hAn⟩ := hR1
      obtain ⟨mcF, aF, hLF⟩ := hF.sz
      obtain ⟨mcP, aP, hLP⟩ := hPl.sz
      obtain ⟨mcA, aA, hLA⟩ := hAl.sz
      have lad9 : al (0, 1, 0) = alq_7 (0, 1, 0) := by rw [halq_7]; exact (xa_ne (by simp)).symm
      have rad9 : al (0, 0, 0) = alq_7 (0, 0, 0) := by rw [halq_7]; exact (xa_ne (by simp)).symm
      refine lv_adr (ad_13).symm ?_
      refine lv_adr2 lad9 ?_
      refine x_callV C hH hS (ci := 0) (t := (0, 1, 0)) hLF rfl rfl (c_add l (E := E) (base := base) (tv := (1, nf, 0)) hF (by omega) (by simp) (by simp) (by simp) (ci := 2) rfl nw_710 hv9 (fun i hi => ⟨⟨by simp, by simp, by simp⟩, ⟨_, hC i hi⟩⟩) (by simp) (by simp) (by simp)) hH kJx4a65c_add_9ea2d qw_232 qw_233 qw_231  rfl [] rfl hl.1 (Nat.le_of_ble_eq_true rfl) ⟨Nat.le_of_ble_eq_true rfl, Nat.le_of_ble_eq_true rfl⟩ dX6_file_42 ⟨Nat.le_of_ble_eq_true rfl, Nat.le_of_ble_eq_true rfl⟩ (fun r_17 H locs hp_16 hS => ?_)
      obtain ⟨rfl, al2, w2, hH, hLa, hfr, hL0⟩ := hp_16
      have ar9 : al (0, 0, 0) = al2 (0, 0, 0) := by rw [(hfr (0, 0, 0) (by simp) (by simp) (by simp)).2]; exact rad9
      have hv2 := (hfr (1, nf, 0) (by simp) (by simp) (by simp)).1.trans hv9
      have hR3 := RM_g.mpr (RM_addF (RM_g.mp hR2) hfr hL0 hLa hv2 (vS nf (Nat.le_refl _)))
      have hR1 := hR3
      obtain ⟨hX, hF, hPl, hAl, hSh, hMk, hC, hPT, hAn⟩ := hR1
      obtain ⟨mcF, aF, hLF⟩ := hF.sz
      obtain ⟨mcP, aP, hLP⟩ := hPl.sz
      obtain ⟨mcA, aA, hLA⟩ := hAl.sz
      refine lv_pop hx hb dX6_file_45 rfl ?_
      refine lv_aload_n hx hb dX6_file_46 rfl (lv_at hl 0 rfl) ?_
      refine lv_adr ar9 ?_
      refine x_get C hH (ci := 7) (T := TX6) (N := 6) hX rfl iWX6 0 (by decide) qw_87 rfl rfl dX6_file_47 ?_
      refine x_callV C hH hS (ci := 0) (t := (0, 1, 0)) hLF rfl rfl (c_size l (E := E) (base := base) (al := al2) hLF) hH kJx4a65c_size_8abf5 qw_197 qw_198 qw_196  rfl [] rfl hl.1 (Nat.le_of_ble_eq_true rfl) ⟨Nat.le_of_ble_eq_true rfl, Nat.le_of_ble_eq_true rfl⟩ dX6_file_50 ⟨Nat.le_of_ble_eq_true rfl, Nat.le_of_ble_eq_true rfl⟩ (fun r_19 H locs hp_18 hS => ?_)
      obtain ⟨rfl, hH⟩ := hp_18
      refine lv_iconst (v := nI 1) hx hb dX6_file_53 (by decide +kernel) ?_
      refine lv_isub hx hb dX6_file_54 ?_
      refine lv_re (dI_sub _) ?_
      rw [← hQ]
      refine vx_ret (x_reti C rfl hS (Nat.le_of_ble_eq_true rfl) (Nat.le_of_ble_eq_true rfl) dX6_file_55 ?_)
      rw [hpost]
      exact ⟨rg_3, by omega, by rw [dI_s], PO_fr hH hR3 ar9.symm (fun t ht => ⟨by rw [(hfr t (fun e => by rw [e] at ht; revert ht; simp) (fun e => by rw [e] at ht; revert ht; simp) (fun e => by rw [e] at ht; revert ht; simp)).1]; exact xu_ne (fun e => by rw [e] at ht; revert ht; simp), by rw [(hfr t (fun e => by rw [e] at ht; revert ht; simp) (fun e => by rw [e] at ht; revert ht; simp) (fun e => by rw [e] at ht; revert ht; simp)).2, halq_7]; exact xa_ne (fun e => by rw [e] at ht; revert ht; simp)⟩)⟩
    · skip
      replace c_6 := mt (nI_ltI (by omega) (by omega)).mpr c_6
      rw [← hQ]
      refine x_throw C het hfl at_ISE qw_200 qw_11 (List.mem_of_getElem? (i := 1) rfl) (by decide +kernel) hS hl.1 dX6_file_20 dX6_file_23 dX6_file_24 dX6_file_26 dX6_file_29 (Nat.le_of_ble_eq_true rfl) (Nat.le_of_ble_eq_true rfl) (Nat.le_of_ble_eq_true rfl) (Nat.le_of_ble_eq_true rfl) (Nat.le_of_ble_eq_true rfl) (Nat.le_of_ble_eq_true rfl) (fun H1 ho => ?_)
      rw [hpx]
      exact ⟨Or.inr ⟨rfl, rg_3, c_6⟩, hH.kept ho⟩
