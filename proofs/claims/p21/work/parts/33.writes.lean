section LAD6
variable {p : Program} {l : Launch} {e : Env} {R : Room} {s : State} {m : MethodId} {args : Array Value} {below : List Frame} {meth : Method} {c : Code} {H : Heap} {locs : List Loc} {cells slots : Nat} {Q : State → Prop} {pc : Nat} {ls : Array Slot} {rest : List Value}
theorem lv_adr4 {a b : Nat} {v u x : Value} (h : a = b) (k : W p l e R s m args below meth c H locs cells slots Q (F0 m pc ls (v :: u :: x :: .ref b :: rest))) : W p l e R s m args below meth c H locs cells slots Q (F0 m pc ls (v :: u :: x :: .ref a :: rest)) := h ▸ k
theorem lv_adr6 {a b : Nat} {v u x y z : Value} (h : a = b) (k : W p l e R s m args below meth c H locs cells slots Q (F0 m pc ls (v :: u :: x :: y :: z :: .ref b :: rest))) : W p l e R s m args below meth c H locs cells slots Q (F0 m pc ls (v :: u :: x :: y :: z :: .ref a :: rest)) := h ▸ k
end LAD6
/-- behind a call: the room is so; what lies beside it is as it was -/
def PO (E : xE) (base : Nat) (al : Tg → Nat) (w : Tg → Option va_E) (nf np na nw : Nat) (sg : Nat → Nat → Nat → Int32) (rc : Nat → Bool) (H : Heap) : Prop :=
  ∃ (al' : Tg → Nat) (w' : Tg → Option va_E), xH E base al' w' H ∧ RM E al' w' nf np na nw sg rc ∧ (∀ t : Tg, 10 ≤ t.1 → w' t = w t ∧ al' t = al t) ∧ al' (0, 0, 0) = al (0, 0, 0)
section RMW
variable {E : xE} {base : Nat} {al al' : Tg → Nat} {w w' : Tg → Option va_E} {nf np na nw : Nat} {sg : Nat → Nat → Nat → Int32} {rc : Nat → Bool} {H : Heap}
theorem PO_of (hH : xH E base al w' H) (hR : RM E al w' nf np na nw sg rc) (hw : ∀ t : Tg, 10 ≤ t.1 → w' t = w t) : PO E base al w nf np na nw sg rc H := ⟨al, w', hH, hR, fun t ht => ⟨hw t ht, rfl⟩, rfl⟩
theorem RM_seal (h : RM E al w nf np na nw sg rc) {f : Nat} {x : Int32} (hf : f < nf) : RM E al (xu w (1, f, 0) (.inr (2, [.int (sg 1 f 0), .int x]))) nf np na nw (u3 sg 2 f 0 x) rc := RM_g.mpr (by
  rw [KFs_u3 (by decide) (by decide) (by decide), KCs_u3 (by decide) (by decide) (by decide)]; exact RMg_seal (RM_g.mp h) hf)
theorem RM_num (h : RM E al w nf np na nw sg rc) {f : Nat} {x : Int32} (hf : f < nf) : RM E al (xu w (1, f, 0) (.inr (2, [.int x, .int (sg 2 f 0)]))) nf np na nw (u3 sg 1 f 0 x) rc := RM_g.mpr (by
  rw [KFs_u3 (by decide) (by decide) (by decide), KCs_u3 (by decide) (by decide) (by decide)]; exact RMg_num (RM_g.mp h) hf)
theorem RM_bu (h : RM E al w nf np na nw sg rc) {p : Nat} {x : Int32} (hp : p < np) : RM E al (xu w (2, p, 0) (.inr (5, [.int (nI p), .int x, .ref (al (2, p, 1)), .ref (al (2, p, 2)), .ref (al (2, p, 3))]))) nf np na nw (u3 sg 3 p 0 x) rc := RM_g.mpr (by
  rw [KFs_u3 (by decide) (by decide) (by decide), KCs_u3 (by decide) (by decide) (by decide)]; exact RMg_bu (RM_g.mp h) hp)
theorem RM_fr (h : RM E al w nf np na nw sg rc) {p k : Nat} {x : Int32} (hp : p < np) : RM E al (xu w (2, p, 3) (.inl (E.2.1 0, 5, .inl (upd (sg 13 p) k x)))) nf np na nw (u3 sg 13 p k x) rc := RM_g.mpr (by
  rw [KFs_u3 (by decide) (by decide) (by decide), KCs_u3 (by decide) (by decide) (by decide)]; exact RMg_fr (RM_g.mp h) hp)
theorem RM_rt0 (h : RM E al w nf np na nw sg rc) {p f : Nat} (hp : p < np) : RM E al (xu w (2, p, 1) (.inl (E.2.1 4, 16, .inr (.inr (.inr (.inr (va_up (fun f => if sg 4 p f = 0 then none else some (al (3, p, f))) f none))))))) nf np na nw (u3 sg 4 p f 0) rc := RM_g.mpr (by
  rw [KFs_u3 (by decide) (by decide) (by decide), KCs_u3 (by decide) (by decide) (by decide)]; exact RMg_rt0 (RM_g.mp h) hp)
theorem RM_now (h : RM E al w nf np na nw sg rc) (n : Nat) : RM E al (xu w (0, 0, 0) (.inr (7, [.ref (al (0, 1, 0)), .ref (al (0, 2, 0)), .ref (al (0, 3, 0)), .int (nI n), .ref (al (0, 4, 0)), .ref (al (0, 5, 0))]))) nf np na n sg rc := by
  obtain ⟨hX, hF, hP, hA, hSh, hMk, hC, hPT, hAn⟩ := h
  have b : ∀ t : Tg, t ≠ (0, 0, 0) → (xu w (0, 0, 0) (.inr (7, [.ref (al (0, 1, 0)), .ref (al (0, 2, 0)), .ref (al (0, 3, 0)), .int (nI n), .ref (al (0, 4, 0)), .ref (al (0, 5, 0))]))) t = w t := fun t ht => xu_ne ht
  refine ⟨xu_self _ _ _, hF.mv (b _ (by simp)) (b _ (by simp)) rfl (fun _ _ => rfl), hP.mv (b _ (by simp)) (b _ (by simp)) rfl (fun _ _ => rfl), hA.mv (b _ (by simp)) (b _ (by simp)) rfl (fun _ _ => rfl), ?_, ?_, fun i hi => ?_, fun p hp => ?_, fun a h => ?_⟩
  · rw [b _ (by simp), b _ (by simp)]; exact hSh
  · rw [b _ (by simp), b _ (by simp)]; exact hMk
  · rw [b _ (by simp)]; exact hC i hi
  · exact (hPT p hp).xu (by simp)
  · rw [b _ (by simp)]; exact hAn a h
theorem x_rt (h : RM E al w nf np na nw sg rc) {p f q0 : Nat} {k a b : Int32} (hH : xH E base (xa al (9, 9, 9) q0) (xu (xu w (9, 9, 9) (.inr (6, [.int k, .int a, .int b]))) (2, p, 1) (.inl (E.2.1 4, 16, .inr (.inr (.inr (.inr (va_up (fun f => if sg 4 p f = 0 then none else some (xa al (9, 9, 9) q0 (3, p, f))) f (some (xa al (9, 9, 9) q0 (9, 9, 9)))))))))) H) (hp : p < np) (hk0 : k ≠ 0) : PO E base al w nf np na nw (u3 (u3 (u3 sg 4 p f k) 5 p f a) 6 p f b) rc H := by
  have e : (fun f => if sg 4 p f = 0 then none else some (xa al (9, 9, 9) q0 (3, p, f))) = fun f => if sg 4 p f = 0 then none else some (al (3, p, f)) := by
    funext g; rw [xa_ne (by simp)]
  rw [e, xa_self] at hH
  have hH2 := hH.ren (3, p, f) (9, 9, 9)
  refine ⟨_, _, hH2, RM_g.mpr (by
    rw [KFs_u3 (by decide) (by decide) (by decide), KCs_u3 (by decide) (by decide) (by decide), KFs_u3 (by decide) (by decide) (by decide), KCs_u3 (by decide) (by decide) (by decide), KFs_u3 (by decide) (by decide) (by decide), KCs_u3 (by decide) (by decide) (by decide)]
    exact RMg_rt (RM_g.mp h) hp hk0), fun t ht => ⟨?_, ?_⟩, ?_⟩
  · unfold xmv
    have n1 : t ≠ (3, p, f) := fun e => by rw [e] at ht; revert ht; simp
    have n2 : t ≠ (9, 9, 9) := fun e => by rw [e] at ht; revert ht; simp
    have n3 : t ≠ (2, p, 1) := fun e => by rw [e] at ht; revert ht; simp
    rw [if_neg n1, if_neg n2, xu_ne n3, xu_ne n2]
  · rw [xa_ne (fun e => by rw [e] at ht; revert ht; simp), xa_ne (fun e => by rw [e] at ht; revert ht; simp)]
  · rw [xa_ne (by simp), xa_ne (by simp)]
end RMW
set_option maxHeartbeats 4000000 in
set_option maxRecDepth 100000 in
theorem c_seal (l : Launch) (hfl : l.stackTraces = false) {E : xE} {base : Nat} {al : Tg → Nat} {w : Tg → Option va_E} {nf np na nw : Nat} {sg : Nat → Nat → Nat → Int32} {rc : Nat → Bool} (hR : RM E al w nf np na nw sg rc) (hI : INV nf np na nw sg rc) {x y : Int32} : xMetX l yX6_seal cX6_seal 4 none ({ frames := 8, cells := 2, slots := 12, locals := 124 } : Room) E base [.ref (al (0, 0, 0)), .int x, .int y] (fun H => xH E base al w H) (fun r H => ∃ f, f < nf ∧ x = nI f ∧ (nI 0 ≤ y ∧ y ≤ nI 5000) ∧ r = none ∧ PO E base al w nf np na nw (u3 sg 2 f 0 y) rc H) (fun X H => ((X = "java/lang/IndexOutOfBoundsException" ∧ ¬ inR x nf) ∨ (X = "java/lang/IllegalArgumentException" ∧ inR x nf ∧ ¬ (nI 0 ≤ y ∧ y ≤ nI 5000))) ∧ xH E base al w H) := by
  refine xMetX.of (by decide +kernel) "Dataroom" rfl (Nat.le_of_ble_eq_true rfl) ?_
  intro p9 e9 s m9 below meth c9 ls C het hP hS hl
  have hx := C.hx
  have hb := C.hb
  have hH := hP
  have hl : lv_has ls 4 [(0, .ref (al (0, 0, 0))), (1, .int x), (2, .int y)] := hl
  obtain ⟨post, hpost⟩ : ∃ zz9 : Option Value → Heap → Prop, zz9 = (fun r H => ∃ f, f < nf ∧ x = nI f ∧ (nI 0 ≤ y ∧ y ≤ nI 5000) ∧ r = none ∧ PO E base al w nf np na nw (u3 sg 2 f 0 y) rc H) := ⟨_, rfl⟩
  obtain ⟨px, hpx⟩ : ∃ zz9 : String → Heap → Prop, zz9 = (fun X H => ((X = "java/lang/IndexOutOfBoundsException" ∧ ¬ inR x nf) ∨ (X = "java/lang/IllegalArgumentException" ∧ inR x nf ∧ ¬ (nI 0 ≤ y ∧ y ≤ nI 5000))) ∧ xH E base al w H) := ⟨_, rfl⟩
  rw [← hpost, ← hpx]
  generalize hQ : (vx_MQ below (xQ base post) (xX base px) ([.ref (al (0, 0, 0)), .int x, .int y] : List Value).toArray s 2 12 (xA base)) = Q
  have hR0 := hR
  have hI0 := hI
  obtain ⟨hX, hF, hPl, hAl, hSh, hMk, hC, hPT, hAn⟩ := hR
  obtain ⟨mcF, aF, hLF⟩ := hF.sz
  obtain ⟨mcP, aP, hLP⟩ := hPl.sz
  obtain ⟨mcA, aA, hLA⟩ := hAl.sz
  obtain ⟨v16, v6, v150, vnow, vA, vS, vP, vK, vR⟩ := hI
  refine lv_aload_n hx hb dX6_seal_0 rfl (lv_at hl 0 rfl) ?_
  refine lv_iload_n hx hb dX6_seal_1 rfl (lv_at hl 1 rfl) ?_
  refine x_thrV C hH hS (ci := 7) (t := (0, 0, 0)) hX rfl rfl (c_fAt l hfl (E := E) (base := base) hR0 hI0 (x := x)) hH kX6_fileAt qw_300 (ws_p (List.mem_of_getElem? (i := 4) rfl) rfl) qw_298  rfl [] rfl hl.1 (Nat.le_of_ble_eq_true rfl) ⟨Nat.le_of_ble_eq_true rfl, Nat.le_of_ble_eq_true rfl⟩ dX6_seal_2 ⟨Nat.le_of_ble_eq_true rfl, Nat.le_of_ble_eq_true rfl⟩ (fun X ce q9 H locs hp_1 hS hce hcv hcl => ?_) (fun r_2 H locs hp_1 hS => ?_)
  · skip
    obtain ⟨rfl, hno, hH⟩ := hp_1
    rw [← hQ]
    refine x_outX C het hS hce hcv hcl (Nat.le_of_ble_eq_true rfl) (Nat.le_of_ble_eq_true rfl) ?_
    rw [hpx]
    exact ⟨Or.inl ⟨rfl, hno⟩, hH⟩
  · skip
    obtain ⟨f_3, hf_3, rfl, rfl, hH⟩ := hp_1
    refine lv_astore_n (lv' := [(3, .ref (al (1, f_3, 0))), (0, .ref (al (0, 0, 0))), (1, .int (nI f_3)), (2, .int y)]) hx hb dX6_seal_5 rfl hl (by decide) rfl (fun ls hl => ?_)
    refine lv_iload_n hx hb dX6_seal_6 rfl (lv_at hl 3 rfl) ?_
    refine lv_iconst (v := nI 0) hx hb dX6_seal_7 (by decide +kernel) ?_
    refine lv_sipush (v := nI 5000) hx hb dX6_seal_8 (by decide +kernel) ?_
    refine x_thrS C hS (c_rRange l hfl (E := E) (base := base) (al := al) (w := w) (v := y) (lo := nI 0) (hi := nI 5000)) hH kX6_requireRange qw_126 qw_125  rfl [] rfl hl.1 (Nat.le_of_ble_eq_true rfl) ⟨Nat.le_of_ble_eq_true rfl, Nat.le_of_ble_eq_true rfl⟩ dX6_seal_11 ⟨Nat.le_of_ble_eq_true rfl, Nat.le_of_ble_eq_true rfl⟩ (fun X ce q9 H locs hp_4 hS hce hcv hcl => ?_) (fun r_5 H locs hp_4 hS => ?_)
    · skip
      obtain ⟨rfl, hno, hH⟩ := hp_4
      rw [← hQ]
      refine x_outX C het hS hce hcv hcl (Nat.le_of_ble_eq_true rfl) (Nat.le_of_ble_eq_true rfl) ?_
      rw [hpx]
      exact ⟨Or.inr ⟨rfl, ⟨f_3, hf_3, rfl⟩, hno⟩, hH⟩
    · skip
      obtain ⟨rfl, rg_6, hH⟩ := hp_4
      refine lv_aload_n hx hb dX6_seal_14 rfl (lv_at hl 0 rfl) ?_
      refine lv_iload_n hx hb dX6_seal_15 rfl (lv_at hl 3 rfl) ?_
      refine x_putN C hH hS (ci := 2) (T := TX1) (N := 2) (fs' := [.int (sg 1 f_3 0), .int y]) (hC f_3 (by omega)) rfl iWX1 tyX1 tyX1_ok nmX1 1 (by decide) nw_225 rfl rfl rfl rfl (Nat.le_of_ble_eq_true rfl) rfl dX6_seal_16 (fun H locs hH hS => ?_)
      have hd_7 := (hC f_3 (by omega))
      have hX := xu_of (t := (1, f_3, 0)) (e := .inr (2, [.int (sg 1 f_3 0), .int y])) (by simp) hX
      have hLF := xu_of (t := (1, f_3, 0)) (e := .inr (2, [.int (sg 1 f_3 0), .int y])) (by simp) hLF
      have hLP := xu_of (t := (1, f_3, 0)) (e := .inr (2, [.int (sg 1 f_3 0), .int y])) (by simp) hLP
      have hLA := xu_of (t := (1, f_3, 0)) (e := .inr (2, [.int (sg 1 f_3 0), .int y])) (by simp) hLA
      have hd_7 : (xu w (1, f_3, 0) (.inr (2, [.int (sg 1 f_3 0), .int y]))) (1, f_3, 0) = some (.inr (2, [.int (sg 1 f_3 0), .int y])) := xu_self _ _ _
      rw [← hQ]
      refine vx_ret (x_retv C hS (Nat.le_of_ble_eq_true rfl) (Nat.le_of_ble_eq_true rfl) dX6_seal_19 ?_)
      rw [hpost]
      exact ⟨f_3, hf_3, rfl, rg_6, rfl, PO_of hH (RM_seal hR0 hf_3) (fun t ht => xu_ne (fun e => by rw [e] at ht; revert ht; simp))⟩

set_option maxHeartbeats 4000000 in
set_option maxRecDepth 100000 in
theorem c_budget (l : Launch) (hfl : l.stackTraces = false) {E : xE} {base : Nat} {al : Tg → Nat} {w : Tg → Option va_E} {nf np na nw : Nat} {sg : Nat → Nat → Nat → Int32} {rc : Nat → Bool} (hR : RM E al w nf np na nw sg rc) (hI : INV nf np na nw sg rc) {x y : Int32} : xMetX l yX6_budget cX6_budget 5 (some (.int)) ({ frames := 7, cells := 2, slots := 12, locals := 104 } : Room) E base [.ref (al (0, 0, 0)), .int x, .int y] (fun H => xH E base al w H) (fun r H => ∃ p, p < np ∧ x = nI p ∧ (nI 0 ≤ y ∧ y ≤ nI 128) ∧ r = some (.int (sg 3 p 0)) ∧ PO E base al w nf np na nw (u3 sg 3 p 0 y) rc H) (fun X H => ((X = "java/lang/IndexOutOfBoundsException" ∧ ¬ inR x np) ∨ (X = "java/lang/IllegalArgumentException" ∧ inR x np ∧ ¬ (nI 0 ≤ y ∧ y ≤ nI 128))) ∧ xH E base al w H) := by
  refine xMetX.of (by decide +kernel) "Dataroom" rfl (Nat.le_of_ble_eq_true rfl) ?_
  intro p9 e9 s m9 below meth c9 ls C het hP hS hl
  have hx := C.hx
  have hb := C.hb
  have hH := hP
  have hl : lv_has ls 5 [(0, .ref (al (0, 0, 0))), (1, .int x), (2, .int y)] := hl
  obtain ⟨post, hpost⟩ : ∃ zz9 : Option Value → Heap → Prop, zz9 = (fun r H => ∃ p, p < np ∧ x = nI p ∧ (nI 0 ≤ y ∧ y ≤ nI 128) ∧ r = some (.int (sg 3 p 0)) ∧ PO E base al w nf np na nw (u3 sg 3 p 0 y) rc H) := ⟨_, rfl⟩
  obtain ⟨px, hpx⟩ : ∃ zz9 : String → Heap → Prop, zz9 = (fun X H => ((X = "java/lang/IndexOutOfBoundsException" ∧ ¬ inR x np) ∨ (X = "java/lang/IllegalArgumentException" ∧ inR x np ∧ ¬ (nI 0 ≤ y ∧ y ≤ nI 128))) ∧ xH E base al w H) := ⟨_, rfl⟩
  rw [← hpost, ← hpx]
  generalize hQ : (vx_MQ below (xQ base post) (xX base px) ([.ref (al (0, 0, 0)), .int x, .int y] : List Value).toArray s 2 12 (xA base)) = Q
  have hR0 := hR
  have hI0 := hI
  obtain ⟨hX, hF, hPl, hAl, hSh, hMk, hC, hPT, hAn⟩ := hR
  obtain ⟨mcF, aF, hLF⟩ := hF.sz
  obtain ⟨mcP, aP, hLP⟩ := hPl.sz
  obtain ⟨mcA, aA, hLA⟩ := hAl.sz
  obtain ⟨v16, v6, v150, vnow, vA, vS, vP, vK, vR⟩ := hI
  refine lv_aload_n hx hb dX6_budget_0 rfl (lv_at hl 0 rfl) ?_
  refine lv_iload_n hx hb dX6_budget_1 rfl (lv_at hl 1 rfl) ?_
  refine x_thrV C hH hS (ci := 7) (t := (0, 0, 0)) hX rfl rfl (c_pAt l hfl (E := E) (base := base) hR0 hI0 (x := x)) hH kX6_partyAt qw_420 (ws_p (List.mem_of_getElem? (i := 8) rfl) rfl) qw_418  rfl [] rfl hl.1 (Nat.le_of_ble_eq_true rfl) ⟨Nat.le_of_ble_eq_true rfl, Nat.le_of_ble_eq_true rfl⟩ dX6_budget_2 ⟨Nat.le_of_ble_eq_true rfl, Nat.le_of_ble_eq_true rfl⟩ (fun X ce q9 H locs hp_1 hS hce hcv hcl => ?_) (fun r_2 H locs hp_1 hS => ?_)
  · skip
    obtain ⟨rfl, hno, hH⟩ := hp_1
    rw [← hQ]
    refine x_outX C het hS hce hcv hcl (Nat.le_of_ble_eq_true rfl) (Nat.le_of_ble_eq_true rfl) ?_
    rw [hpx]
    exact ⟨Or.inl ⟨rfl, hno⟩, hH⟩
  · skip
    obtain ⟨p_3, hp_3, rfl, rfl, hH⟩ := hp_1
    refine lv_astore_n (lv' := [(3, .ref (al (2, p_3, 0))), (0, .ref (al (0, 0, 0))), (1, .int (nI p_3)), (2, .int y)]) hx hb dX6_budget_5 rfl hl (by decide) rfl (fun ls hl => ?_)
    refine lv_iload_n hx hb dX6_budget_6 rfl (lv_at hl 3 rfl) ?_
    refine lv_iconst (v := nI 0) hx hb dX6_budget_7 (by decide +kernel) ?_
    refine lv_sipush (v := nI 128) hx hb dX6_budget_8 (by decide +kernel) ?_
    refine x_thrS C hS (c_rRange l hfl (E := E) (base := base) (al := al) (w := w) (v := y) (lo := nI 0) (hi := nI 128)) hH kX6_requireRange qw_126 qw_125  rfl [] rfl hl.1 (Nat.le_of_ble_eq_true rfl) ⟨Nat.le_of_ble_eq_true rfl, Nat.le_of_ble_eq_true rfl⟩ dX6_budget_11 ⟨Nat.le_of_ble_eq_true rfl, Nat.le_of_ble_eq_true rfl⟩ (fun X ce q9 H locs hp_4 hS hce hcv hcl => ?_) (fun r_5 H locs hp_4 hS => ?_)
    · skip
      obtain ⟨rfl, hno, hH⟩ := hp_4
      rw [← hQ]
      refine x_outX C het hS hce hcv hcl (Nat.le_of_ble_eq_true rfl) (Nat.le_of_ble_eq_true rfl) ?_
      rw [hpx]
      exact ⟨Or.inr ⟨rfl, ⟨p_3, hp_3, rfl⟩, hno⟩, hH⟩
    · skip
      obtain ⟨rfl, rg_6, hH⟩ := hp_4
      refine lv_aload_n hx hb dX6_budget_14 rfl (lv_at hl 0 rfl) ?_
      refine x_getN C hH (ci := 5) (T := TX4) (N := 5) (hPT p_3 (by omega)).1 rfl iWX4 1 (by decide) nw_395 rfl rfl dX6_budget_15 ?_
      refine lv_istore (lv' := [(4, .int (sg 3 p_3 0)), (3, .ref (al (2, p_3, 0))), (0, .ref (al (0, 0, 0))), (1, .int (nI p_3)), (2, .int y)]) hx hb dX6_budget_18 hl (by decide) rfl (fun ls hl => ?_)
      refine lv_aload_n hx hb dX6_budget_20 rfl (lv_at hl 1 rfl) ?_
      refine lv_iload_n hx hb dX6_budget_21 rfl (lv_at hl 4 rfl) ?_
      refine x_putN C hH hS (ci := 5) (T := TX4) (N := 5) (fs' := [.int (nI p_3), .int y, .ref (al (2, p_3, 1)), .ref (al (2, p_3, 2)), .ref (al (2, p_3, 3))]) (hPT p_3 (by omega)).1 rfl iWX4 tyX4 tyX4_ok nmX4 1 (by decide) nw_395 rfl rfl rfl rfl (Nat.le_of_ble_eq_true rfl) rfl dX6_budget_22 (fun H locs hH hS => ?_)
      have hd_7 := (hPT p_3 (by omega)).1
      have hX := xu_of (t := (2, p_3, 0)) (e := .inr (5, [.int (nI p_3), .int y, .ref (al (2, p_3, 1)), .ref (al (2, p_3, 2)), .ref (al (2, p_3, 3))])) (by simp) hX
      have hLF := xu_of (t := (2, p_3, 0)) (e := .inr (5, [.int (nI p_3), .int y, .ref (al (2, p_3, 1)), .ref (al (2, p_3, 2)), .ref (al (2, p_3, 3))])) (by simp) hLF
      have hLP := xu_of (t := (2, p_3, 0)) (e := .inr (5, [.int (nI p_3), .int y, .ref (al (2, p_3, 1)), .ref (al (2, p_3, 2)), .ref (al (2, p_3, 3))])) (by simp) hLP
      have hLA := xu_of (t := (2, p_3, 0)) (e := .inr (5, [.int (nI p_3), .int y, .ref (al (2, p_3, 1)), .ref (al (2, p_3, 2)), .ref (al (2, p_3, 3))])) (by simp) hLA
      have hd_7 : (xu w (2, p_3, 0) (.inr (5, [.int (nI p_3), .int y, .ref (al (2, p_3, 1)), .ref (al (2, p_3, 2)), .ref (al (2, p_3, 3))]))) (2, p_3, 0) = some (.inr (5, [.int (nI p_3), .int y, .ref (al (2, p_3, 1)), .ref (al (2, p_3, 2)), .ref (al (2, p_3, 3))])) := xu_self _ _ _
      refine lv_iload hx hb dX6_budget_25 (lv_at hl 0 rfl) ?_
      rw [← hQ]
      refine vx_ret (x_reti C rfl hS (Nat.le_of_ble_eq_true rfl) (Nat.le_of_ble_eq_true rfl) dX6_budget_27 ?_)
      rw [hpost]
      exact ⟨p_3, hp_3, rfl, rg_6, rfl, PO_of hH (RM_bu hR0 hp_3) (fun t ht => xu_ne (fun e => by rw [e] at ht; revert ht; simp))⟩

set_option maxHeartbeats 4000000 in
set_option maxRecDepth 100000 in
theorem c_pass (l : Launch) (hfl : l.stackTraces = false) {E : xE} {base : Nat} {al : Tg → Nat} {w : Tg → Option va_E} {nf np na nw : Nat} {sg : Nat → Nat → Nat → Int32} {rc : Nat → Bool} (hR : RM E al w nf np na nw sg rc) (hI : INV nf np na nw sg rc) {x : Int32} : xMetX l yX6_pass cX6_pass 2 (some (.int)) ({ frames := 7, cells := 2, slots := 12, locals := 104 } : Room) E base [.ref (al (0, 0, 0)), .int x] (fun H => xH E base al w H) (fun r H => ∃ k, x = nI k ∧ (nI 1 ≤ x ∧ x ≤ nI 500) ∧ nw + k ≤ 5000 ∧ r = some (.int (nI (nw + k))) ∧ PO E base al w nf np na (nw + k) sg rc H) (fun X H => ((X = "java/lang/IllegalArgumentException" ∧ ¬ (nI 1 ≤ x ∧ x ≤ nI 500)) ∨ (X = "java/lang/IllegalStateException" ∧ (nI 1 ≤ x ∧ x ≤ nI 500) ∧ ¬ nI nw + x ≤ nI 5000)) ∧ xH E base al w H) := by
  refine xMetX.of (by decide +kernel) "Dataroom" rfl (Nat.le_of_ble_eq_true rfl) ?_
  intro p9 e9 s m9 below meth c9 ls C het hP hS hl
  have hx := C.hx
  have hb := C.hb
  have hH := hP
  have hl : lv_has ls 2 [(0, .ref (al (0, 0, 0))), (1, .int x)] := hl
  obtain ⟨post, hpost⟩ : ∃ zz9 : Option Value → Heap → Prop, zz9 = (fun r H => ∃ k, x = nI k ∧ (nI 1 ≤ x ∧ x ≤ nI 500) ∧ nw + k ≤ 5000 ∧ r = some (.int (nI (nw + k))) ∧ PO E base al w nf np na (nw + k) sg rc H) := ⟨_, rfl⟩
  obtain ⟨px, hpx⟩ : ∃ zz9 : String → Heap → Prop, zz9 = (fun X H => ((X = "java/lang/IllegalArgumentException" ∧ ¬ (nI 1 ≤ x ∧ x ≤ nI 500)) ∨ (X = "java/lang/IllegalStateException" ∧ (nI 1 ≤ x ∧ x ≤ nI 500) ∧ ¬ nI nw + x ≤ nI 5000)) ∧ xH E base al w H) := ⟨_, rfl⟩
  rw [← hpost, ← hpx]
  generalize hQ : (vx_MQ below (xQ base post) (xX base px) ([.ref (al (0, 0, 0)), .int x] : List Value).toArray s 2 12 (xA base)) = Q
  have hR0 := hR
  have hI0 := hI
  obtain ⟨hX, hF, hPl, hAl, hSh, hMk, hC, hPT, hAn⟩ := hR
  obtain ⟨mcF, aF, hLF⟩ := hF.sz
  obtain ⟨mcP, aP, hLP⟩ := hPl.sz
  obtain ⟨mcA, aA, hLA⟩ := hAl.sz
  obtain ⟨v16, v6, v150, vnow, vA, vS, vP, vK, vR⟩ := hI
  refine lv_iload_n hx hb dX6_pass_0 rfl (lv_at hl 1 rfl) ?_
  refine lv_iconst (v := nI 1) hx hb dX6_pass_1 (by decide +kernel) ?_
  refine lv_sipush (v := nI 500) hx hb dX6_pass_2 (by decide +kernel) ?_
  refine x_thrS C hS (c_rRange l hfl (E := E) (base := base) (al := al) (w := w) (v := x) (lo := nI 1) (hi := nI 500)) hH kX6_requireRange qw_126 qw_125  rfl [] rfl hl.1 (Nat.le_of_ble_eq_true rfl) ⟨Nat.le_of_ble_eq_true rfl, Nat.le_of_ble_eq_true rfl⟩ dX6_pass_5 ⟨Nat.le_of_ble_eq_true rfl, Nat.le_of_ble_eq_true rfl⟩ (fun X ce q9 H locs hp_1 hS hce hcv hcl => ?_) (fun r_2 H locs hp_1 hS => ?_)
  · skip
    obtain ⟨rfl, hno, hH⟩ := hp_1
    rw [← hQ]
    refine x_outX C het hS hce hcv hcl (Nat.le_of_ble_eq_true rfl) (Nat.le_of_ble_eq_true rfl) ?_
    rw [hpx]
    exact ⟨Or.inl ⟨rfl, hno⟩, hH⟩
  · skip
    obtain ⟨rfl, rg_3, hH⟩ := hp_1
    obtain ⟨k, hk, rfl⟩ := rg_of (n := 500) (by omega) ⟨Int32.le_trans (by decide) rg_3.1, rg_3.2⟩
    refine lv_aload_n hx hb dX6_pass_8 rfl (lv_at hl 0 rfl) ?_
    refine x_get C hH (ci := 7) (T := TX6) (N := 6) hX rfl iWX6 3 (by decide) qw_90 rfl rfl dX6_pass_9 ?_
    refine lv_iload_n hx hb dX6_pass_12 rfl (lv_at hl 1 rfl) ?_
    refine lv_iadd hx hb dX6_pass_13 ?_
    refine lv_re (nI_add _ _) ?_
    refine lv_sipush (v := nI 5000) hx hb dX6_pass_14 (by decide +kernel) ?_
    refine lv_icmp_le (tgt := 30) hx hb dX6_pass_17 (by decide) (fun c_4 => ?_) (fun c_4 => ?_)
    · skip
      replace c_4 := (nI_leI (by omega) (by omega)).mp c_4
      refine lv_aload_n hx hb dX6_pass_30 rfl (lv_at hl 0 rfl) ?_
      refine lv_dup hx hb dX6_pass_31 rfl ?_
      refine x_get C hH (ci := 7) (T := TX6) (N := 6) hX rfl iWX6 3 (by decide) qw_90 rfl rfl dX6_pass_32 ?_
      refine lv_iload_n hx hb dX6_pass_35 rfl (lv_at hl 1 rfl) ?_
      refine lv_iadd hx hb dX6_pass_36 ?_
      refine lv_re (nI_add _ _) ?_
      refine x_put C hH hS (ci := 7) (T := TX6) (N := 6) (fs' := [.ref (al (0, 1, 0)), .ref (al (0, 2, 0)), .ref (al (0, 3, 0)), .int (nI (nw + k)), .ref (al (0, 4, 0)), .ref (al (0, 5, 0))]) hX rfl iWX6 tyX6 tyX6_ok nmX6 3 (by decide) qw_90 rfl rfl rfl rfl (Nat.le_of_ble_eq_true rfl) rfl dX6_pass_37 (fun H locs hH hS => ?_)
      have hLF := xu_of (t := (0, 0, 0)) (e := .inr (7, [.ref (al (0, 1, 0)), .ref (al (0, 2, 0)), .ref (al (0, 3, 0)), .int (nI (nw + k)), .ref (al (0, 4, 0)), .ref (al (0, 5, 0))])) (by simp) hLF
      have hLP := xu_of (t := (0, 0, 0)) (e := .inr (7, [.ref (al (0, 1, 0)), .ref (al (0, 2, 0)), .ref (al (0, 3, 0)), .int (nI (nw + k)), .ref (al (0, 4, 0)), .ref (al (0, 5, 0))])) (by simp) hLP
      have hLA := xu_of (t := (0, 0, 0)) (e := .inr (7, [.ref (al (0, 1, 0)), .ref (al (0, 2, 0)), .ref (al (0, 3, 0)), .int (nI (nw + k)), .ref (al (0, 4, 0)), .ref (al (0, 5, 0))])) (by simp) hLA
      have hX : (xu w (0, 0, 0) (.inr (7, [.ref (al (0, 1, 0)), .ref (al (0, 2, 0)), .ref (al (0, 3, 0)), .int (nI (nw + k)), .ref (al (0, 4, 0)), .ref (al (0, 5, 0))]))) (0, 0, 0) = some (.inr (7, [.ref (al (0, 1, 0)), .ref (al (0, 2, 0)), .ref (al (0, 3, 0)), .int (nI (nw + k)), .ref (al (0, 4, 0)), .ref (al (0, 5, 0))])) := xu_self _ _ _
      refine lv_aload_n hx hb dX6_pass_40 rfl (lv_at hl 0 rfl) ?_
      refine x_get C hH (ci := 7) (T := TX6) (N := 6) hX rfl iWX6 3 (by decide) qw_90 rfl rfl dX6_pass_41 ?_
      rw [← hQ]
      refine vx_ret (x_reti C rfl hS (Nat.le_of_ble_eq_true rfl) (Nat.le_of_ble_eq_true rfl) dX6_pass_44 ?_)
      rw [hpost]
      exact ⟨k, rfl, rg_3, (by omega), rfl, PO_of hH (RM_now hR0 (nw + k)) (fun t ht => xu_ne (fun e => by rw [e] at ht; revert ht; simp))⟩
    · skip
      replace c_4 := mt (nI_leI (by omega) (by omega)).mpr c_4
      rw [← hQ]
      refine x_throw C het hfl at_ISE qw_200 qw_11 (List.mem_of_getElem? (i := 5) rfl) (by decide +kernel) hS hl.1 dX6_pass_20 dX6_pass_23 dX6_pass_24 dX6_pass_26 dX6_pass_29 (Nat.le_of_ble_eq_true rfl) (Nat.le_of_ble_eq_true rfl) (Nat.le_of_ble_eq_true rfl) (Nat.le_of_ble_eq_true rfl) (Nat.le_of_ble_eq_true rfl) (Nat.le_of_ble_eq_true rfl) (fun H1 ho => ?_)
      rw [hpx]
      exact ⟨Or.inr ⟨rfl, rg_3, by rw [nI_add]; exact mt (nI_leI (by omega) (by omega)).mp c_4⟩, hH.kept ho⟩

set_option maxHeartbeats 4000000 in
set_option maxRecDepth 100000 in
theorem c_right (l : Launch) (hfl : l.stackTraces = false) {E : xE} {base : Nat} {al : Tg → Nat} {w : Tg → Option va_E} {nf np na nw : Nat} {sg : Nat → Nat → Nat → Int32} {rc : Nat → Bool} (hR : RM E al w nf np na nw sg rc) (hI : INV nf np na nw sg rc) {x y k a b : Int32} : xMetX l yX6_right cX6_right 7 none ({ frames := 7, cells := 6, slots := 33, locals := 104 } : Room) E base [.ref (al (0, 0, 0)), .int x, .int y, .int k, .int a, .int b] (fun H => xH E base al w H) (fun r H => ∃ p f, p < np ∧ f < nf ∧ x = nI p ∧ y = nI f ∧ ((nI 1 ≤ k ∧ k ≤ nI 2) ∧ (nI 0 ≤ a ∧ a ≤ nI 5000) ∧ (a ≤ b ∧ b ≤ nI 5000)) ∧ r = none ∧ PO E base al w nf np na nw (u3 (u3 (u3 sg 4 p f k) 5 p f a) 6 p f b) rc H) (fun X H => ((X = "java/lang/IndexOutOfBoundsException" ∧ ¬ (inR x np ∧ inR y nf)) ∨ (X = "java/lang/IllegalArgumentException" ∧ (inR x np ∧ inR y nf) ∧ ¬ ((nI 1 ≤ k ∧ k ≤ nI 2) ∧ (nI 0 ≤ a ∧ a ≤ nI 5000) ∧ (a ≤ b ∧ b ≤ nI 5000)))) ∧ xH E base al w H) := by
  refine xMetX.of (by decide +kernel) "Dataroom" rfl (Nat.le_of_ble_eq_true rfl) ?_
  intro p9 e9 s m9 below meth c9 ls C het hP hS hl
  have hx := C.hx
  have hb := C.hb
  have hH := hP
  have hl : lv_has ls 7 [(0, .ref (al (0, 0, 0))), (1, .int x), (2, .int y), (3, .int k), (4, .int a), (5, .int b)] := hl
  obtain ⟨post, hpost⟩ : ∃ zz9 : Option Value → Heap → Prop, zz9 = (fun r H => ∃ p f, p < np ∧ f < nf ∧ x = nI p ∧ y = nI f ∧ ((nI 1 ≤ k ∧ k ≤ nI 2) ∧ (nI 0 ≤ a ∧ a ≤ nI 5000) ∧ (a ≤ b ∧ b ≤ nI 5000)) ∧ r = none ∧ PO E base al w nf np na nw (u3 (u3 (u3 sg 4 p f k) 5 p f a) 6 p f b) rc H) := ⟨_, rfl⟩
  obtain ⟨px, hpx⟩ : ∃ zz9 : String → Heap → Prop, zz9 = (fun X H => ((X = "java/lang/IndexOutOfBoundsException" ∧ ¬ (inR x np ∧ inR y nf)) ∨ (X = "java/lang/IllegalArgumentException" ∧ (inR x np ∧ inR y nf) ∧ ¬ ((nI 1 ≤ k ∧ k ≤ nI 2) ∧ (nI 0 ≤ a ∧ a ≤ nI 5000) ∧ (a ≤ b ∧ b ≤ nI 5000)))) ∧ xH E base al w H) := ⟨_, rfl⟩
  rw [← hpost, ← hpx]
  generalize hQ : (vx_MQ below (xQ base post) (xX base px) ([.ref (al (0, 0, 0)), .int x, .int y, .int k, .int a, .int b] : List Value).toArray s 6 33 (xA base)) = Q
  have hR0 := hR
  have hI0 := hI
  obtain ⟨hX, hF, hPl, hAl, hSh, hMk, hC, hPT, hAn⟩ := hR
  obtain ⟨mcF, aF, hLF⟩ := hF.sz
  obtain ⟨mcP, aP, hLP⟩ := hPl.sz
  obtain ⟨mcA, aA, hLA⟩ := hAl.sz
  obtain ⟨v16, v6, v150, vnow, vA, vS, vP, vK, vR⟩ := hI
  have hPT0 := hPT
  refine lv_aload_n hx hb dX6_right_0 rfl (lv_at hl 0 rfl) ?_
  refine lv_iload_n hx hb dX6_right_1 rfl (lv_at hl 1 rfl) ?_
  refine x_thrV C hH hS (ci := 7) (t := (0, 0, 0)) hX rfl rfl (c_pAt l hfl (E := E) (base := base) hR0 hI0 (x := x)) hH kX6_partyAt qw_420 (ws_p (List.mem_of_getElem? (i := 8) rfl) rfl) qw_418  rfl [] rfl hl.1 (Nat.le_of_ble_eq_true rfl) ⟨Nat.le_of_ble_eq_true rfl, Nat.le_of_ble_eq_true rfl⟩ dX6_right_2 ⟨Nat.le_of_ble_eq_true rfl, Nat.le_of_ble_eq_true rfl⟩ (fun X ce q9 H locs hp_1 hS hce hcv hcl => ?_) (fun r_2 H locs hp_1 hS => ?_)
  · skip
    obtain ⟨rfl, hno, hH⟩ := hp_1
    rw [← hQ]
    refine x_outX C het hS hce hcv hcl (Nat.le_of_ble_eq_true rfl) (Nat.le_of_ble_eq_true rfl) ?_
    rw [hpx]
    exact ⟨Or.inl ⟨rfl, fun q => hno q.1⟩, hH⟩
  · skip
    obtain ⟨p_3, hp_3, rfl, rfl, hH⟩ := hp_1
    refine lv_astore (lv' := [(6, .ref (al (2, p_3, 0))), (0, .ref (al (0, 0, 0))), (1, .int (nI p_3)), (2, .int y), (3, .int k), (4, .int a), (5, .int b)]) hx hb dX6_right_5 hl (by decide) rfl (fun ls hl => ?_)
    refine lv_aload_n hx hb dX6_right_7 rfl (lv_at hl 1 rfl) ?_
    refine lv_iload_n hx hb dX6_right_8 rfl (lv_at hl 3 rfl) ?_
    refine x_thrV C hH hS (ci := 7) (t := (0, 0, 0)) hX rfl rfl (c_rFile l hfl (E := E) (base := base) hR0 hI0 (x := y)) hH kX6_requireFile qw_304 (ws_p (List.mem_of_getElem? (i := 5) rfl) rfl) qw_302  rfl [] rfl hl.1 (Nat.le_of_ble_eq_true rfl) ⟨Nat.le_of_ble_eq_true rfl, Nat.le_of_ble_eq_true rfl⟩ dX6_right_9 ⟨Nat.le_of_ble_eq_true rfl, Nat.le_of_ble_eq_true rfl⟩ (fun X ce q9 H locs hp_4 hS hce hcv hcl => ?_) (fun r_5 H locs hp_4 hS => ?_)
    · skip
      obtain ⟨rfl, hno, hH⟩ := hp_4
      rw [← hQ]
      refine x_outX C het hS hce hcv hcl (Nat.le_of_ble_eq_true rfl) (Nat.le_of_ble_eq_true rfl) ?_
      rw [hpx]
      exact ⟨Or.inl ⟨rfl, fun q => hno q.2⟩, hH⟩
    · skip
      obtain ⟨rfl, ⟨f_6, hf_6, rfl⟩, hH⟩ := hp_4
      refine lv_iload_n hx hb dX6_right_12 rfl (lv_at hl 4 rfl) ?_
      refine lv_iconst (v := nI 1) hx hb dX6_right_13 (by decide +kernel) ?_
      refine lv_iconst (v := nI 2) hx hb dX6_right_14 (by decide +kernel) ?_
      refine x_thrS C hS (c_rRange l hfl (E := E) (base := base) (al := al) (w := w) (v := k) (lo := nI 1) (hi := nI 2)) hH kX6_requireRange qw_126 qw_125  rfl [] rfl hl.1 (Nat.le_of_ble_eq_true rfl) ⟨Nat.le_of_ble_eq_true rfl, Nat.le_of_ble_eq_true rfl⟩ dX6_right_15 ⟨Nat.le_of_ble_eq_true rfl, Nat.le_of_ble_eq_true rfl⟩ (fun X ce q9 H locs hp_7 hS hce hcv hcl => ?_) (fun r_8 H locs hp_7 hS => ?_)
      · skip
        obtain ⟨rfl, hno, hH⟩ := hp_7
        rw [← hQ]
        refine x_outX C het hS hce hcv hcl (Nat.le_of_ble_eq_true rfl) (Nat.le_of_ble_eq_true rfl) ?_
        rw [hpx]
        exact ⟨Or.inr ⟨rfl, ⟨⟨p_3, hp_3, rfl⟩, ⟨f_6, hf_6, rfl⟩⟩, fun q => hno q.1⟩, hH⟩
      · skip
        obtain ⟨rfl, rg_9, hH⟩ := hp_7
        refine lv_iload hx hb dX6_right_18 (lv_at hl 5 rfl) ?_
        refine lv_iconst (v := nI 0) hx hb dX6_right_20 (by decide +kernel) ?_
        refine lv_sipush (v := nI 5000) hx hb dX6_right_21 (by decide +kernel) ?_
        refine x_thrS C hS (c_rRange l hfl (E := E) (base := base) (al := al) (w := w) (v := a) (lo := nI 0) (hi := nI 5000)) hH kX6_requireRange qw_126 qw_125  rfl [] rfl hl.1 (Nat.le_of_ble_eq_true rfl) ⟨Nat.le_of_ble_eq_true rfl, Nat.le_of_ble_eq_true rfl⟩ dX6_right_24 ⟨Nat.le_of_ble_eq_true rfl, Nat.le_of_ble_eq_true rfl⟩ (fun X ce q9 H locs hp_10 hS hce hcv hcl => ?_) (fun r_11 H locs hp_10 hS => ?_)
        · skip
          obtain ⟨rfl, hno, hH⟩ := hp_10
          rw [← hQ]
          refine x_outX C het hS hce hcv hcl (Nat.le_of_ble_eq_true rfl) (Nat.le_of_ble_eq_true rfl) ?_
          rw [hpx]
          exact ⟨Or.inr ⟨rfl, ⟨⟨p_3, hp_3, rfl⟩, ⟨f_6, hf_6, rfl⟩⟩, fun q => hno q.2.1⟩, hH⟩
        · skip
          obtain ⟨rfl, rg_12, hH⟩ := hp_10
          refine lv_iload hx hb dX6_right_27 (lv_at hl 6 rfl) ?_
          refine lv_iload hx hb dX6_right_29 (lv_at hl 5 rfl) ?_
          refine lv_sipush (v := nI 5000) hx hb dX6_right_31 (by decide +kernel) ?_
          refine x_thrS C hS (c_rRange l hfl (E := E) (base := base) (al := al) (w := w) (v := b) (lo := a) (hi := nI 5000)) hH kX6_requireRange qw_126 qw_125  rfl [] rfl hl.1 (Nat.le_of_ble_eq_true rfl) ⟨Nat.le_of_ble_eq_true rfl, Nat.le_of_ble_eq_true rfl⟩ dX6_right_34 ⟨Nat.le_of_ble_eq_true rfl, Nat.le_of_ble_eq_true rfl⟩ (fun X ce q9 H locs hp_13 hS hce hcv hcl => ?_) (fun r_14 H locs hp_13 hS => ?_)
          · skip
            obtain ⟨rfl, hno, hH⟩ := hp_13
            rw [← hQ]
            refine x_outX C het hS hce hcv hcl (Nat.le_of_ble_eq_true rfl) (Nat.le_of_ble_eq_true rfl) ?_
            rw [hpx]
            exact ⟨Or.inr ⟨rfl, ⟨⟨p_3, hp_3, rfl⟩, ⟨f_6, hf_6, rfl⟩⟩, fun q => hno q.2.2⟩, hH⟩
          · skip
            obtain ⟨rfl, rg_15, hH⟩ := hp_13
            refine lv_aload hx hb dX6_right_37 (lv_at hl 0 rfl) ?_
            refine lv_iload_n hx hb dX6_right_39 rfl (lv_at hl 3 rfl) ?_
            refine x_new C hH hS (9, 9, 9) (ci := 6) (T := TX5) (N := 3) (fs := [.int 0, .int 0, .int 0]) rfl iWX5 tyX5 tyX5_ok qw_430 qw_431 qw_21 (fun j hj => by rcases (show j = 0 ∨ j = 1 ∨ j = 2 by omega) with rfl | rfl | rfl <;> rfl) (Nat.le_of_ble_eq_true rfl) (Nat.le_of_ble_eq_true rfl) dX6_right_40 (fun G16_ hH hS => ?_)
            obtain ⟨q_16, hq_16⟩ : ∃ zz9 : Nat, zz9 = xa al (9, 9, 9) H.size (9, 9, 9) := ⟨_, rfl⟩
            obtain ⟨alq_16, halq_16⟩ : ∃ zz9 : Tg → Nat, zz9 = xa al (9, 9, 9) H.size := ⟨_, rfl⟩
            rw [← halq_16] at hH
            rw [← hq_16]
            have ad_17 : alq_16 (0, 0, 0) = al (0, 0, 0) := by rw [halq_16, xa_ne (by simp)]
            have hX := xu_of (t := (9, 9, 9)) (e := .inr (6, [.int 0, .int 0, .int 0])) (by simp) hX
            have ad_18 : alq_16 (0, 1, 0) = al (0, 1, 0) := by rw [halq_16, xa_ne (by simp)]
            have hLF := xu_of (t := (9, 9, 9)) (e := .inr (6, [.int 0, .int 0, .int 0])) (by simp) hLF
            have ad_19 : alq_16 (0, 2, 0) = al (0, 2, 0) := by rw [halq_16, xa_ne (by simp)]
            have hLP := xu_of (t := (9, 9, 9)) (e := .inr (6, [.int 0, .int 0, .int 0])) (by simp) hLP
            have ad_20 : alq_16 (0, 3, 0) = al (0, 3, 0) := by rw [halq_16, xa_ne (by simp)]
            have hLA := xu_of (t := (9, 9, 9)) (e := .inr (6, [.int 0, .int 0, .int 0])) (by simp) hLA
            have ad_22 : alq_16 (9, 9, 9) = q_16 := by rw [halq_16, hq_16]
            have hn_21 : (xu w (9, 9, 9) (.inr (6, [.int 0, .int 0, .int 0]))) (9, 9, 9) = some (.inr (6, [.int 0, .int 0, .int 0])) := xu_self _ _ _
            refine lv_dup hx hb dX6_right_43 rfl ?_
            refine lv_iload_n hx hb dX6_right_44 rfl (lv_at hl 4 rfl) ?_
            refine lv_iload hx hb dX6_right_45 (lv_at hl 5 rfl) ?_
            refine lv_iload hx hb dX6_right_47 (lv_at hl 6 rfl) ?_
            refine lv_adr4 (ad_22).symm ?_
            refine x_callI C hS (c_Right l (E := E) (base := base) hn_21) hH kX5_init qw_433 rfl qw_432  rfl [.ref q_16, .int (nI f_6), .ref (al (2, p_3, 0))] rfl hl.1 (Nat.le_of_ble_eq_true rfl) ⟨Nat.le_of_ble_eq_true rfl, Nat.le_of_ble_eq_true rfl⟩ dX6_right_49 ⟨Nat.le_of_ble_eq_true rfl, Nat.le_of_ble_eq_true rfl⟩ (fun r_24 H locs hp_23 hS => ?_)
            obtain ⟨rfl, hH⟩ := hp_23
            rw [xu_uu] at hH
            have hp9 : PT E alq_16 (xu w (9, 9, 9) (.inr (6, [.int k, .int a, .int b]))) p_3 (sg 3 p_3 0) (sg 4 p_3) (sg 5 p_3) (sg 6 p_3) (sg 13 p_3) (KFs sg rc na p_3) (KCs sg rc na p_3) := (hPT0 p_3 hp_3).mv (fun t h1 h2 _ => xu_ne (fun e => by rw [e] at h2; revert h2; simp)) (fun t h1 h2 _ => by rw [halq_16]; exact xa_ne (fun e => by rw [e] at h2; revert h2; simp))
            have ad9 : al (2, p_3, 0) = alq_16 (2, p_3, 0) := by rw [halq_16]; exact (xa_ne (by simp)).symm
            refine lv_adr (ad_22).symm ?_
            refine lv_adr3 ad9 ?_
            refine x_callV C hH hS (ci := 5) (t := (2, p_3, 0)) hp9.1 rfl rfl (c_setRight l (E := E) (base := base) hp9 (f := f_6) (by omega) (xu_self w (9, 9, 9) _)) hH kX4_setRight qw_447 qw_448 qw_446  rfl [] rfl hl.1 (Nat.le_of_ble_eq_true rfl) ⟨Nat.le_of_ble_eq_true rfl, Nat.le_of_ble_eq_true rfl⟩ dX6_right_52 ⟨Nat.le_of_ble_eq_true rfl, Nat.le_of_ble_eq_true rfl⟩ (fun r_26 H locs hp_25 hS => ?_)
            obtain ⟨rfl, hH⟩ := hp_25
            subst halq_16
            rw [← hQ]
            refine vx_ret (x_retv C hS (Nat.le_of_ble_eq_true rfl) (Nat.le_of_ble_eq_true rfl) dX6_right_55 ?_)
            rw [hpost]
            exact ⟨p_3, f_6, hp_3, hf_6, rfl, rfl, ⟨rg_9, rg_12, rg_15⟩, rfl, x_rt hR0 hH hp_3 (fun e => absurd rg_9.1 (by rw [e]; decide))⟩
