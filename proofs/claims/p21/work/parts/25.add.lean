section XU
variable {p : Program} {l : Launch} {e : Env} {R : Room} {s : State} {m : MethodId} {args : Array Value} {below : List Frame} {meth : Method} {c : Code} {H : Heap} {locs : List Loc} {cells slots : Nat} {Q : State → Prop}
variable {cc : ByteArray} {pc nL : Nat} {ls : Array Slot} {rest : List Value} {own : String} {ret : Option FieldType} {E : xE} {base : Nat} {al : Tg → Nat} {w : Tg → Option va_E}
theorem x_getU (C : XC p s m args meth c own cc nL ret E base) (hH : xH E base al w H) {C' ref : String} {T : u_T} {N ci index : Nat} {t : Tg} {fs : List Value} (ht : w t = some (.inr (ci, fs))) (hc : vwCl[ci]? = some (C', T, N)) (hin : ∀ w ∈ u_ws C' T N, w ∈ WS) (k : Nat) (hk : k < N) (hlink : Cond.fieldLink own index ref (T k).2.1 (T k).2.2.1 ∈ WS) (hsame : Cond.sameField ref (T k).1 (T k).2.1 (T k).2.2.1 ∈ WS) {v : Value} (hv : fs[k]? = some v) (hdg : decode cc pc = .ok (.getfield index, 3))
    (kk : W p l e R s m args below meth c H locs cells slots Q (F0 m (pc + 3) ls (v :: rest))) : W p l e R s m args below meth c H locs cells slots Q (F0 m pc ls (.ref (al t) :: rest)) :=
  va_get C.hx C.hb C.ws hin C.hown C.st.K (hH.P ht) 0 rfl hc k hk (C.ws _ hlink) (fun x h => u_same (C.ws _ hsame) x h) hv hdg kk
theorem x_putU (C : XC p s m args meth c own cc nL ret E base) (hH : xH E base al w H) (hS0 : va_S (xA base) s.heap H locs) {C' ref : String} {T : u_T} {N ci index : Nat} {t : Tg} {fs : List Value} (ht : w t = some (.inr (ci, fs))) (hc : vwCl[ci]? = some (C', T, N)) (hin : ∀ w ∈ u_ws C' T N, w ∈ WS) (ty0 : Nat → FieldType) (hty : ∀ k, k < N → parseFieldDescriptor (T k).2.2.1 = some (ty0 k)) (hnm : ∀ a, a < N → ∀ b, b < N → a ≠ b → (T a).2.1 ≠ (T b).2.1) (k : Nat) (hk : k < N) (hlink : Cond.fieldLink own index ref (T k).2.1 (T k).2.2.1 ∈ WS) (hsame : Cond.sameField ref (T k).1 (T k).2.1 (T k).2.2.1 ∈ WS) (hfin : (T k).2.2.2 = false) {v : Value} (hn : narrow (ty0 k) v = v) (hfit : fits (ty0 k) v = true) (hl : k < fs.length) {fs' : List Value} (hfs : fs.set k v = fs')
    (hdg : decode cc pc = .ok (.putfield index, 3)) (kk : ∀ (H1 : Heap) (locs1 : List Loc), xH E base al (xu w t (.inr (ci, fs'))) H1 → va_S (xA base) s.heap H1 locs1 → W p l e R s m args below meth c H1 locs1 cells slots Q (F0 m (pc + 3) ls rest)) : W p l e R s m args below meth c H locs cells slots Q (F0 m pc ls (v :: .ref (al t) :: rest)) := by
  have hd := hty k hk
  subst hfs
  have hap := va_apart (own := own) C.ws hin ty0 hty hnm C.st.K hc
  obtain ⟨r, h1, cell, q1, q2, q3, q4⟩ := (hH.1 t _ ht).2
  have hr : r = (C', T, N) := Option.some.inj (h1.symm.trans hc)
  subst hr
  obtain ⟨hS, hfc, kC, hkC, hkind⟩ := C.st.K.1 ci _ hc
  obtain ⟨cf, kf, fi, f, hi, hsl⟩ := hS k hk
  have hlay := C.ws _ (hin _ (u_in_lay hk))
  unfold u_lay at hlay
  rw [if_neg (by rw [hfin]; decide)] at hlay
  have hst := (u_facts hfc hkC (u_lays C.ws hin hk) hi).1
  have h6 := u_store hfc hkC hkind hlay hi hd hn hfit
  refine W.putK C.hx C.hb (f := f) ⟨C.hown, C.ws _ hlink, ⟨_, _, _, u_same (C.ws _ hsame) _ hi⟩, hst⟩ (by rw [q2]; exact h6) q1 q3 (by rw [hsl]; exact k2_hasslot (q4 k hk)) rfl rfl hdg fun H' e1 e2 e3 => ?_
  rw [hsl] at e1 ⊢
  exact kk H' _ (hH.set ht ⟨_, hc, t_OB.to (V := updV (vp_V fs) k v) ⟨_, e1, q2, q3, t_set q4 hap hk v⟩ (fun j _ => vp_updV_set hl v j)⟩ e3) (hS0.put e2 e3 (hH.1 t _ ht).1)
end XU
/-- behind add: the list holds one more; other cells stay where and what they were -/
def ADP (E : xE) (base : Nat) (al : Tg → Nat) (w : Tg → Option va_E) (tL tA : Tg) (n : Nat) (te : Nat → Tg) (H : Heap) : Prop :=
  ∃ (al' : Tg → Nat) (w' : Tg → Option va_E), xH E base al' w' H ∧ LRa E al' w' tL tA n te ∧ (∀ t, t ≠ tL → t ≠ tA → t ≠ (9, 9, 9) → w' t = w t ∧ al' t = al t) ∧ al' tL = al tL
theorem adp_A {E : xE} {base : Nat} {al : Tg → Nat} {w : Tg → Option va_E} {H : Heap} {tL tA tv : Tg} {n cap : Nat} {g : Nat → Option Nat} {mc : Int32} {te : Nat → Tg} (hLA : tL ≠ tA) (h1 : n < cap) (h10 : 10 ≤ cap) (h2 : cap ≤ 240) (hg : ∀ i, i < n → g i = some (al (te i)))
    (hH : xH E base al (xu (xu w tA (.inl (E.2.1 5, cap, .inr (.inr (.inr (.inr (va_up g n (some (al tv)))))))) ) tL (.inr (0, [.int mc, .ref (al tA), .int (nI (n + 1))]))) H) : ADP E base al w tL tA (n + 1) (fun i => if i = n then tv else te i) H := by
  refine ⟨al, _, hH, ⟨mc, cap, _, h1, h10, h2, xu_self _ _ _, xu_of (Ne.symm hLA) (xu_self _ _ _), fun i hi => ?_⟩, fun t h3 h4 _ => ⟨by rw [xu_ne h3, xu_ne h4], rfl⟩, rfl⟩
  show va_up g n (some (al tv)) i = some (al (if i = n then tv else te i))
  by_cases e : i = n
  · subst e; rw [va_up_self, if_pos rfl]
  · rw [va_up_ne _ _ e, if_neg e]; exact hg i (by omega)
theorem adp_E {E : xE} {base : Nat} {al : Tg → Nat} {w : Tg → Option va_E} {H : Heap} {tL tA tv : Tg} {mc : Int32} {q : Nat} {te : Nat → Tg} (hLA : tL ≠ tA) (hvA : tv ≠ tA)
    (hH : xH E base (xa al tA q) (xu (xu (xu (xu w tA (.inl (E.2.1 5, 10, .inr (.inr (.inr (.inr (fun _ => none))))))) tL (.inr (0, [.int mc, .ref q, .int (nI 0)]))) tA (.inl (E.2.1 5, 10, .inr (.inr (.inr (.inr (va_up (fun _ => none) 0 (some (xa al tA q tv))))))))) tL (.inr (0, [.int mc, .ref q, .int (nI (0 + 1))]))) H) : ADP E base al w tL tA (0 + 1) (fun i => if i = 0 then tv else te i) H := by
  refine ⟨_, _, hH, ⟨mc, 10, _, by omega, by omega, by omega, by rw [xa_self]; exact xu_self _ _ _, xu_of (Ne.symm hLA) (xu_self _ _ _), fun i hi => ?_⟩, fun t h3 h4 _ => ⟨by rw [xu_ne h3, xu_ne h4, xu_ne h3, xu_ne h4], xa_ne h4⟩, xa_ne hLA⟩
  have e : i = 0 := by omega
  subst e
  show va_up (fun _ => none) 0 (some (xa al tA q tv)) 0 = some (xa al tA q tv)
  rw [va_up_self]
theorem adp_B {E : xE} {base : Nat} {al : Tg → Nat} {w : Tg → Option va_E} {H : Heap} {tL tA tv : Tg} {n q : Nat} {g : Nat → Option Nat} {mc : Int32} {te : Nat → Tg} (hLA : tL ≠ tA) (hL9 : tL ≠ (9, 9, 9)) (hA9 : tA ≠ (9, 9, 9)) (h1 : 10 ≤ n) (h2 : n ≤ 160) (hg : ∀ i, i < n → g i = some (al (te i))) (hte : ∀ i, i < n → te i ≠ tL ∧ te i ≠ tA ∧ te i ≠ (9, 9, 9)) (hvA : tv ≠ tA) (hv9 : tv ≠ (9, 9, 9))
    (hH : xH E base (xa (xa al (9, 9, 9) q) tA q) (xu (xu (xu (xmv (xu w (9, 9, 9) (.inl (E.2.1 5, n + n / 2, .inr (.inr (.inr (.inr (fun i => if i < n then g i else none))))))) tA (9, 9, 9)) tL (.inr (0, [.int mc, .ref q, .int (nI n)]))) tA (.inl (E.2.1 5, n + n / 2, .inr (.inr (.inr (.inr (va_up (fun i => if i < n then g i else none) n (some (xa (xa al (9, 9, 9) q) tA q tv))))))))) tL (.inr (0, [.int mc, .ref q, .int (nI (n + 1))]))) H) : ADP E base al w tL tA (n + 1) (fun i => if i = n then tv else te i) H := by
  have ea : ∀ t, t ≠ tA → t ≠ (9, 9, 9) → xa (xa al (9, 9, 9) q) tA q t = al t := fun t a b => by rw [xa_ne a, xa_ne b]
  refine ⟨_, _, hH, ⟨mc, n + n / 2, _, by omega, by omega, by omega, by rw [xa_self]; exact xu_self _ _ _, xu_of (Ne.symm hLA) (xu_self _ _ _), fun i hi => ?_⟩, fun t h3 h4 h5 => ⟨?_, ea t h4 h5⟩, ea tL hLA hL9⟩
  · show va_up (fun i => if i < n then g i else none) n (some (xa (xa al (9, 9, 9) q) tA q tv)) i = some (xa (xa al (9, 9, 9) q) tA q (if i = n then tv else te i))
    by_cases e : i = n
    · subst e; rw [va_up_self, if_pos rfl]
    · rw [va_up_ne _ _ e, if_neg e, if_pos (by omega : i < n), hg i (by omega)]
      rw [ea _ (hte i (by omega)).2.1 (hte i (by omega)).2.2]
  · rw [xu_ne h3, xu_ne h4, xu_ne h3]
    unfold xmv
    rw [if_neg h4, if_neg h5, xu_ne h5]
theorem adp_mc {E : xE} {base : Nat} {al : Tg → Nat} {w : Tg → Option va_E} {H : Heap} {tL tA : Tg} {n : Nat} {te : Nat → Tg} {v : va_E} (h : ADP E base al (xu w tL v) tL tA n te H) : ADP E base al w tL tA n te H := by
  obtain ⟨al', w', a, b, c, d⟩ := h
  exact ⟨al', w', a, b, fun t h1 h2 h3 => ⟨by rw [(c t h1 h2 h3).1, xu_ne h1], (c t h1 h2 h3).2⟩, d⟩
set_option maxHeartbeats 4000000 in
set_option maxRecDepth 100000 in
theorem c_add3A (l : Launch) {E : xE} {base : Nat} {al : Tg → Nat} {w : Tg → Option va_E} {tL tA : Tg} {n cap : Nat} {g : Nat → Option Nat} {mc : Int32} (hL : w tL = some (.inr (0, [.int mc, .ref (al tA), .int (nI n)]))) (hLA : tL ≠ tA) (hA : w tA = some (.inl (E.2.1 5, cap, .inr (.inr (.inr (.inr g)))))) (h1 : n < cap) (h10 : 10 ≤ cap) (h2 : cap ≤ 240) {ci : Nat} {r : vw_C} (hc : vwCl[ci]? = some r) (hca : Cond.castable r.1 "java/lang/Object" ∈ NB) {tv : Tg} {vs : List Value} (hv : w tv = some (.inr (ci, vs))) {te : Nat → Tg} (hg : ∀ i, i < n → g i = some (al (te i))) (hte : ∀ i, i < n → (te i ≠ tL ∧ te i ≠ tA ∧ te i ≠ (9, 9, 9)) ∧ ∃ vs, w (te i) = some (.inr (ci, vs))) (hvL : tv ≠ tL) (hvA : tv ≠ tA) (hv9 : tv ≠ (9, 9, 9))  : xMet l yJx4a65c_add_72be8 cJx4a65c_add_72be8 4 none ({ frames := 5, cells := 1, slots := 360, locals := 147 } : Room) E base [.ref (al tL), .ref (al tv), .ref (al tA), .int (nI n)] (fun H => xH E base al w H) (fun r H => r = none ∧ ADP E base al w tL tA (n + 1) (fun i => if i = n then tv else te i) H) := by
  refine xMet.of (by decide +kernel) "java/util/ArrayList" rfl (Nat.le_of_ble_eq_true rfl) ?_
  intro p9 e9 s m9 below meth c9 ls C hin hP hS hl
  have hx := C.hx
  have hb := C.hb
  have hH := hP
  have hl : lv_has ls 4 [(0, .ref (al tL)), (1, .ref (al tv)), (2, .ref (al tA)), (3, .int (nI n))] := hl
  obtain ⟨post, hpost⟩ : ∃ zz9 : Option Value → Heap → Prop, zz9 = (fun r H => r = none ∧ ADP E base al w tL tA (n + 1) (fun i => if i = n then tv else te i) H) := ⟨_, rfl⟩
  rw [← hpost]
  generalize hQ : (MQ below (xQ base post) ([.ref (al tL), .ref (al tv), .ref (al tA), .int (nI n)] : List Value).toArray s 1 360 (xA base)) = Q
  refine lv_iload_n hx hb dJx4a65c_add_72be8_0 rfl (lv_at hl 3 rfl) ?_
  refine lv_aload_n hx hb dJx4a65c_add_72be8_1 rfl (lv_at hl 2 rfl) ?_
  refine x_alen (v := nI cap) C hH 5 rfl hA rfl dJx4a65c_add_72be8_2 ?_
  refine lv_icmp_ne (tgt := 11) hx hb dJx4a65c_add_72be8_3 (by decide) (fun c_1 => ?_) (fun c_1 => ?_)
  · skip
    replace c_1 := mt (nI_eq (by omega) (by omega)).mpr c_1
    refine lv_aload_n hx hb dJx4a65c_add_72be8_11 rfl (lv_at hl 2 rfl) ?_
    refine lv_iload_n hx hb dJx4a65c_add_72be8_12 rfl (lv_at hl 3 rfl) ?_
    refine lv_aload_n hx hb dJx4a65c_add_72be8_13 rfl (lv_at hl 1 rfl) ?_
    refine x_astqO C hH hS (ci := ci) hA hv hc hca (j := n) rfl (by omega) (by omega) dJx4a65c_add_72be8_14 (fun H locs hH hS => ?_)
    have hL := xu_of (t := tA) (e := .inl (E.2.1 5, cap, .inr (.inr (.inr (.inr (va_up g n (some (al tv)))))))) hLA hL
    have hA : (xu w tA (.inl (E.2.1 5, cap, .inr (.inr (.inr (.inr (va_up g n (some (al tv))))))))) tA = some (.inl (E.2.1 5, cap, .inr (.inr (.inr (.inr (va_up g n (some (al tv)))))))) := xu_self _ _ _
    refine lv_aload_n hx hb dJx4a65c_add_72be8_15 rfl (lv_at hl 0 rfl) ?_
    refine lv_iload_n hx hb dJx4a65c_add_72be8_16 rfl (lv_at hl 3 rfl) ?_
    refine lv_iconst (v := nI 1) hx hb dJx4a65c_add_72be8_17 (by decide +kernel) ?_
    refine lv_iadd hx hb dJx4a65c_add_72be8_18 ?_
    refine lv_re (nI_add _ _) ?_
    refine x_put C hH hS (ci := 0) (T := TJx4a65c) (N := 3) (fs' := [.int mc, .ref (al tA), .int (nI (n + 1))]) hL rfl iWJx4a65c tyJx4a65c tyJx4a65c_ok nmJx4a65c 2 (by decide) qw_47 rfl rfl rfl rfl (Nat.le_of_ble_eq_true rfl) rfl dJx4a65c_add_72be8_19 (fun H locs hH hS => ?_)
    have hA := xu_of (t := tL) (e := .inr (0, [.int mc, .ref (al tA), .int (nI (n + 1))])) (Ne.symm hLA) hA
    have hL : (xu (xu w tA (.inl (E.2.1 5, cap, .inr (.inr (.inr (.inr (va_up g n (some (al tv))))))))) tL (.inr (0, [.int mc, .ref (al tA), .int (nI (n + 1))]))) tL = some (.inr (0, [.int mc, .ref (al tA), .int (nI (n + 1))])) := xu_self _ _ _
    rw [← hQ]
    refine x_retv C hS (Nat.le_of_ble_eq_true rfl) (Nat.le_of_ble_eq_true rfl) dJx4a65c_add_72be8_22 ?_
    rw [hpost]
    exact ⟨rfl, adp_A hLA h1 h10 h2 hg hH⟩
  · skip
    replace c_1 := (nI_eq (by omega) (by omega)).mp c_1
    exfalso; omega

set_option maxHeartbeats 4000000 in
set_option maxRecDepth 100000 in
theorem c_add3B (l : Launch) {E : xE} {base : Nat} {al : Tg → Nat} {w : Tg → Option va_E} {tL tA : Tg} {n : Nat} {g : Nat → Option Nat} {mc : Int32} (hL : w tL = some (.inr (0, [.int mc, .ref (al tA), .int (nI n)]))) (hLA : tL ≠ tA) (hL9 : tL ≠ (9, 9, 9)) (hA : w tA = some (.inl (E.2.1 5, n, .inr (.inr (.inr (.inr g)))))) (h1 : 10 ≤ n) (h2 : n ≤ 160) (hne : tA ≠ (9, 9, 9)) {ci : Nat} {r : vw_C} (hc : vwCl[ci]? = some r) (hca : Cond.castable r.1 "java/lang/Object" ∈ NB) {tv : Tg} {vs : List Value} (hv : w tv = some (.inr (ci, vs))) {te : Nat → Tg} (hg : ∀ i, i < n → g i = some (al (te i))) (hte : ∀ i, i < n → (te i ≠ tL ∧ te i ≠ tA ∧ te i ≠ (9, 9, 9)) ∧ ∃ vs, w (te i) = some (.inr (ci, vs))) (hvL : tv ≠ tL) (hvA : tv ≠ tA) (hv9 : tv ≠ (9, 9, 9))  : xMet l yJx4a65c_add_72be8 cJx4a65c_add_72be8 4 none ({ frames := 5, cells := 1, slots := 360, locals := 147 } : Room) E base [.ref (al tL), .ref (al tv), .ref (al tA), .int (nI n)] (fun H => xH E base al w H) (fun r H => r = none ∧ ADP E base al w tL tA (n + 1) (fun i => if i = n then tv else te i) H) := by
  refine xMet.of (by decide +kernel) "java/util/ArrayList" rfl (Nat.le_of_ble_eq_true rfl) ?_
  intro p9 e9 s m9 below meth c9 ls C hin hP hS hl
  have hx := C.hx
  have hb := C.hb
  have hH := hP
  have hl : lv_has ls 4 [(0, .ref (al tL)), (1, .ref (al tv)), (2, .ref (al tA)), (3, .int (nI n))] := hl
  obtain ⟨post, hpost⟩ : ∃ zz9 : Option Value → Heap → Prop, zz9 = (fun r H => r = none ∧ ADP E base al w tL tA (n + 1) (fun i => if i = n then tv else te i) H) := ⟨_, rfl⟩
  rw [← hpost]
  generalize hQ : (MQ below (xQ base post) ([.ref (al tL), .ref (al tv), .ref (al tA), .int (nI n)] : List Value).toArray s 1 360 (xA base)) = Q
  have h240 : n ≤ 240 := by omega
  refine lv_iload_n hx hb dJx4a65c_add_72be8_0 rfl (lv_at hl 3 rfl) ?_
  refine lv_aload_n hx hb dJx4a65c_add_72be8_1 rfl (lv_at hl 2 rfl) ?_
  refine x_alen (v := nI n) C hH 5 rfl hA rfl dJx4a65c_add_72be8_2 ?_
  refine lv_icmp_ne (tgt := 11) hx hb dJx4a65c_add_72be8_3 (by decide) (fun c_1 => ?_) (fun c_1 => ?_)
  · skip
    replace c_1 := mt (nI_eq (by omega) (by omega)).mpr c_1
    exact absurd rfl c_1
  · skip
    replace c_1 := (nI_eq (by omega) (by omega)).mp c_1
    refine lv_aload_n hx hb dJx4a65c_add_72be8_6 rfl (lv_at hl 0 rfl) ?_
    refine x_callV C hH hS (ci := 0) (t := tL) hL rfl rfl (c_grow l (E := E) (base := base) hL hLA hL9 hA h1 h240 hne hc hca (fun i hi y hy => ⟨te i, (hte i hi).2.choose, (hte i hi).1.2.2, Option.some.inj ((hg i hi).symm.trans hy), (hte i hi).2.choose_spec⟩)) hH kJx4a65c_grow_d5877 qw_241 (ws_p (List.mem_of_getElem? (i := 2) rfl) rfl) qw_239  rfl [] rfl hl.1 (Nat.le_of_ble_eq_true rfl) ⟨Nat.le_of_ble_eq_true rfl, Nat.le_of_ble_eq_true rfl⟩ dJx4a65c_add_72be8_7 ⟨Nat.le_of_ble_eq_true rfl, Nat.le_of_ble_eq_true rfl⟩ (fun r_3 H locs hp_2 hS => ?_)
    obtain ⟨q, rfl, hH⟩ := hp_2
    have k1 : (xu (xmv (xu w (9, 9, 9) (.inl (E.2.1 5, n + n / 2, .inr (.inr (.inr (.inr (fun i => if i < n then g i else none))))))) tA (9, 9, 9)) tL (.inr (0, [.int mc, .ref q, .int (nI n)]))) tL = some (.inr (0, [.int mc, .ref q, .int (nI n)])) := xu_self _ _ _
    have k2 : (xu (xmv (xu w (9, 9, 9) (.inl (E.2.1 5, n + n / 2, .inr (.inr (.inr (.inr (fun i => if i < n then g i else none))))))) tA (9, 9, 9)) tL (.inr (0, [.int mc, .ref q, .int (nI n)]))) tA = some (.inl (E.2.1 5, n + n / 2, .inr (.inr (.inr (.inr (fun i => if i < n then g i else none)))))) := by rw [xu_ne (Ne.symm hLA)]; unfold xmv; rw [if_pos rfl, xu_self]
    have k3 : (xu (xmv (xu w (9, 9, 9) (.inl (E.2.1 5, n + n / 2, .inr (.inr (.inr (.inr (fun i => if i < n then g i else none))))))) tA (9, 9, 9)) tL (.inr (0, [.int mc, .ref q, .int (nI n)]))) tv = some (.inr (ci, vs)) := by rw [xu_ne hvL]; unfold xmv; rw [if_neg hvA, if_neg hv9, xu_ne hv9]; exact hv
    have e1 : (xa (xa al (9, 9, 9) q) tA q) tL = al tL := by rw [xa_ne hLA, xa_ne hL9]
    have e2 : (xa (xa al (9, 9, 9) q) tA q) tA = q := xa_self _ _ _
    have e3 : (xa (xa al (9, 9, 9) q) tA q) tv = al tv := by rw [xa_ne hvA, xa_ne hv9]
    refine lv_astore_n (lv' := [(2, .ref q), (0, .ref (al tL)), (1, .ref (al tv)), (3, .int (nI n))]) hx hb dJx4a65c_add_72be8_10 rfl hl (by decide) rfl (fun ls hl => ?_)
    refine lv_aload_n hx hb dJx4a65c_add_72be8_11 rfl (lv_at hl 0 rfl) ?_
    refine lv_iload_n hx hb dJx4a65c_add_72be8_12 rfl (lv_at hl 3 rfl) ?_
    refine lv_aload_n hx hb dJx4a65c_add_72be8_13 rfl (lv_at hl 2 rfl) ?_
    refine lv_adr3 e2.symm ?_
    refine lv_adr e3.symm ?_
    refine x_astqO C hH hS (ci := ci) k2 k3 hc hca (j := n) rfl (by omega) (by omega) dJx4a65c_add_72be8_14 (fun H locs hH hS => ?_)
    have k1 := xu_of (t := tA) (e := .inl (E.2.1 5, n + n / 2, .inr (.inr (.inr (.inr (va_up (fun i => if i < n then g i else none) n (some ((xa (xa al (9, 9, 9) q) tA q) tv)))))))) hLA k1
    have k2 : (xu (xu (xmv (xu w (9, 9, 9) (.inl (E.2.1 5, n + n / 2, .inr (.inr (.inr (.inr (fun i => if i < n then g i else none))))))) tA (9, 9, 9)) tL (.inr (0, [.int mc, .ref q, .int (nI n)]))) tA (.inl (E.2.1 5, n + n / 2, .inr (.inr (.inr (.inr (va_up (fun i => if i < n then g i else none) n (some ((xa (xa al (9, 9, 9) q) tA q) tv))))))))) tA = some (.inl (E.2.1 5, n + n / 2, .inr (.inr (.inr (.inr (va_up (fun i => if i < n then g i else none) n (some ((xa (xa al (9, 9, 9) q) tA q) tv)))))))) := xu_self _ _ _
    refine lv_aload_n hx hb dJx4a65c_add_72be8_15 rfl (lv_at hl 1 rfl) ?_
    refine lv_iload_n hx hb dJx4a65c_add_72be8_16 rfl (lv_at hl 3 rfl) ?_
    refine lv_iconst (v := nI 1) hx hb dJx4a65c_add_72be8_17 (by decide +kernel) ?_
    refine lv_iadd hx hb dJx4a65c_add_72be8_18 ?_
    refine lv_re (nI_add _ _) ?_
    refine lv_adr2 e1.symm ?_
    refine x_put C hH hS (ci := 0) (T := TJx4a65c) (N := 3) (fs' := [.int mc, .ref q, .int (nI (n + 1))]) k1 rfl iWJx4a65c tyJx4a65c tyJx4a65c_ok nmJx4a65c 2 (by decide) qw_47 rfl rfl rfl rfl (Nat.le_of_ble_eq_true rfl) rfl dJx4a65c_add_72be8_19 (fun H locs hH hS => ?_)
    have k2 := xu_of (t := tL) (e := .inr (0, [.int mc, .ref q, .int (nI (n + 1))])) (Ne.symm hLA) k2
    have k1 : (xu (xu (xu (xmv (xu w (9, 9, 9) (.inl (E.2.1 5, n + n / 2, .inr (.inr (.inr (.inr (fun i => if i < n then g i else none))))))) tA (9, 9, 9)) tL (.inr (0, [.int mc, .ref q, .int (nI n)]))) tA (.inl (E.2.1 5, n + n / 2, .inr (.inr (.inr (.inr (va_up (fun i => if i < n then g i else none) n (some ((xa (xa al (9, 9, 9) q) tA q) tv))))))))) tL (.inr (0, [.int mc, .ref q, .int (nI (n + 1))]))) tL = some (.inr (0, [.int mc, .ref q, .int (nI (n + 1))])) := xu_self _ _ _
    rw [← hQ]
    refine x_retv C hS (Nat.le_of_ble_eq_true rfl) (Nat.le_of_ble_eq_true rfl) dJx4a65c_add_72be8_22 ?_
    rw [hpost]
    exact ⟨rfl, adp_B hLA hL9 hne h1 h2 hg (fun i hi => (hte i hi).1) hvA hv9 hH⟩

set_option maxHeartbeats 4000000 in
set_option maxRecDepth 100000 in
theorem c_add3E (l : Launch) {E : xE} {base : Nat} {al : Tg → Nat} {w : Tg → Option va_E} {tL tA : Tg} {mc : Int32} (hL : w tL = some (.inr (0, [.int mc, .ref (E.2.2 1), .int (nI 0)]))) (hLA : tL ≠ tA) {ci : Nat} {r : vw_C} (hc : vwCl[ci]? = some r) (hca : Cond.castable r.1 "java/lang/Object" ∈ NB) {tv : Tg} {vs : List Value} (hv : w tv = some (.inr (ci, vs))) (hvL : tv ≠ tL) (hvA : tv ≠ tA) (hv9 : tv ≠ (9, 9, 9)) {te : Nat → Tg}  : xMet l yJx4a65c_add_72be8 cJx4a65c_add_72be8 4 none ({ frames := 5, cells := 1, slots := 360, locals := 147 } : Room) E base [.ref (al tL), .ref (al tv), .ref (E.2.2 1), .int (nI 0)] (fun H => xH E base al w H) (fun r H => r = none ∧ ADP E base al w tL tA (0 + 1) (fun i => if i = 0 then tv else te i) H) := by
  refine xMet.of (by decide +kernel) "java/util/ArrayList" rfl (Nat.le_of_ble_eq_true rfl) ?_
  intro p9 e9 s m9 below meth c9 ls C hin hP hS hl
  have hx := C.hx
  have hb := C.hb
  have hH := hP
  have hl : lv_has ls 4 [(0, .ref (al tL)), (1, .ref (al tv)), (2, .ref (E.2.2 1)), (3, .int (nI 0))] := hl
  obtain ⟨post, hpost⟩ : ∃ zz9 : Option Value → Heap → Prop, zz9 = (fun r H => r = none ∧ ADP E base al w tL tA (0 + 1) (fun i => if i = 0 then tv else te i) H) := ⟨_, rfl⟩
  rw [← hpost]
  generalize hQ : (MQ below (xQ base post) ([.ref (al tL), .ref (al tv), .ref (E.2.2 1), .int (nI 0)] : List Value).toArray s 1 360 (xA base)) = Q
  refine lv_iload_n hx hb dJx4a65c_add_72be8_0 rfl (lv_at hl 3 rfl) ?_
  refine lv_aload_n hx hb dJx4a65c_add_72be8_1 rfl (lv_at hl 2 rfl) ?_
  refine x_lenE C hS dJx4a65c_add_72be8_2 ?_
  refine lv_icmp_ne (tgt := 11) hx hb dJx4a65c_add_72be8_3 (by decide) (fun c_1 => absurd c_1 (by decide +kernel)) (fun c_1 => ?_)
  clear c_1
  refine lv_aload_n hx hb dJx4a65c_add_72be8_6 rfl (lv_at hl 0 rfl) ?_
  refine x_callV C hH hS (ci := 0) (t := tL) hL rfl rfl (c_growE l (E := E) (base := base) hL hLA) hH kJx4a65c_grow_d5877 qw_241 (ws_p (List.mem_of_getElem? (i := 2) rfl) rfl) qw_239  rfl [] rfl hl.1 (Nat.le_of_ble_eq_true rfl) ⟨Nat.le_of_ble_eq_true rfl, Nat.le_of_ble_eq_true rfl⟩ dJx4a65c_add_72be8_7 ⟨Nat.le_of_ble_eq_true rfl, Nat.le_of_ble_eq_true rfl⟩ (fun r_3 H locs hp_2 hS => ?_)
  obtain ⟨q, rfl, hH⟩ := hp_2
  have k1 : (xu (xu w tA (.inl (E.2.1 5, 10, .inr (.inr (.inr (.inr (fun _ => none))))))) tL (.inr (0, [.int mc, .ref q, .int (nI 0)]))) tL = some (.inr (0, [.int mc, .ref q, .int (nI 0)])) := xu_self _ _ _
  have k2 : (xu (xu w tA (.inl (E.2.1 5, 10, .inr (.inr (.inr (.inr (fun _ => none))))))) tL (.inr (0, [.int mc, .ref q, .int (nI 0)]))) tA = some (.inl (E.2.1 5, 10, .inr (.inr (.inr (.inr (fun _ => none)))))) := by rw [xu_ne (Ne.symm hLA), xu_self]
  have k3 : (xu (xu w tA (.inl (E.2.1 5, 10, .inr (.inr (.inr (.inr (fun _ => none))))))) tL (.inr (0, [.int mc, .ref q, .int (nI 0)]))) tv = some (.inr (ci, vs)) := by rw [xu_ne hvL, xu_ne hvA]; exact hv
  have e1 : (xa al tA q) tL = al tL := xa_ne hLA
  have e2 : (xa al tA q) tA = q := xa_self _ _ _
  have e3 : (xa al tA q) tv = al tv := xa_ne hvA
  refine lv_astore_n (lv' := [(2, .ref q), (0, .ref (al tL)), (1, .ref (al tv)), (3, .int (nI 0))]) hx hb dJx4a65c_add_72be8_10 rfl hl (by decide) rfl (fun ls hl => ?_)
  refine lv_aload_n hx hb dJx4a65c_add_72be8_11 rfl (lv_at hl 0 rfl) ?_
  refine lv_iload_n hx hb dJx4a65c_add_72be8_12 rfl (lv_at hl 3 rfl) ?_
  refine lv_aload_n hx hb dJx4a65c_add_72be8_13 rfl (lv_at hl 2 rfl) ?_
  refine lv_adr3 e2.symm ?_
  refine lv_adr e3.symm ?_
  refine x_astqO C hH hS (ci := ci) k2 k3 hc hca (j := 0) rfl (by omega) (by omega) dJx4a65c_add_72be8_14 (fun H locs hH hS => ?_)
  have k1 := xu_of (t := tA) (e := .inl (E.2.1 5, 10, .inr (.inr (.inr (.inr (va_up (fun _ => none) 0 (some ((xa al tA q) tv)))))))) hLA k1
  have k2 : (xu (xu (xu w tA (.inl (E.2.1 5, 10, .inr (.inr (.inr (.inr (fun _ => none))))))) tL (.inr (0, [.int mc, .ref q, .int (nI 0)]))) tA (.inl (E.2.1 5, 10, .inr (.inr (.inr (.inr (va_up (fun _ => none) 0 (some ((xa al tA q) tv))))))))) tA = some (.inl (E.2.1 5, 10, .inr (.inr (.inr (.inr (va_up (fun _ => none) 0 (some ((xa al tA q) tv)))))))) := xu_self _ _ _
  refine lv_aload_n hx hb dJx4a65c_add_72be8_15 rfl (lv_at hl 1 rfl) ?_
  refine lv_iload_n hx hb dJx4a65c_add_72be8_16 rfl (lv_at hl 3 rfl) ?_
  refine lv_iconst (v := nI 1) hx hb dJx4a65c_add_72be8_17 (by decide +kernel) ?_
  refine lv_iadd hx hb dJx4a65c_add_72be8_18 ?_
  refine lv_re (y := nI 1) (by decide +kernel) ?_
  refine lv_adr2 e1.symm ?_
  refine x_put C hH hS (ci := 0) (T := TJx4a65c) (N := 3) (fs' := [.int mc, .ref q, .int (nI 1)]) k1 rfl iWJx4a65c tyJx4a65c tyJx4a65c_ok nmJx4a65c 2 (by decide) qw_47 rfl rfl rfl rfl (Nat.le_of_ble_eq_true rfl) rfl dJx4a65c_add_72be8_19 (fun H locs hH hS => ?_)
  have k2 := xu_of (t := tL) (e := .inr (0, [.int mc, .ref q, .int (nI 1)])) (Ne.symm hLA) k2
  have k1 : (xu (xu (xu (xu w tA (.inl (E.2.1 5, 10, .inr (.inr (.inr (.inr (fun _ => none))))))) tL (.inr (0, [.int mc, .ref q, .int (nI 0)]))) tA (.inl (E.2.1 5, 10, .inr (.inr (.inr (.inr (va_up (fun _ => none) 0 (some ((xa al tA q) tv))))))))) tL (.inr (0, [.int mc, .ref q, .int (nI 1)]))) tL = some (.inr (0, [.int mc, .ref q, .int (nI 1)])) := xu_self _ _ _
  rw [← hQ]
  refine x_retv C hS (Nat.le_of_ble_eq_true rfl) (Nat.le_of_ble_eq_true rfl) dJx4a65c_add_72be8_22 ?_
  rw [hpost]
  exact ⟨rfl, adp_E hLA hvA hH⟩

set_option maxHeartbeats 4000000 in
set_option maxRecDepth 100000 in
theorem c_addA (l : Launch) {E : xE} {base : Nat} {al : Tg → Nat} {w : Tg → Option va_E} {tL tA : Tg} {n cap : Nat} {g : Nat → Option Nat} {mc : Int32} (hL : w tL = some (.inr (0, [.int mc, .ref (al tA), .int (nI n)]))) (hLA : tL ≠ tA) (hA : w tA = some (.inl (E.2.1 5, cap, .inr (.inr (.inr (.inr g)))))) (h1 : n < cap) (h10 : 10 ≤ cap) (h2 : cap ≤ 240) {ci : Nat} {r : vw_C} (hc : vwCl[ci]? = some r) (hca : Cond.castable r.1 "java/lang/Object" ∈ NB) {tv : Tg} {vs : List Value} (hv : w tv = some (.inr (ci, vs))) {te : Nat → Tg} (hg : ∀ i, i < n → g i = some (al (te i))) (hte : ∀ i, i < n → (te i ≠ tL ∧ te i ≠ tA ∧ te i ≠ (9, 9, 9)) ∧ ∃ vs, w (te i) = some (.inr (ci, vs))) (hvL : tv ≠ tL) (hvA : tv ≠ tA) (hv9 : tv ≠ (9, 9, 9))  : xMet l yJx4a65c_add_9ea2d cJx4a65c_add_9ea2d 2 (some (.boolean)) ({ frames := 6, cells := 1, slots := 360, locals := 170 } : Room) E base [.ref (al tL), .ref (al tv)] (fun H => xH E base al w H) (fun r H => r = some (.int (nI 1)) ∧ ADP E base al w tL tA (n + 1) (fun i => if i = n then tv else te i) H) := by
  refine xMet.of (by decide +kernel) "java/util/ArrayList" rfl (Nat.le_of_ble_eq_true rfl) ?_
  intro p9 e9 s m9 below meth c9 ls C hin hP hS hl
  have hx := C.hx
  have hb := C.hb
  have hH := hP
  have hl : lv_has ls 2 [(0, .ref (al tL)), (1, .ref (al tv))] := hl
  obtain ⟨post, hpost⟩ : ∃ zz9 : Option Value → Heap → Prop, zz9 = (fun r H => r = some (.int (nI 1)) ∧ ADP E base al w tL tA (n + 1) (fun i => if i = n then tv else te i) H) := ⟨_, rfl⟩
  rw [← hpost]
  generalize hQ : (MQ below (xQ base post) ([.ref (al tL), .ref (al tv)] : List Value).toArray s 1 360 (xA base)) = Q
  refine lv_aload_n hx hb dJx4a65c_add_9ea2d_0 rfl (lv_at hl 0 rfl) ?_
  refine lv_dup hx hb dJx4a65c_add_9ea2d_1 rfl ?_
  refine x_getU C hH (ci := 0) (T := TJx4a65c) (N := 3) hL rfl iWJx4a65c 0 (by decide) qw_49 qw_50 rfl dJx4a65c_add_9ea2d_2 ?_
  refine lv_iconst (v := nI 1) hx hb dJx4a65c_add_9ea2d_5 (by decide +kernel) ?_
  refine lv_iadd hx hb dJx4a65c_add_9ea2d_6 ?_
  refine x_putU C hH hS (ci := 0) (T := TJx4a65c) (N := 3) (fs' := [.int (mc + nI 1), .ref (al tA), .int (nI n)]) hL rfl iWJx4a65c tyJx4a65c tyJx4a65c_ok nmJx4a65c 0 (by decide) qw_49 qw_50 rfl rfl rfl (Nat.le_of_ble_eq_true rfl) rfl dJx4a65c_add_9ea2d_7 (fun H locs hH hS => ?_)
  have hA := xu_of (t := tL) (e := .inr (0, [.int (mc + nI 1), .ref (al tA), .int (nI n)])) (Ne.symm hLA) hA
  have hL : (xu w tL (.inr (0, [.int (mc + nI 1), .ref (al tA), .int (nI n)]))) tL = some (.inr (0, [.int (mc + nI 1), .ref (al tA), .int (nI n)])) := xu_self _ _ _
  refine lv_aload_n hx hb dJx4a65c_add_9ea2d_10 rfl (lv_at hl 0 rfl) ?_
  refine lv_aload_n hx hb dJx4a65c_add_9ea2d_11 rfl (lv_at hl 1 rfl) ?_
  refine lv_aload_n hx hb dJx4a65c_add_9ea2d_12 rfl (lv_at hl 0 rfl) ?_
  refine x_get C hH (ci := 0) (T := TJx4a65c) (N := 3) hL rfl iWJx4a65c 1 (by decide) qw_46 rfl rfl dJx4a65c_add_9ea2d_13 ?_
  refine lv_aload_n hx hb dJx4a65c_add_9ea2d_16 rfl (lv_at hl 0 rfl) ?_
  refine x_get C hH (ci := 0) (T := TJx4a65c) (N := 3) hL rfl iWJx4a65c 2 (by decide) qw_47 rfl rfl dJx4a65c_add_9ea2d_17 ?_
  refine x_callV C hH hS (ci := 0) (t := tL) hL rfl rfl (c_add3A l (E := E) (base := base) hL hLA hA h1 h10 h2 hc hca (xu_of hvL hv) hg (fun i hi => ⟨(hte i hi).1, (hte i hi).2.choose, xu_of (hte i hi).1.1 (hte i hi).2.choose_spec⟩) hvL hvA hv9) hH kJx4a65c_add_72be8 qw_237 (ws_p (List.mem_of_getElem? (i := 1) rfl) rfl) qw_235  rfl [] rfl hl.1 (Nat.le_of_ble_eq_true rfl) ⟨Nat.le_of_ble_eq_true rfl, Nat.le_of_ble_eq_true rfl⟩ dJx4a65c_add_9ea2d_20 ⟨Nat.le_of_ble_eq_true rfl, Nat.le_of_ble_eq_true rfl⟩ (fun r_2 H locs hp_1 hS => ?_)
  obtain ⟨rfl, hAD⟩ := hp_1
  refine lv_iconst (v := nI 1) hx hb dJx4a65c_add_9ea2d_23 (by decide +kernel) ?_
  rw [← hQ]
  refine x_reti C rfl hS (Nat.le_of_ble_eq_true rfl) (Nat.le_of_ble_eq_true rfl) dJx4a65c_add_9ea2d_24 ?_
  rw [hpost]
  exact ⟨rfl, adp_mc hAD⟩

set_option maxHeartbeats 4000000 in
set_option maxRecDepth 100000 in
theorem c_addB (l : Launch) {E : xE} {base : Nat} {al : Tg → Nat} {w : Tg → Option va_E} {tL tA : Tg} {n : Nat} {g : Nat → Option Nat} {mc : Int32} (hL : w tL = some (.inr (0, [.int mc, .ref (al tA), .int (nI n)]))) (hLA : tL ≠ tA) (hL9 : tL ≠ (9, 9, 9)) (hA : w tA = some (.inl (E.2.1 5, n, .inr (.inr (.inr (.inr g)))))) (h1 : 10 ≤ n) (h2 : n ≤ 160) (hne : tA ≠ (9, 9, 9)) {ci : Nat} {r : vw_C} (hc : vwCl[ci]? = some r) (hca : Cond.castable r.1 "java/lang/Object" ∈ NB) {tv : Tg} {vs : List Value} (hv : w tv = some (.inr (ci, vs))) {te : Nat → Tg} (hg : ∀ i, i < n → g i = some (al (te i))) (hte : ∀ i, i < n → (te i ≠ tL ∧ te i ≠ tA ∧ te i ≠ (9, 9, 9)) ∧ ∃ vs, w (te i) = some (.inr (ci, vs))) (hvL : tv ≠ tL) (hvA : tv ≠ tA) (hv9 : tv ≠ (9, 9, 9))  : xMet l yJx4a65c_add_9ea2d cJx4a65c_add_9ea2d 2 (some (.boolean)) ({ frames := 6, cells := 1, slots := 360, locals := 170 } : Room) E base [.ref (al tL), .ref (al tv)] (fun H => xH E base al w H) (fun r H => r = some (.int (nI 1)) ∧ ADP E base al w tL tA (n + 1) (fun i => if i = n then tv else te i) H) := by
  refine xMet.of (by decide +kernel) "java/util/ArrayList" rfl (Nat.le_of_ble_eq_true rfl) ?_
  intro p9 e9 s m9 below meth c9 ls C hin hP hS hl
  have hx := C.hx
  have hb := C.hb
  have hH := hP
  have hl : lv_has ls 2 [(0, .ref (al tL)), (1, .ref (al tv))] := hl
  obtain ⟨post, hpost⟩ : ∃ zz9 : Option Value → Heap → Prop, zz9 = (fun r H => r = some (.int (nI 1)) ∧ ADP E base al w tL tA (n + 1) (fun i => if i = n then tv else te i) H) := ⟨_, rfl⟩
  rw [← hpost]
  generalize hQ : (MQ below (xQ base post) ([.ref (al tL), .ref (al tv)] : List Value).toArray s 1 360 (xA base)) = Q
  refine lv_aload_n hx hb dJx4a65c_add_9ea2d_0 rfl (lv_at hl 0 rfl) ?_
  refine lv_dup hx hb dJx4a65c_add_9ea2d_1 rfl ?_
  refine x_getU C hH (ci := 0) (T := TJx4a65c) (N := 3) hL rfl iWJx4a65c 0 (by decide) qw_49 qw_50 rfl dJx4a65c_add_9ea2d_2 ?_
  refine lv_iconst (v := nI 1) hx hb dJx4a65c_add_9ea2d_5 (by decide +kernel) ?_
  refine lv_iadd hx hb dJx4a65c_add_9ea2d_6 ?_
  refine x_putU C hH hS (ci := 0) (T := TJx4a65c) (N := 3) (fs' := [.int (mc + nI 1), .ref (al tA), .int (nI n)]) hL rfl iWJx4a65c tyJx4a65c tyJx4a65c_ok nmJx4a65c 0 (by decide) qw_49 qw_50 rfl rfl rfl (Nat.le_of_ble_eq_true rfl) rfl dJx4a65c_add_9ea2d_7 (fun H locs hH hS => ?_)
  have hA := xu_of (t := tL) (e := .inr (0, [.int (mc + nI 1), .ref (al tA), .int (nI n)])) (Ne.symm hLA) hA
  have hL : (xu w tL (.inr (0, [.int (mc + nI 1), .ref (al tA), .int (nI n)]))) tL = some (.inr (0, [.int (mc + nI 1), .ref (al tA), .int (nI n)])) := xu_self _ _ _
  refine lv_aload_n hx hb dJx4a65c_add_9ea2d_10 rfl (lv_at hl 0 rfl) ?_
  refine lv_aload_n hx hb dJx4a65c_add_9ea2d_11 rfl (lv_at hl 1 rfl) ?_
  refine lv_aload_n hx hb dJx4a65c_add_9ea2d_12 rfl (lv_at hl 0 rfl) ?_
  refine x_get C hH (ci := 0) (T := TJx4a65c) (N := 3) hL rfl iWJx4a65c 1 (by decide) qw_46 rfl rfl dJx4a65c_add_9ea2d_13 ?_
  refine lv_aload_n hx hb dJx4a65c_add_9ea2d_16 rfl (lv_at hl 0 rfl) ?_
  refine x_get C hH (ci := 0) (T := TJx4a65c) (N := 3) hL rfl iWJx4a65c 2 (by decide) qw_47 rfl rfl dJx4a65c_add_9ea2d_17 ?_
  refine x_callV C hH hS (ci := 0) (t := tL) hL rfl rfl (c_add3B l (E := E) (base := base) hL hLA hL9 hA h1 h2 hne hc hca (xu_of hvL hv) hg (fun i hi => ⟨(hte i hi).1, (hte i hi).2.choose, xu_of (hte i hi).1.1 (hte i hi).2.choose_spec⟩) hvL hvA hv9) hH kJx4a65c_add_72be8 qw_237 (ws_p (List.mem_of_getElem? (i := 1) rfl) rfl) qw_235  rfl [] rfl hl.1 (Nat.le_of_ble_eq_true rfl) ⟨Nat.le_of_ble_eq_true rfl, Nat.le_of_ble_eq_true rfl⟩ dJx4a65c_add_9ea2d_20 ⟨Nat.le_of_ble_eq_true rfl, Nat.le_of_ble_eq_true rfl⟩ (fun r_2 H locs hp_1 hS => ?_)
  obtain ⟨rfl, hAD⟩ := hp_1
  refine lv_iconst (v := nI 1) hx hb dJx4a65c_add_9ea2d_23 (by decide +kernel) ?_
  rw [← hQ]
  refine x_reti C rfl hS (Nat.le_of_ble_eq_true rfl) (Nat.le_of_ble_eq_true rfl) dJx4a65c_add_9ea2d_24 ?_
  rw [hpost]
  exact ⟨rfl, adp_mc hAD⟩

set_option maxHeartbeats 4000000 in
set_option maxRecDepth 100000 in
theorem c_addE (l : Launch) {E : xE} {base : Nat} {al : Tg → Nat} {w : Tg → Option va_E} {tL tA : Tg} {mc : Int32} (hL : w tL = some (.inr (0, [.int mc, .ref (E.2.2 1), .int (nI 0)]))) (hLA : tL ≠ tA) {ci : Nat} {r : vw_C} (hc : vwCl[ci]? = some r) (hca : Cond.castable r.1 "java/lang/Object" ∈ NB) {tv : Tg} {vs : List Value} (hv : w tv = some (.inr (ci, vs))) (hvL : tv ≠ tL) (hvA : tv ≠ tA) (hv9 : tv ≠ (9, 9, 9)) {te : Nat → Tg}  : xMet l yJx4a65c_add_9ea2d cJx4a65c_add_9ea2d 2 (some (.boolean)) ({ frames := 6, cells := 1, slots := 360, locals := 170 } : Room) E base [.ref (al tL), .ref (al tv)] (fun H => xH E base al w H) (fun r H => r = some (.int (nI 1)) ∧ ADP E base al w tL tA (0 + 1) (fun i => if i = 0 then tv else te i) H) := by
  refine xMet.of (by decide +kernel) "java/util/ArrayList" rfl (Nat.le_of_ble_eq_true rfl) ?_
  intro p9 e9 s m9 below meth c9 ls C hin hP hS hl
  have hx := C.hx
  have hb := C.hb
  have hH := hP
  have hl : lv_has ls 2 [(0, .ref (al tL)), (1, .ref (al tv))] := hl
  obtain ⟨post, hpost⟩ : ∃ zz9 : Option Value → Heap → Prop, zz9 = (fun r H => r = some (.int (nI 1)) ∧ ADP E base al w tL tA (0 + 1) (fun i => if i = 0 then tv else te i) H) := ⟨_, rfl⟩
  rw [← hpost]
  generalize hQ : (MQ below (xQ base post) ([.ref (al tL), .ref (al tv)] : List Value).toArray s 1 360 (xA base)) = Q
  refine lv_aload_n hx hb dJx4a65c_add_9ea2d_0 rfl (lv_at hl 0 rfl) ?_
  refine lv_dup hx hb dJx4a65c_add_9ea2d_1 rfl ?_
  refine x_getU C hH (ci := 0) (T := TJx4a65c) (N := 3) hL rfl iWJx4a65c 0 (by decide) qw_49 qw_50 rfl dJx4a65c_add_9ea2d_2 ?_
  refine lv_iconst (v := nI 1) hx hb dJx4a65c_add_9ea2d_5 (by decide +kernel) ?_
  refine lv_iadd hx hb dJx4a65c_add_9ea2d_6 ?_
  refine x_putU C hH hS (ci := 0) (T := TJx4a65c) (N := 3) (fs' := [.int (mc + nI 1), .ref (E.2.2 1), .int (nI 0)]) hL rfl iWJx4a65c tyJx4a65c tyJx4a65c_ok nmJx4a65c 0 (by decide) qw_49 qw_50 rfl rfl rfl (Nat.le_of_ble_eq_true rfl) rfl dJx4a65c_add_9ea2d_7 (fun H locs hH hS => ?_)
  have hL : (xu w tL (.inr (0, [.int (mc + nI 1), .ref (E.2.2 1), .int (nI 0)]))) tL = some (.inr (0, [.int (mc + nI 1), .ref (E.2.2 1), .int (nI 0)])) := xu_self _ _ _
  refine lv_aload_n hx hb dJx4a65c_add_9ea2d_10 rfl (lv_at hl 0 rfl) ?_
  refine lv_aload_n hx hb dJx4a65c_add_9ea2d_11 rfl (lv_at hl 1 rfl) ?_
  refine lv_aload_n hx hb dJx4a65c_add_9ea2d_12 rfl (lv_at hl 0 rfl) ?_
  refine x_get C hH (ci := 0) (T := TJx4a65c) (N := 3) hL rfl iWJx4a65c 1 (by decide) qw_46 rfl rfl dJx4a65c_add_9ea2d_13 ?_
  refine lv_aload_n hx hb dJx4a65c_add_9ea2d_16 rfl (lv_at hl 0 rfl) ?_
  refine x_get C hH (ci := 0) (T := TJx4a65c) (N := 3) hL rfl iWJx4a65c 2 (by decide) qw_47 rfl rfl dJx4a65c_add_9ea2d_17 ?_
  refine x_callV C hH hS (ci := 0) (t := tL) hL rfl rfl (c_add3E l (E := E) (base := base) (te := te) hL hLA hc hca (xu_of hvL hv) hvL hvA hv9) hH kJx4a65c_add_72be8 qw_237 (ws_p (List.mem_of_getElem? (i := 1) rfl) rfl) qw_235  rfl [] rfl hl.1 (Nat.le_of_ble_eq_true rfl) ⟨Nat.le_of_ble_eq_true rfl, Nat.le_of_ble_eq_true rfl⟩ dJx4a65c_add_9ea2d_20 ⟨Nat.le_of_ble_eq_true rfl, Nat.le_of_ble_eq_true rfl⟩ (fun r_2 H locs hp_1 hS => ?_)
  obtain ⟨rfl, hAD⟩ := hp_1
  refine lv_iconst (v := nI 1) hx hb dJx4a65c_add_9ea2d_23 (by decide +kernel) ?_
  rw [← hQ]
  refine x_reti C rfl hS (Nat.le_of_ble_eq_true rfl) (Nat.le_of_ble_eq_true rfl) dJx4a65c_add_9ea2d_24 ?_
  rw [hpost]
  exact ⟨rfl, adp_mc hAD⟩

/-- add: one element more, the others stay -/
theorem c_add (l : Launch) {E : xE} {base : Nat} {al : Tg → Nat} {w : Tg → Option va_E} {tL tA : Tg} {n : Nat} {te : Nat → Tg} (hLR : LR E al w tL tA n te) (hn : n < 150) (hLA : tL ≠ tA) (hL9 : tL ≠ (9, 9, 9)) (hne : tA ≠ (9, 9, 9)) {ci : Nat} {r : vw_C} (hc : vwCl[ci]? = some r) (hca : Cond.castable r.1 "java/lang/Object" ∈ NB) {tv : Tg} {vs : List Value} (hv : w tv = some (.inr (ci, vs))) (hte : ∀ i, i < n → (te i ≠ tL ∧ te i ≠ tA ∧ te i ≠ (9, 9, 9)) ∧ ∃ vs, w (te i) = some (.inr (ci, vs))) (hvL : tv ≠ tL) (hvA : tv ≠ tA) (hv9 : tv ≠ (9, 9, 9)) : xMet l yJx4a65c_add_9ea2d cJx4a65c_add_9ea2d 2 (some (.boolean)) ({ frames := 6, cells := 1, slots := 360, locals := 170 } : Room) E base [.ref (al tL), .ref (al tv)] (fun H => xH E base al w H) (fun r H => r = some (.int (nI 1)) ∧ ADP E base al w tL tA (n + 1) (fun i => if i = n then tv else te i) H) := by
  rcases hLR with ⟨rfl, mc, h⟩ | ⟨mc, cap, g, a1, a2, a3, a4, a5, a6⟩
  · exact c_addE l h hLA hc hca hv hvL hvA hv9
  · rcases Nat.lt_or_ge n cap with q | q
    · exact c_addA l a4 hLA a5 q a2 a3 hc hca hv a6 hte hvL hvA hv9
    · have e : cap = n := by omega
      subst e
      exact c_addB l a4 hLA hL9 a5 a2 (by omega) hne hc hca hv a6 hte hvL hvA hv9
