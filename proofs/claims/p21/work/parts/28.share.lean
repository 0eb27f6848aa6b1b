theorem PT.mv {E : xE} {al al' : Tg → Nat} {w w' : Tg → Option va_E} {p : Nat} {bu : Int32} {rk rf rt fr : Nat → Int32} {KF : Nat → Nat → Int32} {KC : Nat → Nat} (h : PT E al w p bu rk rf rt fr KF KC) (hw : ∀ t : Tg, 2 ≤ t.1 → t.1 ≤ 5 → t.2.1 = p → w' t = w t) (ha : ∀ t : Tg, 2 ≤ t.1 → t.1 ≤ 5 → t.2.1 = p → al' t = al t) : PT E al' w' p bu rk rf rt fr KF KC := by
  obtain ⟨h0, h1, h2, h3, h4, h5, h6⟩ := h
  have a : ∀ k i, 2 ≤ k → k ≤ 5 → al' (k, p, i) = al (k, p, i) := fun k i g1 g2 => ha (k, p, i) g1 g2 rfl
  have b : ∀ k i, 2 ≤ k → k ≤ 5 → w' (k, p, i) = w (k, p, i) := fun k i g1 g2 => hw (k, p, i) g1 g2 rfl
  refine ⟨?_, ?_, ?_, ?_, fun f hf hk => ?_, fun i hi => ?_, fun i hi => ?_⟩
  · rw [b 2 0 (by omega) (by omega), a 2 1 (by omega) (by omega), a 2 2 (by omega) (by omega), a 2 3 (by omega) (by omega)]; exact h0
  · rw [b 2 1 (by omega) (by omega), h1]
    have e : (fun f => if rk f = 0 then none else some (al (3, p, f))) = fun f => if rk f = 0 then none else some (al' (3, p, f)) := by
      funext f; rw [a 3 f (by omega) (by omega)]
    rw [e]
  · rw [b 2 2 (by omega) (by omega), h2]
    have e : (fun i => some (al (4, p, i))) = fun i => some (al' (4, p, i)) := by
      funext i; rw [a 4 i (by omega) (by omega)]
    rw [e]
  · rw [b 2 3 (by omega) (by omega)]; exact h3
  · rw [b 3 f (by omega) (by omega)]; exact h4 f hf hk
  · rw [b 4 i (by omega) (by omega), a 5 i (by omega) (by omega)]; exact h5 i hi
  · rw [b 5 i (by omega) (by omega)]; exact h6 i hi
def shw (E : xE) (al : Tg → Nat) (w : Tg → Option va_E) (F : Nat → Int32) (m : Int32) : Tg → Option va_E := xu (xu w (0, 4, 1) (.inl (E.2.1 0, 16, .inl F))) (0, 4, 0) (.inr (3, [.ref (al (0, 4, 1)), .int m]))
section SHW
variable {E : xE} {base : Nat} {al : Tg → Nat} {w : Tg → Option va_E} {nf np na nw : Nat} {sg : Nat → Nat → Nat → Int32} {rc : Nat → Bool} {F F' : Nat → Int32} {m m' : Int32} {H : Heap}
theorem shw_0 : shw E al w F m (0, 4, 0) = some (.inr (3, [.ref (al (0, 4, 1)), .int m])) := xu_self _ _ _
theorem shw_1 : shw E al w F m (0, 4, 1) = some (.inl (E.2.1 0, 16, .inl F)) := xu_of (by simp) (xu_self _ _ _)
theorem shw_o {t : Tg} (h0 : t ≠ (0, 4, 0)) (h1 : t ≠ (0, 4, 1)) : shw E al w F m t = w t := (xu_ne h0).trans (xu_ne h1)
theorem shw_set : xu (xu (shw E al w F m) (0, 4, 1) (.inl (E.2.1 0, 16, .inl F'))) (0, 4, 0) (.inr (3, [.ref (al (0, 4, 1)), .int m'])) = shw E al w F' m' := xu_22 (by simp)
theorem shw_shw : shw E al (shw E al w F m) F' m' = shw E al w F' m' := shw_set
theorem shw_self (h0 : w (0, 4, 0) = some (.inr (3, [.ref (al (0, 4, 1)), .int m]))) (h1 : w (0, 4, 1) = some (.inl (E.2.1 0, 16, .inl F))) : shw E al w F m = w := by
  unfold shw; rw [xu_same h1, xu_same h0]
theorem x_sh0 {f : Nat → Int32} (h : xH E base al (xu (xu w (0, 4, 1) (.inl (E.2.1 0, 16, .inl (fun j => if j < 16 then 0 else f j)))) (0, 4, 0) (.inr (3, [.ref (al (0, 4, 1)), .int m]))) H) : xH E base al (shw E al w (fun _ => 0) m) H := by
  have hne : ((0, 4, 1) : Tg) ≠ (0, 4, 0) := by simp
  unfold shw
  rw [xu_cm hne] at h ⊢
  exact x_arrI (fun j hj => if_pos hj) h
/-- what the room reads is as it was, but what is shared and the marks -/
theorem RM.mv {al' : Tg → Nat} {w' : Tg → Option va_E} (h : RM E al w nf np na nw sg rc) (hw : ∀ t : Tg, t.1 < 7 → t ≠ (0, 4, 0) → t ≠ (0, 4, 1) → t ≠ (0, 5, 0) → t ≠ (0, 5, 1) → w' t = w t) (ha : ∀ t : Tg, t.1 < 7 → al' t = al t)
    (h4 : ∃ (n : Int32) (f : Nat → Int32), w' (0, 4, 0) = some (.inr (3, [.ref (al (0, 4, 1)), .int n])) ∧ w' (0, 4, 1) = some (.inl (E.2.1 0, 16, .inl f)))
    (h5 : ∃ (n : Int32) (f : Nat → Int64), w' (0, 5, 0) = some (.inr (4, [.ref (al (0, 5, 1)), .int n])) ∧ w' (0, 5, 1) = some (.inl (E.2.1 1, 1024, .inr (.inl f)))) : RM E al' w' nf np na nw sg rc := by
  obtain ⟨hX, hF, hP, hA, -, -, hC, hPT, hAn⟩ := h
  have b : ∀ t : Tg, t.1 < 7 → t.1 ≠ 0 → w' t = w t := fun t h1 h2 => hw t h1 (fun e => h2 (by rw [e])) (fun e => h2 (by rw [e])) (fun e => h2 (by rw [e])) (fun e => h2 (by rw [e]))
  refine ⟨?_, hF.mv (hw _ (by decide) (by simp) (by simp) (by simp) (by simp)) (hw _ (by decide) (by simp) (by simp) (by simp) (by simp)) (ha _ (by decide)) (fun i _ => ha _ (by simp)), hP.mv (hw _ (by decide) (by simp) (by simp) (by simp) (by simp)) (hw _ (by decide) (by simp) (by simp) (by simp) (by simp)) (ha _ (by decide)) (fun i _ => ha _ (by simp)), hA.mv (hw _ (by decide) (by simp) (by simp) (by simp) (by simp)) (hw _ (by decide) (by simp) (by simp) (by simp) (by simp)) (ha _ (by decide)) (fun i _ => ha _ (by simp)), ?_, ?_, fun i hi => ?_, fun p hp => ?_, fun a h => ?_⟩
  · rw [hw _ (by decide) (by simp) (by simp) (by simp) (by simp), ha _ (by decide), ha _ (by decide), ha _ (by decide), ha _ (by decide), ha _ (by decide)]; exact hX
  · rw [ha _ (by decide)]; exact h4
  · rw [ha _ (by decide)]; exact h5
  · rw [b _ (by simp) (by simp)]; exact hC i hi
  · exact (hPT p hp).mv (fun t h1 h2 h3 => b t (by omega) (by omega)) (fun t h1 h2 h3 => ha t (by omega))
  · rw [b _ (by simp) (by simp)]; exact hAn a h
theorem RM_sh (h : RM E al w nf np na nw sg rc) (F : Nat → Int32) (m : Int32) : RM E al (shw E al w F m) nf np na nw sg rc := by
  have h0 := h
  obtain ⟨-, -, -, -, -, ⟨n5, f5, a1, a2⟩, -, -, -⟩ := h0
  exact h.mv (fun t _ h1 h2 _ _ => shw_o h1 h2) (fun _ _ => rfl) ⟨m, F, shw_0, shw_1⟩ ⟨n5, f5, (shw_o (by simp) (by simp)).trans a1, (shw_o (by simp) (by simp)).trans a2⟩
end SHW
set_option maxHeartbeats 4000000 in
set_option maxRecDepth 100000 in
theorem c_learnFrom (l : Launch) {E : xE} {base : Nat} {al : Tg → Nat} {w : Tg → Option va_E} {t tr u ur : Tg} {n m : Int32} {f g : Nat → Int32} (ht : w t = some (.inr (3, [.ref (al tr), .int n]))) (hr : w tr = some (.inl (E.2.1 0, 16, .inl f))) (hu : w u = some (.inr (3, [.ref (al ur), .int m]))) (hv : w ur = some (.inl (E.2.1 0, 16, .inl g))) (hne : u ≠ t) (hnr : ur ≠ tr) : xMet l yX2_learnFrom cX2_learnFrom 3 none ({ frames := 2, cells := 0, slots := 0, locals := 44 } : Room) E base [.ref (al t), .ref (al u)] (fun H => xH E base al w H) (fun r H => r = none ∧ ∃ n9 : Int32, xH E base al (xu (xu w tr (.inl (E.2.1 0, 16, .inl (lfF f g 16)))) t (.inr (3, [.ref (al tr), .int n9]))) H) := by
  refine xMet.of (by decide +kernel) "Dataroom$Knowledge" rfl (Nat.le_of_ble_eq_true rfl) ?_
  intro p9 e9 s m9 below meth c9 ls C hin hP hS hl
  have hx := C.hx
  have hb := C.hb
  have hH := hP
  have hl : lv_has ls 3 [(0, .ref (al t)), (1, .ref (al u))] := hl
  obtain ⟨post, hpost⟩ : ∃ zz9 : Option Value → Heap → Prop, zz9 = (fun r H => r = none ∧ ∃ n9 : Int32, xH E base al (xu (xu w tr (.inl (E.2.1 0, 16, .inl (lfF f g 16)))) t (.inr (3, [.ref (al tr), .int n9]))) H) := ⟨_, rfl⟩
  rw [← hpost]
  generalize hQ : (MQ below (xQ base post) ([.ref (al t), .ref (al u)] : List Value).toArray s 0 0 (xA base)) = Q
  have htr : t ≠ tr := tg_ne ht hr (by nofun)
  have hutr : u ≠ tr := tg_ne hu hr (by nofun)
  have hurt : ur ≠ t := tg_ne hv ht (by nofun)
  refine lv_iconst (v := nI 0) hx hb dX2_learnFrom_0 (by decide +kernel) ?_
  refine lv_istore_n (lv' := [(2, .int (nI 0)), (0, .ref (al t)), (1, .ref (al u))]) hx hb dX2_learnFrom_1 rfl hl (by decide) rfl (fun ls hl => ?_)
  have lp2 : ∀ (i : Nat), i ≤ 16 → ∀ (n9 : Int32) (H : Heap) (locs : List Loc) (ls : Array Slot), xH E base al (xu (xu w tr (.inl (E.2.1 0, 16, .inl (lfF f g i)))) t (.inr (3, [.ref (al tr), .int n9]))) H → va_S (xA base) s.heap H locs → lv_has ls 3 [(2, .int (nI i)), (1, .ref (al u)), (0, .ref (al t))] → W p9 l e9 ({ frames := 2, cells := 0, slots := 0, locals := 44 } : Room) s m9 ([.ref (al t), .ref (al u)] : List Value).toArray below meth c9 H locs 0 0 Q (F0 m9 2 ls []) := by
    refine lp_up ?_
    intro i hii ih2 n9 H locs ls hH hS hl
    have ht1 : (xu (xu w tr (.inl (E.2.1 0, 16, .inl (lfF f g i)))) t (.inr (3, [.ref (al tr), .int n9]))) t = some (.inr (3, [.ref (al tr), .int n9])) := xu_self _ _ _
    have hr1 : (xu (xu w tr (.inl (E.2.1 0, 16, .inl (lfF f g i)))) t (.inr (3, [.ref (al tr), .int n9]))) tr = some (.inl (E.2.1 0, 16, .inl (lfF f g i))) := xu_of (Ne.symm htr) (xu_self _ _ _)
    have hu1 : (xu (xu w tr (.inl (E.2.1 0, 16, .inl (lfF f g i)))) t (.inr (3, [.ref (al tr), .int n9]))) u = some (.inr (3, [.ref (al ur), .int m])) := xu_of hne (xu_of hutr hu)
    have hv1 : (xu (xu w tr (.inl (E.2.1 0, 16, .inl (lfF f g i)))) t (.inr (3, [.ref (al tr), .int n9]))) ur = some (.inl (E.2.1 0, 16, .inl g)) := xu_of hurt (xu_of hnr hv)
    refine lv_iload_n hx hb dX2_learnFrom_2 rfl (lv_at hl 0 rfl) ?_
    refine lv_aload_n hx hb dX2_learnFrom_3 rfl (lv_at hl 1 rfl) ?_
    refine x_get C hH (ci := 3) (T := TX2) (N := 2) hu1 rfl iWX2 0 (by decide) qw_64 rfl rfl dX2_learnFrom_4 ?_
    refine x_alen (v := nI 16) C hH 0 rfl hv1 rfl dX2_learnFrom_7 ?_
    refine lv_icmp_ge (tgt := 27) hx hb dX2_learnFrom_8 (by decide) (fun c_1 => ?_) (fun c_1 => ?_)
    · skip
      replace c_1 := (nI_leI (by omega) (by omega)).mp c_1
      rw [← hQ]
      refine x_retv C hS (Nat.le_of_ble_eq_true rfl) (Nat.le_of_ble_eq_true rfl) dX2_learnFrom_27 ?_
      rw [hpost]
      have e8 : i = 16 := by omega
      subst e8
      exact ⟨rfl, n9, hH⟩
    · skip
      replace c_1 := mt (nI_leI (by omega) (by omega)).mpr c_1
      refine lv_aload_n hx hb dX2_learnFrom_11 rfl (lv_at hl 2 rfl) ?_
      refine lv_aload_n hx hb dX2_learnFrom_12 rfl (lv_at hl 1 rfl) ?_
      refine x_get C hH (ci := 3) (T := TX2) (N := 2) hu1 rfl iWX2 0 (by decide) qw_64 rfl rfl dX2_learnFrom_13 ?_
      refine lv_iload_n hx hb dX2_learnFrom_16 rfl (lv_at hl 0 rfl) ?_
      refine x_iald C hH hv1 (j := i) rfl (by omega) (by omega) dX2_learnFrom_17 ?_
      refine x_callV C hH hS (ci := 3) (t := t) ht1 rfl rfl (c_learn l (E := E) (base := base) (x := g i) ht1 hr1) hH kX2_learn qw_369 qw_370 qw_624  rfl [] rfl hl.1 (Nat.le_of_ble_eq_true rfl) ⟨Nat.le_of_ble_eq_true rfl, Nat.le_of_ble_eq_true rfl⟩ dX2_learnFrom_18 ⟨Nat.le_of_ble_eq_true rfl, Nat.le_of_ble_eq_true rfl⟩ (fun r_3 H locs hp_2 hS => ?_)
      obtain ⟨rfl, hH⟩ := hp_2
      rw [xu_22 htr] at hH
      refine lv_iinc (v := nI (i + 1)) (lv' := [(2, .int (nI (i + 1))), (1, .ref (al u)), (0, .ref (al t))]) hx hb dX2_learnFrom_21 hl (k := 0) rfl (nI_1 _) (by decide) rfl (fun ls hl => ?_)
      refine lv_goto (tgt := 2) hx hb dX2_learnFrom_24 (by decide) ?_
      exact ih2 (by omega) _ _ _ _  hH hS (lv_sub hl [0, 1, 2] rfl)
  exact lp2 0 (Nat.zero_le _) n _ _ _  (by show xH E base al (xu (xu w tr (.inl (E.2.1 0, 16, .inl f))) t _) s.heap; rw [xu_same hr, xu_same ht]; exact hH) hS (lv_sub hl [0, 2, 1] rfl)

set_option maxHeartbeats 4000000 in
set_option maxRecDepth 100000 in
theorem c_share (l : Launch) {E : xE} {base : Nat} {al : Tg → Nat} {w : Tg → Option va_E} {nf np na nw : Nat} {sg : Nat → Nat → Nat → Int32} {rc : Nat → Bool} (hR : RM E al w nf np na nw sg rc) (hI : INV nf np na nw sg rc) {xs : Int32} {b : Nat} (hb8 : b < 8) : xMet l yX6_shareKnowledge cX6_shareKnowledge 5 none ({ frames := 3, cells := 0, slots := 0, locals := 66 } : Room) E base [.ref (al (0, 0, 0)), .int xs, .int (nI b)] (fun H => xH E base al w H) (fun r H => r = none ∧ ∃ u9 : Int32, xH E base al (shw E al w (shF xs (fun p => KFs sg rc na p b) np) u9) H) := by
  refine xMet.of (by decide +kernel) "Dataroom" rfl (Nat.le_of_ble_eq_true rfl) ?_
  intro p9 e9 s m9 below meth c9 ls C hin hP hS hl
  have hx := C.hx
  have hb := C.hb
  have hH := hP
  have hl : lv_has ls 5 [(0, .ref (al (0, 0, 0))), (1, .int xs), (2, .int (nI b))] := hl
  obtain ⟨post, hpost⟩ : ∃ zz9 : Option Value → Heap → Prop, zz9 = (fun r H => r = none ∧ ∃ u9 : Int32, xH E base al (shw E al w (shF xs (fun p => KFs sg rc na p b) np) u9) H) := ⟨_, rfl⟩
  rw [← hpost]
  generalize hQ : (MQ below (xQ base post) ([.ref (al (0, 0, 0)), .int xs, .int (nI b)] : List Value).toArray s 0 0 (xA base)) = Q
  have hR0 := hR
  have hI0 := hI
  obtain ⟨hX, hF, hPl, hAl, hSh, hMk, hC, hPT, hAn⟩ := hR
  obtain ⟨mcF, aF, hLF⟩ := hF.sz
  obtain ⟨mcP, aP, hLP⟩ := hPl.sz
  obtain ⟨mcA, aA, hLA⟩ := hAl.sz
  obtain ⟨v16, v6, v150, vnow, vA, vS, vP, vK, vR⟩ := hI
  obtain ⟨n4, f4, hS0, hS1⟩ := hSh
  refine lv_aload_n hx hb dX6_shareKnowledge_0 rfl (lv_at hl 0 rfl) ?_
  refine x_get C hH (ci := 7) (T := TX6) (N := 6) hX rfl iWX6 4 (by decide) qw_91 rfl rfl dX6_shareKnowledge_1 ?_
  refine x_callV C hH hS (ci := 3) (t := (0, 4, 0)) hS0 rfl rfl (c_forget l (E := E) (base := base) hS0 hS1) hH kX2_forget qw_358 qw_359 qw_619  rfl [] rfl hl.1 (Nat.le_of_ble_eq_true rfl) ⟨Nat.le_of_ble_eq_true rfl, Nat.le_of_ble_eq_true rfl⟩ dX6_shareKnowledge_4 ⟨Nat.le_of_ble_eq_true rfl, Nat.le_of_ble_eq_true rfl⟩ (fun r_2 H locs hp_1 hS => ?_)
  obtain ⟨rfl, hH⟩ := hp_1
  replace hH := x_sh0 hH
  refine lv_iconst (v := nI 0) hx hb dX6_shareKnowledge_7 (by decide +kernel) ?_
  refine lv_istore_n (lv' := [(3, .int (nI 0)), (0, .ref (al (0, 0, 0))), (1, .int xs), (2, .int (nI b))]) hx hb dX6_shareKnowledge_8 rfl hl (by decide) rfl (fun ls hl => ?_)
  have lp9 : ∀ (i : Nat), i ≤ np → ∀ (u9 : Int32) (H : Heap) (locs : List Loc) (ls : Array Slot), xH E base al (shw E al w (shF xs (fun p => KFs sg rc na p b) i) u9) H → va_S (xA base) s.heap H locs → lv_has ls 5 [(3, .int (nI i)), (2, .int (nI b)), (1, .int xs), (0, .ref (al (0, 0, 0)))] → W p9 l e9 ({ frames := 3, cells := 0, slots := 0, locals := 66 } : Room) s m9 ([.ref (al (0, 0, 0)), .int xs, .int (nI b)] : List Value).toArray below meth c9 H locs 0 0 Q (F0 m9 9 ls []) := by
    refine lp_up ?_
    intro i hii ih9 u9 H locs ls hH hS hl
    have hR1 := RM_sh hR0 (shF xs (fun p => KFs sg rc na p b) i) u9
    obtain ⟨hX, hF, hPl, hAl, hSh, hMk, hC, hPT, hAn⟩ := hR1
    obtain ⟨mcF, aF, hLF⟩ := hF.sz
    obtain ⟨mcP, aP, hLP⟩ := hPl.sz
    obtain ⟨mcA, aA, hLA⟩ := hAl.sz
    have hS0 : (shw E al w (shF xs (fun p => KFs sg rc na p b) i) u9) (0, 4, 0) = _ := shw_0
    have hS1 : (shw E al w (shF xs (fun p => KFs sg rc na p b) i) u9) (0, 4, 1) = _ := shw_1
    refine lv_iload_n hx hb dX6_shareKnowledge_9 rfl (lv_at hl 0 rfl) ?_
    refine lv_aload_n hx hb dX6_shareKnowledge_10 rfl (lv_at hl 3 rfl) ?_
    refine x_get C hH (ci := 7) (T := TX6) (N := 6) hX rfl iWX6 1 (by decide) qw_88 rfl rfl dX6_shareKnowledge_11 ?_
    refine x_callV C hH hS (ci := 0) (t := (0, 2, 0)) hLP rfl rfl (c_size l (E := E) (base := base) (al := al) hLP) hH kJx4a65c_size_8abf5 qw_197 qw_198 qw_196  rfl [.int (nI i)] rfl hl.1 (Nat.le_of_ble_eq_true rfl) ⟨Nat.le_of_ble_eq_true rfl, Nat.le_of_ble_eq_true rfl⟩ dX6_shareKnowledge_14 ⟨Nat.le_of_ble_eq_true rfl, Nat.le_of_ble_eq_true rfl⟩ (fun r_4 H locs hp_3 hS => ?_)
    obtain ⟨rfl, hH⟩ := hp_3
    refine lv_icmp_ge (tgt := 71) hx hb dX6_shareKnowledge_17 (by decide) (fun c_5 => ?_) (fun c_5 => ?_)
    · skip
      replace c_5 := (nI_leI (by omega) (by omega)).mp c_5
      rw [← hQ]
      refine x_retv C hS (Nat.le_of_ble_eq_true rfl) (Nat.le_of_ble_eq_true rfl) dX6_shareKnowledge_71 ?_
      rw [hpost]
      have e8 : i = np := by omega
      rw [e8] at hH
      exact ⟨rfl, u9, hH⟩
    · skip
      replace c_5 := mt (nI_leI (by omega) (by omega)).mpr c_5
      refine lv_aload_n hx hb dX6_shareKnowledge_20 rfl (lv_at hl 3 rfl) ?_
      refine x_get C hH (ci := 7) (T := TX6) (N := 6) hX rfl iWX6 1 (by decide) qw_88 rfl rfl dX6_shareKnowledge_21 ?_
      refine lv_iload_n hx hb dX6_shareKnowledge_24 rfl (lv_at hl 0 rfl) ?_
      obtain ⟨mcz_6, capz_6, gz_6, a1z_6, a2z_6, a3z_6, a4z_6, a5z_6⟩ := hPl.at (i := i) (by omega)
      refine x_callV C hH hS (ci := 0) (t := (0, 2, 0)) a1z_6 rfl rfl (c_get l (E := E) (base := base) a1z_6 a2z_6 (i := i) (by omega) a3z_6 a4z_6 a5z_6) hH kJx4a65c_get_915e3 qw_323 qw_324 qw_322  rfl [] rfl hl.1 (Nat.le_of_ble_eq_true rfl) ⟨Nat.le_of_ble_eq_true rfl, Nat.le_of_ble_eq_true rfl⟩ dX6_shareKnowledge_25 ⟨Nat.le_of_ble_eq_true rfl, Nat.le_of_ble_eq_true rfl⟩ (fun r_8 H locs hp_7 hS => ?_)
      obtain ⟨rfl, hH⟩ := hp_7
      refine x_cast C hH (ci := 5) (hPT i (by omega)).1 rfl qw_336 dX6_shareKnowledge_28 ?_
      refine lv_astore (lv' := [(4, .ref (al (2, i, 0))), (3, .int (nI i)), (2, .int (nI b)), (1, .int xs), (0, .ref (al (0, 0, 0)))]) hx hb dX6_shareKnowledge_31 hl (by decide) rfl (fun ls hl => ?_)
      refine lv_iload_n hx hb dX6_shareKnowledge_33 rfl (lv_at hl 3 rfl) ?_
      refine lv_iload_n hx hb dX6_shareKnowledge_34 rfl (lv_at hl 1 rfl) ?_
      refine x_callS C hS (c_holds l (E := E) (base := base) (al := al) (w := (shw E al w (shF xs (fun p => KFs sg rc na p b) i) u9)) (x := xs) (k := i) (by omega)) hH kX6_holds qw_347 qw_346  rfl [] rfl hl.1 (Nat.le_of_ble_eq_true rfl) ⟨Nat.le_of_ble_eq_true rfl, Nat.le_of_ble_eq_true rfl⟩ dX6_shareKnowledge_35 ⟨Nat.le_of_ble_eq_true rfl, Nat.le_of_ble_eq_true rfl⟩ (fun r_10 H locs hp_9 hS => ?_)
      obtain ⟨rfl, hH⟩ := hp_9
      refine lv_if_eq (tgt := 65) hx hb dX6_shareKnowledge_38 (by decide) (fun c_11 => ?_) (fun c_11 => ?_)
      · skip
        replace c_11 := ob_0.mp c_11
        refine lv_iinc (v := nI (i + 1)) (lv' := [(3, .int (nI (i + 1))), (4, .ref (al (2, i, 0))), (2, .int (nI b)), (1, .int xs), (0, .ref (al (0, 0, 0)))]) hx hb dX6_shareKnowledge_65 hl (k := 1) rfl (nI_1 _) (by decide) rfl (fun ls hl => ?_)
        refine lv_goto (tgt := 9) hx hb dX6_shareKnowledge_68 (by decide) ?_
        exact ih9 (by omega) _ _ _ _  (by rw [show (shF xs (fun p => KFs sg rc na p b) i) = (shF xs (fun p => KFs sg rc na p b) (i + 1)) from (if_neg (by simp [c_11])).symm] at hH; exact hH) hS (lv_sub hl [0, 2, 3, 4] rfl)
      · skip
        replace c_11 := ob_n.mp c_11
        refine lv_iload_n hx hb dX6_shareKnowledge_41 rfl (lv_at hl 2 rfl) ?_
        refine lv_aload hx hb dX6_shareKnowledge_42 (lv_at hl 0 rfl) ?_
        refine x_getN C hH (ci := 5) (T := TX4) (N := 5) (hPT i (by omega)).1 rfl iWX4 3 (by decide) nw_398 rfl rfl dX6_shareKnowledge_44 ?_
        refine x_alen (v := nI 8) C hH 3 rfl (hPT i (by omega)).2.2.1 rfl dX6_shareKnowledge_47 ?_
        refine lv_icmp_ge (tgt := 65) hx hb dX6_shareKnowledge_48 (by decide) (fun c_12 => ?_) (fun c_12 => ?_)
        · skip
          replace c_12 := (nI_leI (by omega) (by omega)).mp c_12
          exact absurd hb8 (by omega)
        · skip
          replace c_12 := mt (nI_leI (by omega) (by omega)).mpr c_12
          refine lv_aload_n hx hb dX6_shareKnowledge_51 rfl (lv_at hl 4 rfl) ?_
          refine x_get C hH (ci := 7) (T := TX6) (N := 6) hX rfl iWX6 4 (by decide) qw_91 rfl rfl dX6_shareKnowledge_52 ?_
          refine lv_aload hx hb dX6_shareKnowledge_55 (lv_at hl 0 rfl) ?_
          refine x_getN C hH (ci := 5) (T := TX4) (N := 5) (hPT i (by omega)).1 rfl iWX4 3 (by decide) nw_398 rfl rfl dX6_shareKnowledge_57 ?_
          refine lv_iload_n hx hb dX6_shareKnowledge_60 rfl (lv_at hl 2 rfl) ?_
          refine x_aldq C hH 3 rfl (hPT i (by omega)).2.2.1 (j := b) rfl (by omega) (by omega) (v := .ref (al (4, i, b))) (rfl) dX6_shareKnowledge_61 ?_
          refine x_callV C hH hS (ci := 3) (t := (0, 4, 0)) hS0 rfl rfl (c_learnFrom l (E := E) (base := base) hS0 hS1 ((hPT i (by omega)).2.2.2.2.2.1 b hb8) ((hPT i (by omega)).2.2.2.2.2.2 b hb8) (by simp) (by simp)) hH kX2_learnFrom qw_621 qw_622 qw_620  rfl [] rfl hl.1 (Nat.le_of_ble_eq_true rfl) ⟨Nat.le_of_ble_eq_true rfl, Nat.le_of_ble_eq_true rfl⟩ dX6_shareKnowledge_62 ⟨Nat.le_of_ble_eq_true rfl, Nat.le_of_ble_eq_true rfl⟩ (fun r_14 H locs hp_13 hS => ?_)
          obtain ⟨rfl, n9, hH⟩ := hp_13
          rw [shw_set] at hH
          rw [show lfF (shF xs (fun p => KFs sg rc na p b) i) (KFs sg rc na i b) 16 = (shF xs (fun p => KFs sg rc na p b) (i + 1)) from (if_pos c_11).symm] at hH
          refine lv_iinc (v := nI (i + 1)) (lv' := [(3, .int (nI (i + 1))), (4, .ref (al (2, i, 0))), (2, .int (nI b)), (1, .int xs), (0, .ref (al (0, 0, 0)))]) hx hb dX6_shareKnowledge_65 hl (k := 1) rfl (nI_1 _) (by decide) rfl (fun ls hl => ?_)
          refine lv_goto (tgt := 9) hx hb dX6_shareKnowledge_68 (by decide) ?_
          exact ih9 (by omega) _ _ _ _  hH hS (lv_sub hl [0, 2, 3, 4] rfl)
  exact lp9 0 (Nat.zero_le _) (nI 0) _ _ _  hH hS (lv_sub hl [0, 3, 2, 1] rfl)

set_option maxHeartbeats 4000000 in
set_option maxRecDepth 100000 in
theorem c_together (l : Launch) (hfl : l.stackTraces = false) {E : xE} {base : Nat} {al : Tg → Nat} {w : Tg → Option va_E} {nf np na nw : Nat} {sg : Nat → Nat → Nat → Int32} {rc : Nat → Bool} (hR : RM E al w nf np na nw sg rc) (hI : INV nf np na nw sg rc) {xs z : Int32} : xMetX l yX6_together cX6_together 5 (some (.int)) ({ frames := 7, cells := 2, slots := 12, locals := 104 } : Room) E base [.ref (al (0, 0, 0)), .int xs, .int z] (fun H => xH E base al w H) (fun r H => ∃ f, f < nf ∧ z = nI f ∧ (nI 0 ≤ xs ∧ xs ≤ (nI 1 <<< (nI np &&& 31)) - nI 1) ∧ r = some (.int (fBs (fun b => decide (red (shF xs (fun p => KFs sg rc na p b) np) 16 (nI 1 <<< (nI f &&& 31)) = 0)) 8)) ∧ ∃ (F : Nat → Int32) (m : Int32), xH E base al (shw E al w F m) H) (fun X H => ((X = "java/lang/IndexOutOfBoundsException" ∧ ¬ inR z nf) ∨ (X = "java/lang/IllegalArgumentException" ∧ inR z nf ∧ ¬ (nI 0 ≤ xs ∧ xs ≤ (nI 1 <<< (nI np &&& 31)) - nI 1))) ∧ xH E base al w H) := by
  refine xMetX.of (by decide +kernel) "Dataroom" rfl (Nat.le_of_ble_eq_true rfl) ?_
  intro p9 e9 s m9 below meth c9 ls C het hP hS hl
  have hx := C.hx
  have hb := C.hb
  have hH := hP
  have hl : lv_has ls 5 [(0, .ref (al (0, 0, 0))), (1, .int xs), (2, .int z)] := hl
  obtain ⟨post, hpost⟩ : ∃ zz9 : Option Value → Heap → Prop, zz9 = (fun r H => ∃ f, f < nf ∧ z = nI f ∧ (nI 0 ≤ xs ∧ xs ≤ (nI 1 <<< (nI np &&& 31)) - nI 1) ∧ r = some (.int (fBs (fun b => decide (red (shF xs (fun p => KFs sg rc na p b) np) 16 (nI 1 <<< (nI f &&& 31)) = 0)) 8)) ∧ ∃ (F : Nat → Int32) (m : Int32), xH E base al (shw E al w F m) H) := ⟨_, rfl⟩
  obtain ⟨px, hpx⟩ : ∃ zz9 : String → Heap → Prop, zz9 = (fun X H => ((X = "java/lang/IndexOutOfBoundsException" ∧ ¬ inR z nf) ∨ (X = "java/lang/IllegalArgumentException" ∧ inR z nf ∧ ¬ (nI 0 ≤ xs ∧ xs ≤ (nI 1 <<< (nI np &&& 31)) - nI 1))) ∧ xH E base al w H) := ⟨_, rfl⟩
  rw [← hpost, ← hpx]
  generalize hQ : (vx_MQ below (xQ base post) (xX base px) ([.ref (al (0, 0, 0)), .int xs, .int z] : List Value).toArray s 2 12 (xA base)) = Q
  have hR0 := hR
  have hI0 := hI
  obtain ⟨hX, hF, hPl, hAl, hSh, hMk, hC, hPT, hAn⟩ := hR
  obtain ⟨mcF, aF, hLF⟩ := hF.sz
  obtain ⟨mcP, aP, hLP⟩ := hPl.sz
  obtain ⟨mcA, aA, hLA⟩ := hAl.sz
  obtain ⟨v16, v6, v150, vnow, vA, vS, vP, vK, vR⟩ := hI
  obtain ⟨n4, f4, hS0, hS1⟩ := hSh
  refine lv_aload_n hx hb dX6_together_0 rfl (lv_at hl 0 rfl) ?_
  refine lv_iload_n hx hb dX6_together_1 rfl (lv_at hl 2 rfl) ?_
  refine x_thrV C hH hS (ci := 7) (t := (0, 0, 0)) hX rfl rfl (c_rFile l hfl (E := E) (base := base) hR0 hI0 (x := z)) hH kX6_requireFile qw_304 (ws_p (List.mem_of_getElem? (i := 5) rfl) rfl) qw_302  rfl [] rfl hl.1 (Nat.le_of_ble_eq_true rfl) ⟨Nat.le_of_ble_eq_true rfl, Nat.le_of_ble_eq_true rfl⟩ dX6_together_2 ⟨Nat.le_of_ble_eq_true rfl, Nat.le_of_ble_eq_true rfl⟩ (fun X ce q9 H locs hp_1 hS hce hcv hcl => ?_) (fun r_2 H locs hp_1 hS => ?_)
  · skip
    obtain ⟨rfl, hno, hH⟩ := hp_1
    rw [← hQ]
    refine x_outX C het hS hce hcv hcl (Nat.le_of_ble_eq_true rfl) (Nat.le_of_ble_eq_true rfl) ?_
    rw [hpx]
    exact ⟨Or.inl ⟨rfl, hno⟩, hH⟩
  · skip
    obtain ⟨rfl, ⟨f_3, hf_3, rfl⟩, hH⟩ := hp_1
    refine lv_iload_n hx hb dX6_together_5 rfl (lv_at hl 1 rfl) ?_
    refine lv_iconst (v := nI 0) hx hb dX6_together_6 (by decide +kernel) ?_
    refine lv_iconst (v := nI 1) hx hb dX6_together_7 (by decide +kernel) ?_
    refine lv_aload_n hx hb dX6_together_8 rfl (lv_at hl 0 rfl) ?_
    refine x_get C hH (ci := 7) (T := TX6) (N := 6) hX rfl iWX6 1 (by decide) qw_88 rfl rfl dX6_together_9 ?_
    refine x_callV C hH hS (ci := 0) (t := (0, 2, 0)) hLP rfl rfl (c_size l (E := E) (base := base) (al := al) hLP) hH kJx4a65c_size_8abf5 qw_197 qw_198 qw_196  rfl [.int (nI 1), .int (nI 0), .int xs] rfl hl.1 (Nat.le_of_ble_eq_true rfl) ⟨Nat.le_of_ble_eq_true rfl, Nat.le_of_ble_eq_true rfl⟩ dX6_together_12 ⟨Nat.le_of_ble_eq_true rfl, Nat.le_of_ble_eq_true rfl⟩ (fun r_5 H locs hp_4 hS => ?_)
    obtain ⟨rfl, hH⟩ := hp_4
    refine lv_ishl hx hb dX6_together_15 ?_
    refine lv_iconst (v := nI 1) hx hb dX6_together_16 (by decide +kernel) ?_
    refine lv_isub hx hb dX6_together_17 ?_
    refine x_thrS C hS (c_rRange l hfl (E := E) (base := base) (al := al) (w := w) (v := xs) (lo := nI 0) (hi := ((nI 1 <<< (nI np &&& 31)) - nI 1))) hH kX6_requireRange qw_126 qw_125  rfl [] rfl hl.1 (Nat.le_of_ble_eq_true rfl) ⟨Nat.le_of_ble_eq_true rfl, Nat.le_of_ble_eq_true rfl⟩ dX6_together_18 ⟨Nat.le_of_ble_eq_true rfl, Nat.le_of_ble_eq_true rfl⟩ (fun X ce q9 H locs hp_6 hS hce hcv hcl => ?_) (fun r_7 H locs hp_6 hS => ?_)
    · skip
      obtain ⟨rfl, hno, hH⟩ := hp_6
      rw [← hQ]
      refine x_outX C het hS hce hcv hcl (Nat.le_of_ble_eq_true rfl) (Nat.le_of_ble_eq_true rfl) ?_
      rw [hpx]
      exact ⟨Or.inr ⟨rfl, ⟨f_3, hf_3, rfl⟩, hno⟩, hH⟩
    · skip
      obtain ⟨rfl, rg_8, hH⟩ := hp_6
      refine lv_iconst (v := nI 0) hx hb dX6_together_21 (by decide +kernel) ?_
      refine lv_istore_n (lv' := [(3, .int (nI 0)), (0, .ref (al (0, 0, 0))), (1, .int xs), (2, .int (nI f_3))]) hx hb dX6_together_22 rfl hl (by decide) rfl (fun ls hl => ?_)
      refine lv_iconst (v := nI 0) hx hb dX6_together_23 (by decide +kernel) ?_
      refine lv_istore (lv' := [(4, .int (nI 0)), (3, .int (nI 0)), (0, .ref (al (0, 0, 0))), (1, .int xs), (2, .int (nI f_3))]) hx hb dX6_together_24 hl (by decide) rfl (fun ls hl => ?_)
      have lp26 : ∀ (i : Nat), i ≤ 8 → ∀ (y : Int32) (F9 : Nat → Int32) (u9 : Int32) (H : Heap) (locs : List Loc) (ls : Array Slot), y = fBs (fun b => decide (red (shF xs (fun p => KFs sg rc na p b) np) 16 (nI 1 <<< (nI f_3 &&& 31)) = 0)) i → xH E base al (shw E al w F9 u9) H → va_S (xA base) s.heap H locs → lv_has ls 5 [(4, .int (nI i)), (3, .int y), (2, .int (nI f_3)), (1, .int xs), (0, .ref (al (0, 0, 0)))] → W p9 l e9 ({ frames := 7, cells := 2, slots := 12, locals := 104 } : Room) s m9 ([.ref (al (0, 0, 0)), .int xs, .int (nI f_3)] : List Value).toArray below meth c9 H locs 2 12 Q (F0 m9 26 ls []) := by
        refine lp_up ?_
        intro i hii ih26 y F9 u9 H locs ls hy hH hS hl
        have hR1 := RM_sh hR0 F9 u9
        obtain ⟨hX, hF, hPl, hAl, hSh, hMk, hC, hPT, hAn⟩ := hR1
        obtain ⟨mcF, aF, hLF⟩ := hF.sz
        obtain ⟨mcP, aP, hLP⟩ := hPl.sz
        obtain ⟨mcA, aA, hLA⟩ := hAl.sz
        have hS0 : (shw E al w F9 u9) (0, 4, 0) = _ := shw_0
        have hS1 : (shw E al w F9 u9) (0, 4, 1) = _ := shw_1
        refine lv_iload hx hb dX6_together_26 (lv_at hl 0 rfl) ?_
        refine lv_bipush (v := nI 8) hx hb dX6_together_28 (by decide +kernel) ?_
        refine lv_icmp_ge (tgt := 66) hx hb dX6_together_30 (by decide) (fun c_9 => ?_) (fun c_9 => ?_)
        · skip
          replace c_9 := (nI_leI (by omega) (by omega)).mp c_9
          refine lv_iload_n hx hb dX6_together_66 rfl (lv_at hl 1 rfl) ?_
          rw [← hQ]
          refine vx_ret (x_reti C rfl hS (Nat.le_of_ble_eq_true rfl) (Nat.le_of_ble_eq_true rfl) dX6_together_67 ?_)
          rw [hpost]
          have e8 : i = 8 := by omega
          subst e8
          exact ⟨f_3, hf_3, rfl, rg_8, by rw [hy], F9, u9, hH⟩
        · skip
          replace c_9 := mt (nI_leI (by omega) (by omega)).mpr c_9
          refine lv_aload_n hx hb dX6_together_33 rfl (lv_at hl 4 rfl) ?_
          refine lv_iload_n hx hb dX6_together_34 rfl (lv_at hl 3 rfl) ?_
          refine lv_iload hx hb dX6_together_35 (lv_at hl 0 rfl) ?_
          refine x_callV C hH hS (ci := 7) (t := (0, 0, 0)) hX rfl rfl (c_share l (E := E) (base := base) (RM_sh hR0 F9 u9) hI0 (b := i) (by omega) (xs := xs)) hH kX6_shareKnowledge qw_617 (ws_p (List.mem_of_getElem? (i := 15) rfl) rfl) qw_615  rfl [] rfl hl.1 (Nat.le_of_ble_eq_true rfl) ⟨Nat.le_of_ble_eq_true rfl, Nat.le_of_ble_eq_true rfl⟩ dX6_together_37 ⟨Nat.le_of_ble_eq_true rfl, Nat.le_of_ble_eq_true rfl⟩ (fun r_11 H locs hp_10 hS => ?_)
          obtain ⟨rfl, m8, hH⟩ := hp_10
          rw [shw_shw] at hH
          have hR1 := RM_sh hR0 (shF xs (fun p => KFs sg rc na p i) np) m8
          obtain ⟨hX, hF, hPl, hAl, hSh, hMk, hC, hPT, hAn⟩ := hR1
          obtain ⟨mcF, aF, hLF⟩ := hF.sz
          obtain ⟨mcP, aP, hLP⟩ := hPl.sz
          obtain ⟨mcA, aA, hLA⟩ := hAl.sz
          have hS0 : (shw E al w (shF xs (fun p => KFs sg rc na p i) np) m8) (0, 4, 0) = _ := shw_0
          have hS1 : (shw E al w (shF xs (fun p => KFs sg rc na p i) np) m8) (0, 4, 1) = _ := shw_1
          refine lv_aload_n hx hb dX6_together_40 rfl (lv_at hl 4 rfl) ?_
          refine x_get C hH (ci := 7) (T := TX6) (N := 6) hX rfl iWX6 4 (by decide) qw_91 rfl rfl dX6_together_41 ?_
          refine lv_iconst (v := nI 1) hx hb dX6_together_44 (by decide +kernel) ?_
          refine lv_iload_n hx hb dX6_together_45 rfl (lv_at hl 2 rfl) ?_
          refine lv_ishl hx hb dX6_together_46 ?_
          refine x_callV C hH hS (ci := 3) (t := (0, 4, 0)) hS0 rfl rfl (c_knows l (E := E) (base := base) (x := (nI 1 <<< (nI f_3 &&& 31))) hS0 hS1) hH kX2_knows qw_527 qw_528 qw_607  rfl [] rfl hl.1 (Nat.le_of_ble_eq_true rfl) ⟨Nat.le_of_ble_eq_true rfl, Nat.le_of_ble_eq_true rfl⟩ dX6_together_47 ⟨Nat.le_of_ble_eq_true rfl, Nat.le_of_ble_eq_true rfl⟩ (fun r_13 H locs hp_12 hS => ?_)
          obtain ⟨rfl, hH⟩ := hp_12
          refine lv_if_eq (tgt := 60) hx hb dX6_together_50 (by decide) (fun c_14 => ?_) (fun c_14 => ?_)
          · skip
            replace c_14 := ob_0.mp c_14
            refine lv_iinc (v := nI (i + 1)) (lv' := [(4, .int (nI (i + 1))), (3, .int y), (2, .int (nI f_3)), (1, .int xs), (0, .ref (al (0, 0, 0)))]) hx hb dX6_together_60 hl (k := 0) rfl (nI_1 _) (by decide) rfl (fun ls hl => ?_)
            refine lv_goto (tgt := 26) hx hb dX6_together_63 (by decide) ?_
            exact ih26 (by omega) y _ _ _ _ _ (by rw [hy]; exact fBs_n (P := (fun b => decide (red (shF xs (fun p => KFs sg rc na p b) np) 16 (nI 1 <<< (nI f_3 &&& 31)) = 0))) c_14) hH hS (lv_sub hl [0, 1, 2, 3, 4] rfl)
          · skip
            replace c_14 := ob_n.mp c_14
            refine lv_iload_n hx hb dX6_together_53 rfl (lv_at hl 1 rfl) ?_
            refine lv_iconst (v := nI 1) hx hb dX6_together_54 (by decide +kernel) ?_
            refine lv_iload hx hb dX6_together_55 (lv_at hl 0 rfl) ?_
            refine lv_ishl hx hb dX6_together_57 ?_
            refine lv_ior hx hb dX6_together_58 ?_
            refine lv_istore_n (lv' := [(3, .int (y ||| (nI 1 <<< (nI i &&& 31)))), (4, .int (nI i)), (2, .int (nI f_3)), (1, .int xs), (0, .ref (al (0, 0, 0)))]) hx hb dX6_together_59 rfl hl (by decide) rfl (fun ls hl => ?_)
            refine lv_iinc (v := nI (i + 1)) (lv' := [(4, .int (nI (i + 1))), (3, .int (y ||| (nI 1 <<< (nI i &&& 31)))), (2, .int (nI f_3)), (1, .int xs), (0, .ref (al (0, 0, 0)))]) hx hb dX6_together_60 hl (k := 1) rfl (nI_1 _) (by decide) rfl (fun ls hl => ?_)
            refine lv_goto (tgt := 26) hx hb dX6_together_63 (by decide) ?_
            exact ih26 (by omega) (y ||| (nI 1 <<< (nI i &&& 31))) _ _ _ _ _ (by rw [hy]; exact fBs_p (P := (fun b => decide (red (shF xs (fun p => KFs sg rc na p b) np) 16 (nI 1 <<< (nI f_3 &&& 31)) = 0))) c_14) hH hS (lv_sub hl [0, 1, 2, 3, 4] rfl)
      exact lp26 0 (Nat.zero_le _) (nI 0) f4 n4 _ _ _ rfl (by rw [shw_self hS0 hS1]; exact hH) hS (lv_sub hl [0, 1, 4, 3, 2] rfl)
