theorem kw_kw {E : xE} {al : Tg → Nat} {w : Tg → Option va_E} {p : Nat} {K K' : Nat → Nat → Int32} {C C' : Nat → Nat} : kw E al (kw E al w p K C) p K' C' = kw E al w p K' C' := by
  funext t
  unfold kw
  by_cases c1 : t.1 = 4 ∧ t.2.1 = p ∧ t.2.2 < 8
  · rw [if_pos c1, if_pos c1]
  · rw [if_neg c1, if_neg c1]
    by_cases c2 : t.1 = 5 ∧ t.2.1 = p ∧ t.2.2 < 8
    · simp only [if_pos c2, if_neg c1]
    · simp only [if_neg c2, if_neg c1]
def rcw (w : Tg → Option va_E) (sg : Nat → Nat → Nat → Int32) (na : Nat) (r : Nat → Bool) : Tg → Option va_E := fun t =>
  if t.1 = 6 ∧ t.2.2 = 0 ∧ t.2.1 < na then some (.inr (1, [.int (sg 7 t.2.1 0), .int (sg 8 t.2.1 0), .int (sg 9 t.2.1 0), .int (sg 10 t.2.1 0), .int (sg 11 t.2.1 0), .int (ob (r t.2.1))])) else w t
/-- an answer of the party for a set with the file stands -/
def prc (sg : Nat → Nat → Nat → Int32) (rc : Nat → Bool) (p f : Nat) (a : Nat) : Bool := (!rc a && decide (sg 7 a 0 = nI p)) && bt (sg 8 a 0) f
def rcI (sg : Nat → Nat → Nat → Int32) (rc : Nat → Bool) (p f i : Nat) : Nat → Bool := fun a => rc a || (decide (a < i) && (decide (sg 7 a 0 = nI p) && bt (sg 8 a 0) f))
section RCW
variable {E : xE} {base : Nat} {al : Tg → Nat} {w : Tg → Option va_E} {nf np na nw : Nat} {sg : Nat → Nat → Nat → Int32} {rc r : Nat → Bool} {KF : Nat → Nat → Nat → Int32} {KC : Nat → Nat → Nat} {p f i : Nat}
theorem rcw_o {t : Tg} (h : ¬ (t.1 = 6 ∧ t.2.2 = 0 ∧ t.2.1 < na)) : rcw w sg na r t = w t := if_neg h
theorem rcw_6 {a : Nat} (h : a < na) : rcw w sg na r (6, a, 0) = some (.inr (1, [.int (sg 7 a 0), .int (sg 8 a 0), .int (sg 9 a 0), .int (sg 10 a 0), .int (sg 11 a 0), .int (ob (r a))])) := if_pos ⟨rfl, rfl, h⟩
theorem rcw_self (hAn : ∀ a, a < na → w (6, a, 0) = some (.inr (1, [.int (sg 7 a 0), .int (sg 8 a 0), .int (sg 9 a 0), .int (sg 10 a 0), .int (sg 11 a 0), .int (ob (rc a))]))) : rcw w sg na rc = w := by
  funext t
  obtain ⟨x, y, z⟩ := t
  by_cases c : x = 6 ∧ z = 0 ∧ y < na
  · obtain ⟨rfl, rfl, h⟩ := c
    rw [rcw_6 h, hAn y h]
  · exact if_neg c
theorem rcw_step (h : i < na) : xu (rcw w sg na r) (6, i, 0) (.inr (1, [.int (sg 7 i 0), .int (sg 8 i 0), .int (sg 9 i 0), .int (sg 10 i 0), .int (sg 11 i 0), .int (nI 1)])) = rcw w sg na (va_up r i true) := by
  funext t
  obtain ⟨x, y, z⟩ := t
  by_cases c : x = 6 ∧ z = 0 ∧ y < na
  · obtain ⟨rfl, rfl, h2⟩ := c
    rw [rcw_6 h2]
    by_cases e : y = i
    · subst e; rw [xu_self, va_up_self]; rfl
    · rw [xu_ne (by simp [e]), rcw_6 h2, va_up_ne _ _ e]
  · rw [xu_ne (fun q => c (by cases q; exact ⟨rfl, rfl, h⟩)), rcw_o c, rcw_o c]
theorem rcI_0 : rcI sg rc p f 0 = rc := by funext a; simp [rcI]
theorem rcI_i : rcI sg rc p f i i = rc i := by simp [rcI]
theorem rcI_s (h1 : (!rcI sg rc p f i i && decide (sg 7 i 0 = nI p)) = true) (h2 : bt (sg 8 i 0) f = true) : va_up (rcI sg rc p f i) i true = rcI sg rc p f (i + 1) := by
  funext a
  rw [Bool.and_eq_true] at h1
  by_cases e : a = i
  · subst e; rw [va_up_self]; simp only [rcI, h2, h1.2, decide_eq_true (Nat.lt_succ_self a), Bool.and_true, Bool.or_true]
  · rw [va_up_ne _ _ e]
    simp only [rcI, show decide (a < i) = decide (a < i + 1) from decide_eq_decide.mpr (by omega)]
theorem rcI_n (h : (!rcI sg rc p f i i && decide (sg 7 i 0 = nI p)) = false ∨ (!rcI sg rc p f i i && decide (sg 7 i 0 = nI p)) = true ∧ bt (sg 8 i 0) f = false) : rcI sg rc p f i = rcI sg rc p f (i + 1) := by
  rw [rcI_i] at h
  funext a
  by_cases e : a = i
  · subst e
    rw [rcI_i]
    simp only [rcI, decide_eq_true (Nat.lt_succ_self a), Bool.true_and]
    rcases h with h | ⟨_, h⟩
    · cases h1 : rc a
      · rw [h1] at h; simp only [Bool.not_false, Bool.true_and] at h; rw [h]; rfl
      · rfl
    · rw [h]; simp
  · simp only [rcI, show decide (a < i) = decide (a < i + 1) from decide_eq_decide.mpr (by omega)]
theorem prc_s (h1 : (!rcI sg rc p f i i && decide (sg 7 i 0 = nI p)) = true) (h2 : bt (sg 8 i 0) f = true) : bsum (prc sg rc p f) i + 1 = bsum (prc sg rc p f) (i + 1) := by
  rw [rcI_i] at h1
  show _ = bsum _ i + (if prc sg rc p f i = true then 1 else 0)
  rw [if_pos (by unfold prc; rw [h1, h2]; rfl)]
theorem prc_n (h : (!rcI sg rc p f i i && decide (sg 7 i 0 = nI p)) = false ∨ (!rcI sg rc p f i i && decide (sg 7 i 0 = nI p)) = true ∧ bt (sg 8 i 0) f = false) : bsum (prc sg rc p f) i = bsum (prc sg rc p f) (i + 1) := by
  rw [rcI_i] at h
  show _ = bsum _ i + (if prc sg rc p f i = true then 1 else 0)
  rw [if_neg (by unfold prc; rcases h with h | ⟨_, h⟩ <;> rw [h] <;> simp)]; rfl
theorem RMg.kw (h : RMg E al w nf np na nw sg rc KF KC) (hp : p < np) (K : Nat → Nat → Int32) (C : Nat → Nat) : RMg E al (kw E al w p K C) nf np na nw sg rc (va_up KF p K) (va_up KC p C) := by
  obtain ⟨hA, hC, hP, hN⟩ := h
  refine ⟨hA.of (fun t ht => kw_o (by omega)) (fun _ _ => rfl), fun i hi => ?_, fun q hq => ?_, fun a ha => ?_⟩
  · rw [kw_o (by simp)]; exact hC i hi
  · by_cases e : q = p
    · subst e; rw [va_up_self, va_up_self]; exact kw_PT (hP q hq) K C
    · rw [va_up_ne _ _ e, va_up_ne _ _ e]
      exact (hP q hq).mv (fun t _ _ h3 => kw_o (fun z => e (by rw [← h3]; exact z.2.1))) (fun _ _ _ _ => rfl)
  · rw [kw_o (by simp)]; exact hN a ha
theorem RMg.rcw (h : RMg E al w nf np na nw sg rc KF KC) (r : Nat → Bool) : RMg E al (rcw w sg na r) nf np na nw sg r KF KC := by
  obtain ⟨hA, hC, hP, hN⟩ := h
  refine ⟨hA.of (fun t ht => rcw_o (by omega)) (fun _ _ => rfl), fun i hi => ?_, fun q hq => ?_, fun a ha => rcw_6 ha⟩
  · rw [rcw_o (by simp)]; exact hC i hi
  · exact (hP q hq).mv (fun t _ h2 _ => rcw_o (by omega)) (fun _ _ _ _ => rfl)
theorem kf_s (h : (!rc i && decide (sg 7 i 0 = nI p)) = true) : ∀ b, b < 8 → lK (KFs sg rc i p) (sg 9 i 0) (sg 8 i 0) 8 b = KFs sg rc (i + 1) p b := by
  intro b hb
  show (if b < 8 ∧ cov (sg 9 i 0) b = true then lrF _ 16 _ else _) = (if ((!rc i && decide (sg 7 i 0 = nI p)) && cov (sg 9 i 0) b) = true then lrF _ 16 _ else _)
  rw [h, Bool.true_and]
  by_cases c : cov (sg 9 i 0) b = true
  · rw [if_pos ⟨hb, c⟩, if_pos c]
  · rw [if_neg (fun q => c q.2), if_neg c]
theorem kc_s (h : (!rc i && decide (sg 7 i 0 = nI p)) = true) : ∀ b, b < 8 → lC (KFs sg rc i p) (KCs sg rc i p) (sg 9 i 0) (sg 8 i 0) 8 b = KCs sg rc (i + 1) p b := by
  intro b hb
  show (if b < 8 ∧ cov (sg 9 i 0) b = true then _ + lrG _ 16 _ else _) = cnt (stdb sg rc p b) (sets sg) i + (if ((!rc i && decide (sg 7 i 0 = nI p)) && cov (sg 9 i 0) b) = true then lrG _ 16 _ else 0)
  rw [h, Bool.true_and]
  by_cases c : cov (sg 9 i 0) b = true
  · rw [if_pos ⟨hb, c⟩, if_pos c]
  · rw [if_neg (fun q => c q.2), if_neg c]; rfl
theorem kf_n (h : (!rc i && decide (sg 7 i 0 = nI p)) = false) : ∀ b, b < 8 → KFs sg rc i p b = KFs sg rc (i + 1) p b := by
  intro b hb
  show _ = (if ((!rc i && decide (sg 7 i 0 = nI p)) && cov (sg 9 i 0) b) = true then lrF _ 16 _ else _)
  rw [h, Bool.false_and]; rfl
theorem kc_n (h : (!rc i && decide (sg 7 i 0 = nI p)) = false) : ∀ b, b < 8 → KCs sg rc i p b = KCs sg rc (i + 1) p b := by
  intro b hb
  show _ = cnt (stdb sg rc p b) (sets sg) i + (if ((!rc i && decide (sg 7 i 0 = nI p)) && cov (sg 9 i 0) b) = true then lrG _ 16 _ else 0)
  rw [h, Bool.false_and]; rfl
theorem rws_cong {c d : Nat → Bool} {S T : Nat → Int32} : ∀ n, (∀ a, a < n → c a = d a ∧ S a = T a) → rws c S n = rws d T n ∧ cnt c S n = cnt d T n
  | 0, _ => ⟨rfl, rfl⟩
  | n + 1, h => by
    obtain ⟨h1, h2⟩ := rws_cong n (fun a ha => h a (by omega))
    obtain ⟨h3, h4⟩ := h n (Nat.lt_succ_self n)
    constructor
    · show (if c n then lrF (rws c S n) 16 (S n) else rws c S n) = if d n then lrF (rws d T n) 16 (T n) else rws d T n
      rw [h1, h3, h4]
    · show cnt c S n + (if c n then lrG (rws c S n) 16 (S n) else 0) = cnt d T n + (if d n then lrG (rws d T n) 16 (T n) else 0)
      rw [h1, h2, h3, h4]
theorem KFs_rc {rc' : Nat → Bool} {q : Nat} (h : ∀ a, a < na → sg 7 a 0 = nI q → rc' a = rc a) : KFs sg rc' na q = KFs sg rc na q ∧ KCs sg rc' na q = KCs sg rc na q := by
  have k : ∀ b a, a < na → stdb sg rc' q b a = stdb sg rc q b a := by
    intro b a ha
    unfold stdb
    by_cases e : sg 7 a 0 = nI q
    · rw [h a ha e]
    · rw [decide_eq_false e]; simp
  exact ⟨funext fun b => (rws_cong na (fun a ha => ⟨k b a ha, rfl⟩)).1, funext fun b => (rws_cong na (fun a ha => ⟨k b a ha, rfl⟩)).2⟩
theorem rcI_out (hI : INV nf np na nw sg rc) : ∀ a, na ≤ a → rcI sg rc p f na a = false := by
  obtain ⟨v16, v6, v150, vnow, vA, vS, vP, vK, vR⟩ := hI
  intro a ha
  unfold rcI
  rw [vR a ha, decide_eq_false (by omega)]; rfl
theorem INV_rc (hI : INV nf np na nw sg rc) (h : ∀ a, na ≤ a → r a = false) : INV nf np na nw sg r := by
  obtain ⟨v16, v6, v150, vnow, vA, vS, vP, vK, vR⟩ := hI
  exact ⟨v16, v6, v150, vnow, vA, vS, vP, vK, h⟩
theorem RM_kwrc (h : RM E al w nf np na nw sg rc) (hI : INV nf np na nw sg rc) (hp : p < np) : RM E al (kw E al (rcw w sg na (rcI sg rc p f na)) p (KFs sg (rcI sg rc p f na) na p) (KCs sg (rcI sg rc p f na) na p)) nf np na nw sg (rcI sg rc p f na) := by
  have h1 := RMg.kw (RMg.rcw (RM_g.mp h) (rcI sg rc p f na)) hp (KFs sg (rcI sg rc p f na) na p) (KCs sg (rcI sg rc p f na) na p)
  refine RM_g.mpr ?_
  obtain ⟨hA, hC, hP, hN⟩ := h1
  refine ⟨hA, hC, fun q hq => ?_, hN⟩
  have := hP q hq
  by_cases e : q = p
  · subst e; rw [va_up_self, va_up_self] at this; exact this
  · rw [va_up_ne _ _ e, va_up_ne _ _ e] at this
    have v6 : np ≤ 6 := hI.2.1
    have k := KFs_rc (sg := sg) (rc := rc) (rc' := rcI sg rc p f na) (na := na) (q := q) (fun a ha h7 => by
      unfold rcI
      rw [h7, decide_eq_false (mt (nI_eq (a := q) (b := p) (by omega) (by omega)).mp e)]; simp)
    show PT E al _ q _ _ _ _ _ (KFs sg (rcI sg rc p f na) na q) (KCs sg (rcI sg rc p f na) na q)
    rw [k.1, k.2]
    exact this
theorem RM_rc0 (h : RM E al w nf np na nw sg rc) (hI : INV nf np na nw sg rc) (h0 : bsum (prc sg rc p f) na = 0) : RM E al (rcw w sg na (rcI sg rc p f na)) nf np na nw sg (rcI sg rc p f na) := by
  have hz : ∀ n, bsum (prc sg rc p f) n = 0 → ∀ a, a < n → prc sg rc p f a = false := by
    intro n
    induction n with
    | zero => intro _ a ha; omega
    | succ n ih =>
      intro hs a ha
      have hs' : bsum (prc sg rc p f) n + (if prc sg rc p f n = true then 1 else 0) = 0 := hs
      by_cases e : a = n
      · subst e
        cases hq : prc sg rc p f a
        · rfl
        · rw [hq, if_pos rfl] at hs'; omega
      · exact ih (by omega) a (by omega)
  have e : ∀ a, a < na → rcI sg rc p f na a = rc a := by
    intro a ha
    have := hz na h0 a ha
    unfold prc at this
    unfold rcI
    cases h1 : rc a
    · rw [h1] at this
      simp only [Bool.not_false, Bool.true_and] at this
      rw [this]; simp
    · rfl
  refine RM_g.mpr ?_
  have h1 := RMg.rcw (RM_g.mp h) (rcI sg rc p f na)
  obtain ⟨hA, hC, hP, hN⟩ := h1
  refine ⟨hA, hC, fun q hq => ?_, hN⟩
  have k := KFs_rc (sg := sg) (rc := rc) (rc' := rcI sg rc p f na) (na := na) (q := q) (fun a ha _ => e a ha)
  show PT E al _ q _ _ _ _ _ (KFs sg (rcI sg rc p f na) na q) (KCs sg (rcI sg rc p f na) na q)
  rw [k.1, k.2]
  exact hP q hq
end RCW
set_option maxHeartbeats 4000000 in
set_option maxRecDepth 100000 in
theorem c_learnAnew (l : Launch) {E : xE} {base : Nat} {al : Tg → Nat} {w : Tg → Option va_E} {nf np na nw : Nat} {sg : Nat → Nat → Nat → Int32} {rc : Nat → Bool} {KF : Nat → Nat → Nat → Int32} {KC : Nat → Nat → Nat} (hR : RMg E al w nf np na nw sg rc KF KC) (hI : INV nf np na nw sg rc) {p : Nat} (hp : p < np) : xMet l yX6_learnAnew cX6_learnAnew 4 none ({ frames := 3, cells := 0, slots := 0, locals := 67 } : Room) E base [.ref (al (0, 0, 0)), .ref (al (2, p, 0))] (fun H => xH E base al w H) (fun r H => r = none ∧ xH E base al (kw E al w p (KFs sg rc na p) (KCs sg rc na p)) H) := by
  refine xMet.of (by decide +kernel) "Dataroom" rfl (Nat.le_of_ble_eq_true rfl) ?_
  intro p9 e9 s m9 below meth c9 ls C hin hP hS hl
  have hx := C.hx
  have hb := C.hb
  have hH := hP
  have hl : lv_has ls 4 [(0, .ref (al (0, 0, 0))), (1, .ref (al (2, p, 0)))] := hl
  obtain ⟨post, hpost⟩ : ∃ zz9 : Option Value → Heap → Prop, zz9 = (fun r H => r = none ∧ xH E base al (kw E al w p (KFs sg rc na p) (KCs sg rc na p)) H) := ⟨_, rfl⟩
  rw [← hpost]
  generalize hQ : (MQ below (xQ base post) ([.ref (al (0, 0, 0)), .ref (al (2, p, 0))] : List Value).toArray s 0 0 (xA base)) = Q
  have hR0 := hR
  have hI0 := hI
  have hR1 := hR
  obtain ⟨⟨hX, hF, hPl, hAl, hSh, hMk⟩, hC, hPT, hAn⟩ := hR1
  obtain ⟨mcF, aF, hLF⟩ := hF.sz
  obtain ⟨mcP, aP, hLP⟩ := hPl.sz
  obtain ⟨mcA, aA, hLA⟩ := hAl.sz
  obtain ⟨v16, v6, v150, vnow, vA, vS, vP, vK, vR⟩ := hI
  refine lv_aload_n hx hb dX6_learnAnew_0 rfl (lv_at hl 1 rfl) ?_
  refine x_callV C hH hS (ci := 5) (t := (2, p, 0)) (hPT p (by omega)).1 rfl rfl (c_pforget l (E := E) (base := base) (hPT p hp)) hH kX4_forget qw_354 qw_355 qw_353  rfl [] rfl hl.1 (Nat.le_of_ble_eq_true rfl) ⟨Nat.le_of_ble_eq_true rfl, Nat.le_of_ble_eq_true rfl⟩ dX6_learnAnew_1 ⟨Nat.le_of_ble_eq_true rfl, Nat.le_of_ble_eq_true rfl⟩ (fun r_2 H locs hp_1 hS => ?_)
  obtain ⟨rfl, hH⟩ := hp_1
  rw [kw_cong (KF := gK (KF p) 8) (KC := gC (KC p) 8) (KF' := KFs sg rc 0 p) (KC' := KCs sg rc 0 p) (fun b hb => if_pos hb) (fun b hb => if_pos hb)] at hH
  refine lv_iconst (v := nI 0) hx hb dX6_learnAnew_4 (by decide +kernel) ?_
  refine lv_istore_n (lv' := [(2, .int (nI 0)), (0, .ref (al (0, 0, 0))), (1, .ref (al (2, p, 0)))]) hx hb dX6_learnAnew_5 rfl hl (by decide) rfl (fun ls hl => ?_)
  have lp6 : ∀ (i : Nat), i ≤ na → ∀  (H : Heap) (locs : List Loc) (ls : Array Slot), xH E base al (kw E al w p (KFs sg rc i p) (KCs sg rc i p)) H → va_S (xA base) s.heap H locs → lv_has ls 4 [(2, .int (nI i)), (1, .ref (al (2, p, 0))), (0, .ref (al (0, 0, 0)))] → W p9 l e9 ({ frames := 3, cells := 0, slots := 0, locals := 67 } : Room) s m9 ([.ref (al (0, 0, 0)), .ref (al (2, p, 0))] : List Value).toArray below meth c9 H locs 0 0 Q (F0 m9 6 ls []) := by
    refine lp_up ?_
    intro i hii ih6  H locs ls hH hS hl
    have hR1 := RMg.kw hR0 hp (KFs sg rc i p) (KCs sg rc i p)
    obtain ⟨⟨hX, hF, hPl, hAl, hSh, hMk⟩, hC, hPT, hAn⟩ := hR1
    obtain ⟨mcF, aF, hLF⟩ := hF.sz
    obtain ⟨mcP, aP, hLP⟩ := hPl.sz
    obtain ⟨mcA, aA, hLA⟩ := hAl.sz
    have hPp := hPT p hp
    rw [va_up_self, va_up_self] at hPp
    refine lv_iload_n hx hb dX6_learnAnew_6 rfl (lv_at hl 0 rfl) ?_
    refine lv_aload_n hx hb dX6_learnAnew_7 rfl (lv_at hl 2 rfl) ?_
    refine x_get C hH (ci := 7) (T := TX6) (N := 6) hX rfl iWX6 2 (by decide) qw_89 rfl rfl dX6_learnAnew_8 ?_
    refine x_callV C hH hS (ci := 0) (t := (0, 3, 0)) hLA rfl rfl (c_size l (E := E) (base := base) (al := al) hLA) hH kJx4a65c_size_8abf5 qw_197 qw_198 qw_196  rfl [.int (nI i)] rfl hl.1 (Nat.le_of_ble_eq_true rfl) ⟨Nat.le_of_ble_eq_true rfl, Nat.le_of_ble_eq_true rfl⟩ dX6_learnAnew_11 ⟨Nat.le_of_ble_eq_true rfl, Nat.le_of_ble_eq_true rfl⟩ (fun r_4 H locs hp_3 hS => ?_)
    obtain ⟨rfl, hH⟩ := hp_3
    refine lv_icmp_ge (tgt := 55) hx hb dX6_learnAnew_14 (by decide) (fun c_5 => ?_) (fun c_5 => ?_)
    · skip
      replace c_5 := (nI_leI (by omega) (by omega)).mp c_5
      rw [← hQ]
      refine x_retv C hS (Nat.le_of_ble_eq_true rfl) (Nat.le_of_ble_eq_true rfl) dX6_learnAnew_55 ?_
      rw [hpost]
      have e8 : i = na := by omega
      subst e8
      exact ⟨rfl, hH⟩
    · skip
      replace c_5 := mt (nI_leI (by omega) (by omega)).mpr c_5
      refine lv_aload_n hx hb dX6_learnAnew_17 rfl (lv_at hl 2 rfl) ?_
      refine x_get C hH (ci := 7) (T := TX6) (N := 6) hX rfl iWX6 2 (by decide) qw_89 rfl rfl dX6_learnAnew_18 ?_
      refine lv_iload_n hx hb dX6_learnAnew_21 rfl (lv_at hl 0 rfl) ?_
      obtain ⟨mcz_6, capz_6, gz_6, a1z_6, a2z_6, a3z_6, a4z_6, a5z_6⟩ := hAl.at (i := i) (by omega)
      refine x_callV C hH hS (ci := 0) (t := (0, 3, 0)) a1z_6 rfl rfl (c_get l (E := E) (base := base) a1z_6 a2z_6 (i := i) (by omega) a3z_6 a4z_6 a5z_6) hH kJx4a65c_get_915e3 qw_323 qw_324 qw_322  rfl [] rfl hl.1 (Nat.le_of_ble_eq_true rfl) ⟨Nat.le_of_ble_eq_true rfl, Nat.le_of_ble_eq_true rfl⟩ dX6_learnAnew_22 ⟨Nat.le_of_ble_eq_true rfl, Nat.le_of_ble_eq_true rfl⟩ (fun r_8 H locs hp_7 hS => ?_)
      obtain ⟨rfl, hH⟩ := hp_7
      refine x_cast C hH (ci := 1) (hAn i (by omega)) rfl qw_341 dX6_learnAnew_25 ?_
      refine lv_astore_n (lv' := [(3, .ref (al (6, i, 0))), (2, .int (nI i)), (1, .ref (al (2, p, 0))), (0, .ref (al (0, 0, 0)))]) hx hb dX6_learnAnew_28 rfl hl (by decide) rfl (fun ls hl => ?_)
      refine lv_aload_n hx hb dX6_learnAnew_29 rfl (lv_at hl 0 rfl) ?_
      refine lv_aload_n hx hb dX6_learnAnew_30 rfl (lv_at hl 2 rfl) ?_
      refine x_callV C hH hS (ci := 1) (t := (6, i, 0)) (hAn i (by omega)) rfl rfl (c_stands l (E := E) (base := base) (hAn i (by omega)) (hPT p hp).1) hH kX0_standsFor qw_343 qw_344 qw_342  rfl [] rfl hl.1 (Nat.le_of_ble_eq_true rfl) ⟨Nat.le_of_ble_eq_true rfl, Nat.le_of_ble_eq_true rfl⟩ dX6_learnAnew_31 ⟨Nat.le_of_ble_eq_true rfl, Nat.le_of_ble_eq_true rfl⟩ (fun r_10 H locs hp_9 hS => ?_)
      obtain ⟨rfl, hH⟩ := hp_9
      refine lv_if_eq (tgt := 49) hx hb dX6_learnAnew_34 (by decide) (fun c_11 => ?_) (fun c_11 => ?_)
      · skip
        replace c_11 := ob_0.mp c_11
        refine lv_iinc (v := nI (i + 1)) (lv' := [(2, .int (nI (i + 1))), (3, .ref (al (6, i, 0))), (1, .ref (al (2, p, 0))), (0, .ref (al (0, 0, 0)))]) hx hb dX6_learnAnew_49 hl (k := 1) rfl (nI_1 _) (by decide) rfl (fun ls hl => ?_)
        refine lv_goto (tgt := 6) hx hb dX6_learnAnew_52 (by decide) ?_
        exact ih6 (by omega)  _ _ _  (by rw [kw_cong (kf_n c_11) (kc_n c_11)] at hH; exact hH) hS (lv_sub hl [0, 2, 3] rfl)
      · skip
        replace c_11 := ob_n.mp c_11
        refine lv_aload_n hx hb dX6_learnAnew_37 rfl (lv_at hl 2 rfl) ?_
        refine lv_aload_n hx hb dX6_learnAnew_38 rfl (lv_at hl 0 rfl) ?_
        refine x_getN C hH (ci := 1) (T := TX0) (N := 6) (hAn i (by omega)) rfl iWX0 1 (by decide) nw_554 rfl rfl dX6_learnAnew_39 ?_
        refine lv_aload_n hx hb dX6_learnAnew_42 rfl (lv_at hl 0 rfl) ?_
        refine x_getN C hH (ci := 1) (T := TX0) (N := 6) (hAn i (by omega)) rfl iWX0 2 (by decide) nw_556 rfl rfl dX6_learnAnew_43 ?_
        refine x_callV C hH hS (ci := 5) (t := (2, p, 0)) (hPT p (by omega)).1 rfl rfl (c_plearn l (E := E) (base := base) hPp (x := sg 8 i 0) (bit := sg 9 i 0)) hH kX4_learn qw_362 qw_363 qw_361  rfl [] rfl hl.1 (Nat.le_of_ble_eq_true rfl) ⟨Nat.le_of_ble_eq_true rfl, Nat.le_of_ble_eq_true rfl⟩ dX6_learnAnew_46 ⟨Nat.le_of_ble_eq_true rfl, Nat.le_of_ble_eq_true rfl⟩ (fun r_13 H locs hp_12 hS => ?_)
        obtain ⟨rfl, hH⟩ := hp_12
        rw [kw_kw, kw_cong (kf_s c_11) (kc_s c_11)] at hH
        refine lv_iinc (v := nI (i + 1)) (lv' := [(2, .int (nI (i + 1))), (3, .ref (al (6, i, 0))), (1, .ref (al (2, p, 0))), (0, .ref (al (0, 0, 0)))]) hx hb dX6_learnAnew_49 hl (k := 1) rfl (nI_1 _) (by decide) rfl (fun ls hl => ?_)
        refine lv_goto (tgt := 6) hx hb dX6_learnAnew_52 (by decide) ?_
        exact ih6 (by omega)  _ _ _  hH hS (lv_sub hl [0, 2, 3] rfl)
  exact lp6 0 (Nat.zero_le _)  _ _ _  hH hS (lv_sub hl [0, 2, 1] rfl)

set_option maxHeartbeats 4000000 in
set_option maxRecDepth 100000 in
theorem c_recall (l : Launch) {E : xE} {base : Nat} {al : Tg → Nat} {w : Tg → Option va_E} {nf np na nw : Nat} {sg : Nat → Nat → Nat → Int32} {rc : Nat → Bool} (hR : RM E al w nf np na nw sg rc) (hI : INV nf np na nw sg rc) {p f : Nat} (hp : p < np) (hf : f < 32) : xMet l yX6_recall cX6_recall 6 (some (.int)) ({ frames := 4, cells := 0, slots := 0, locals := 90 } : Room) E base [.ref (al (0, 0, 0)), .ref (al (2, p, 0)), .int (nI f)] (fun H => xH E base al w H) (fun r H => r = some (.int (nI (bsum (prc sg rc p f) na))) ∧ ∃ w9, xH E base al w9 H ∧ RM E al w9 nf np na nw sg (rcI sg rc p f na) ∧ ∀ t : Tg, 7 ≤ t.1 → w9 t = w t) := by
  refine xMet.of (by decide +kernel) "Dataroom" rfl (Nat.le_of_ble_eq_true rfl) ?_
  intro p9 e9 s m9 below meth c9 ls C hin hP hS hl
  have hx := C.hx
  have hb := C.hb
  have hH := hP
  have hl : lv_has ls 6 [(0, .ref (al (0, 0, 0))), (1, .ref (al (2, p, 0))), (2, .int (nI f))] := hl
  obtain ⟨post, hpost⟩ : ∃ zz9 : Option Value → Heap → Prop, zz9 = (fun r H => r = some (.int (nI (bsum (prc sg rc p f) na))) ∧ ∃ w9, xH E base al w9 H ∧ RM E al w9 nf np na nw sg (rcI sg rc p f na) ∧ ∀ t : Tg, 7 ≤ t.1 → w9 t = w t) := ⟨_, rfl⟩
  rw [← hpost]
  generalize hQ : (MQ below (xQ base post) ([.ref (al (0, 0, 0)), .ref (al (2, p, 0)), .int (nI f)] : List Value).toArray s 0 0 (xA base)) = Q
  have hR0 := hR
  have hI0 := hI
  obtain ⟨hX, hF, hPl, hAl, hSh, hMk, hC, hPT, hAn⟩ := hR
  obtain ⟨mcF, aF, hLF⟩ := hF.sz
  obtain ⟨mcP, aP, hLP⟩ := hPl.sz
  obtain ⟨mcA, aA, hLA⟩ := hAl.sz
  obtain ⟨v16, v6, v150, vnow, vA, vS, vP, vK, vR⟩ := hI
  refine lv_iconst (v := nI 0) hx hb dX6_recall_0 (by decide +kernel) ?_
  refine lv_istore_n (lv' := [(3, .int (nI 0)), (0, .ref (al (0, 0, 0))), (1, .ref (al (2, p, 0))), (2, .int (nI f))]) hx hb dX6_recall_1 rfl hl (by decide) rfl (fun ls hl => ?_)
  refine lv_iconst (v := nI 0) hx hb dX6_recall_2 (by decide +kernel) ?_
  refine lv_istore (lv' := [(4, .int (nI 0)), (3, .int (nI 0)), (0, .ref (al (0, 0, 0))), (1, .ref (al (2, p, 0))), (2, .int (nI f))]) hx hb dX6_recall_3 hl (by decide) rfl (fun ls hl => ?_)
  have lp5 : ∀ (i : Nat), i ≤ na → ∀ (y : Nat) (H : Heap) (locs : List Loc) (ls : Array Slot), y = bsum (prc sg rc p f) i → xH E base al (rcw w sg na (rcI sg rc p f i)) H → va_S (xA base) s.heap H locs → lv_has ls 6 [(4, .int (nI i)), (3, .int (nI y)), (2, .int (nI f)), (1, .ref (al (2, p, 0))), (0, .ref (al (0, 0, 0)))] → W p9 l e9 ({ frames := 4, cells := 0, slots := 0, locals := 90 } : Room) s m9 ([.ref (al (0, 0, 0)), .ref (al (2, p, 0)), .int (nI f)] : List Value).toArray below meth c9 H locs 0 0 Q (F0 m9 5 ls []) := by
    refine lp_up ?_
    intro i hii ih5 y H locs ls hy hH hS hl
    have hR1 := RMg.rcw (RM_g.mp hR0) (rcI sg rc p f i)
    obtain ⟨⟨hX, hF, hPl, hAl, hSh, hMk⟩, hC, hPT, hAn⟩ := hR1
    obtain ⟨mcF, aF, hLF⟩ := hF.sz
    obtain ⟨mcP, aP, hLP⟩ := hPl.sz
    obtain ⟨mcA, aA, hLA⟩ := hAl.sz
    have hyb := bsum_le (prc sg rc p f) i
    rw [← hy] at hyb
    refine lv_iload hx hb dX6_recall_5 (lv_at hl 0 rfl) ?_
    refine lv_aload_n hx hb dX6_recall_7 rfl (lv_at hl 4 rfl) ?_
    refine x_get C hH (ci := 7) (T := TX6) (N := 6) hX rfl iWX6 2 (by decide) qw_89 rfl rfl dX6_recall_8 ?_
    refine x_callV C hH hS (ci := 0) (t := (0, 3, 0)) hLA rfl rfl (c_size l (E := E) (base := base) (al := al) hLA) hH kJx4a65c_size_8abf5 qw_197 qw_198 qw_196  rfl [.int (nI i)] rfl hl.1 (Nat.le_of_ble_eq_true rfl) ⟨Nat.le_of_ble_eq_true rfl, Nat.le_of_ble_eq_true rfl⟩ dX6_recall_11 ⟨Nat.le_of_ble_eq_true rfl, Nat.le_of_ble_eq_true rfl⟩ (fun r_2 H locs hp_1 hS => ?_)
    obtain ⟨rfl, hH⟩ := hp_1
    refine lv_icmp_ge (tgt := 67) hx hb dX6_recall_14 (by decide) (fun c_3 => ?_) (fun c_3 => ?_)
    · skip
      replace c_3 := (nI_leI (by omega) (by omega)).mp c_3
      have e8 : na = i := by omega
      subst e8
      refine lv_iload_n hx hb dX6_recall_67 rfl (lv_at hl 1 rfl) ?_
      refine lv_if_le (tgt := 76) hx hb dX6_recall_68 (by decide) (fun c_4 => ?_) (fun c_4 => ?_)
      · skip
        replace c_4 := (nI_le0 (by omega)).mp c_4
        refine lv_iload_n hx hb dX6_recall_76 rfl (lv_at hl 1 rfl) ?_
        rw [← hQ]
        refine x_reti C rfl hS (Nat.le_of_ble_eq_true rfl) (Nat.le_of_ble_eq_true rfl) dX6_recall_77 ?_
        rw [hpost]
        exact ⟨by rw [hy], _, hH, RM_rc0 hR0 hI0 (by rw [← hy]; exact c_4), fun t ht => rcw_o (by omega)⟩
      · skip
        replace c_4 := mt (nI_le0 (by omega)).mpr c_4
        refine lv_aload_n hx hb dX6_recall_71 rfl (lv_at hl 4 rfl) ?_
        refine lv_aload_n hx hb dX6_recall_72 rfl (lv_at hl 3 rfl) ?_
        refine x_callV C hH hS (ci := 7) (t := (0, 0, 0)) hX rfl rfl (c_learnAnew l (E := E) (base := base) (RMg.rcw (RM_g.mp hR0) (rcI sg rc p f na)) (INV_rc hI0 (rcI_out hI0)) hp) hH kX6_learnAnew qw_351 (ws_p (List.mem_of_getElem? (i := 7) rfl) rfl) qw_349  rfl [] rfl hl.1 (Nat.le_of_ble_eq_true rfl) ⟨Nat.le_of_ble_eq_true rfl, Nat.le_of_ble_eq_true rfl⟩ dX6_recall_73 ⟨Nat.le_of_ble_eq_true rfl, Nat.le_of_ble_eq_true rfl⟩ (fun r_6 H locs hp_5 hS => ?_)
        obtain ⟨rfl, hH⟩ := hp_5
        refine lv_iload_n hx hb dX6_recall_76 rfl (lv_at hl 1 rfl) ?_
        rw [← hQ]
        refine x_reti C rfl hS (Nat.le_of_ble_eq_true rfl) (Nat.le_of_ble_eq_true rfl) dX6_recall_77 ?_
        rw [hpost]
        exact ⟨by rw [hy], _, hH, RM_kwrc hR0 hI0 hp, fun t ht => by rw [kw_o (by omega), rcw_o (by omega)]⟩
    · skip
      replace c_3 := mt (nI_leI (by omega) (by omega)).mpr c_3
      refine lv_aload_n hx hb dX6_recall_17 rfl (lv_at hl 4 rfl) ?_
      refine x_get C hH (ci := 7) (T := TX6) (N := 6) hX rfl iWX6 2 (by decide) qw_89 rfl rfl dX6_recall_18 ?_
      refine lv_iload hx hb dX6_recall_21 (lv_at hl 0 rfl) ?_
      obtain ⟨mcz_7, capz_7, gz_7, a1z_7, a2z_7, a3z_7, a4z_7, a5z_7⟩ := hAl.at (i := i) (by omega)
      refine x_callV C hH hS (ci := 0) (t := (0, 3, 0)) a1z_7 rfl rfl (c_get l (E := E) (base := base) a1z_7 a2z_7 (i := i) (by omega) a3z_7 a4z_7 a5z_7) hH kJx4a65c_get_915e3 qw_323 qw_324 qw_322  rfl [] rfl hl.1 (Nat.le_of_ble_eq_true rfl) ⟨Nat.le_of_ble_eq_true rfl, Nat.le_of_ble_eq_true rfl⟩ dX6_recall_23 ⟨Nat.le_of_ble_eq_true rfl, Nat.le_of_ble_eq_true rfl⟩ (fun r_9 H locs hp_8 hS => ?_)
      obtain ⟨rfl, hH⟩ := hp_8
      refine x_cast C hH (ci := 1) (hAn i (by omega)) rfl qw_341 dX6_recall_26 ?_
      refine lv_astore (lv' := [(5, .ref (al (6, i, 0))), (4, .int (nI i)), (3, .int (nI y)), (2, .int (nI f)), (1, .ref (al (2, p, 0))), (0, .ref (al (0, 0, 0)))]) hx hb dX6_recall_29 hl (by decide) rfl (fun ls hl => ?_)
      refine lv_aload hx hb dX6_recall_31 (lv_at hl 0 rfl) ?_
      refine lv_aload_n hx hb dX6_recall_33 rfl (lv_at hl 4 rfl) ?_
      refine x_callV C hH hS (ci := 1) (t := (6, i, 0)) (hAn i (by omega)) rfl rfl (c_stands l (E := E) (base := base) (hAn i (by omega)) (hPT p hp).1) hH kX0_standsFor qw_343 qw_344 qw_342  rfl [] rfl hl.1 (Nat.le_of_ble_eq_true rfl) ⟨Nat.le_of_ble_eq_true rfl, Nat.le_of_ble_eq_true rfl⟩ dX6_recall_34 ⟨Nat.le_of_ble_eq_true rfl, Nat.le_of_ble_eq_true rfl⟩ (fun r_11 H locs hp_10 hS => ?_)
      obtain ⟨rfl, hH⟩ := hp_10
      refine lv_if_eq (tgt := 61) hx hb dX6_recall_37 (by decide) (fun c_12 => ?_) (fun c_12 => ?_)
      · skip
        replace c_12 := ob_0.mp c_12
        refine lv_iinc (v := nI (i + 1)) (lv' := [(4, .int (nI (i + 1))), (5, .ref (al (6, i, 0))), (3, .int (nI y)), (2, .int (nI f)), (1, .ref (al (2, p, 0))), (0, .ref (al (0, 0, 0)))]) hx hb dX6_recall_61 hl (k := 1) rfl (nI_1 _) (by decide) rfl (fun ls hl => ?_)
        refine lv_goto (tgt := 5) hx hb dX6_recall_64 (by decide) ?_
        exact ih5 (by omega) y _ _ _ (by rw [hy]; exact prc_n (Or.inl c_12)) (by rw [rcI_n (Or.inl c_12)] at hH; exact hH) hS (lv_sub hl [0, 2, 3, 4, 5] rfl)
      · skip
        replace c_12 := ob_n.mp c_12
        refine lv_aload hx hb dX6_recall_40 (lv_at hl 0 rfl) ?_
        refine x_getN C hH (ci := 1) (T := TX0) (N := 6) (hAn i (by omega)) rfl iWX0 1 (by decide) nw_554 rfl rfl dX6_recall_42 ?_
        refine lv_iload_n hx hb dX6_recall_45 rfl (lv_at hl 3 rfl) ?_
        refine x_callS C hS (c_holds l (E := E) (base := base) (al := al) (w := (rcw w sg na (rcI sg rc p f i))) (x := (sg 8 i 0)) (k := f) (by omega)) hH kX6_holds qw_347 qw_346  rfl [] rfl hl.1 (Nat.le_of_ble_eq_true rfl) ⟨Nat.le_of_ble_eq_true rfl, Nat.le_of_ble_eq_true rfl⟩ dX6_recall_46 ⟨Nat.le_of_ble_eq_true rfl, Nat.le_of_ble_eq_true rfl⟩ (fun r_14 H locs hp_13 hS => ?_)
        obtain ⟨rfl, hH⟩ := hp_13
        refine lv_if_eq (tgt := 61) hx hb dX6_recall_49 (by decide) (fun c_15 => ?_) (fun c_15 => ?_)
        · skip
          replace c_15 := ob_0.mp c_15
          refine lv_iinc (v := nI (i + 1)) (lv' := [(4, .int (nI (i + 1))), (5, .ref (al (6, i, 0))), (3, .int (nI y)), (2, .int (nI f)), (1, .ref (al (2, p, 0))), (0, .ref (al (0, 0, 0)))]) hx hb dX6_recall_61 hl (k := 1) rfl (nI_1 _) (by decide) rfl (fun ls hl => ?_)
          refine lv_goto (tgt := 5) hx hb dX6_recall_64 (by decide) ?_
          exact ih5 (by omega) y _ _ _ (by rw [hy]; exact prc_n (Or.inr ⟨c_12, c_15⟩)) (by rw [rcI_n (Or.inr ⟨c_12, c_15⟩)] at hH; exact hH) hS (lv_sub hl [0, 2, 3, 4, 5] rfl)
        · skip
          replace c_15 := ob_n.mp c_15
          refine lv_aload hx hb dX6_recall_52 (lv_at hl 0 rfl) ?_
          refine lv_iconst (v := nI 1) hx hb dX6_recall_54 (by decide +kernel) ?_
          refine x_putN C hH hS (ci := 1) (T := TX0) (N := 6) (fs' := [.int (sg 7 i 0), .int (sg 8 i 0), .int (sg 9 i 0), .int (sg 10 i 0), .int (sg 11 i 0), .int (nI 1)]) (hAn i (by omega)) rfl iWX0 tyX0 tyX0_ok nmX0 5 (by decide) nw_560 rfl rfl rfl rfl (Nat.le_of_ble_eq_true rfl) rfl dX6_recall_55 (fun H locs hH hS => ?_)
          have hd_16 := (hAn i (by omega))
          have hX := xu_of (t := (6, i, 0)) (e := .inr (1, [.int (sg 7 i 0), .int (sg 8 i 0), .int (sg 9 i 0), .int (sg 10 i 0), .int (sg 11 i 0), .int (nI 1)])) (by simp) hX
          have hLF := xu_of (t := (6, i, 0)) (e := .inr (1, [.int (sg 7 i 0), .int (sg 8 i 0), .int (sg 9 i 0), .int (sg 10 i 0), .int (sg 11 i 0), .int (nI 1)])) (by simp) hLF
          have hLP := xu_of (t := (6, i, 0)) (e := .inr (1, [.int (sg 7 i 0), .int (sg 8 i 0), .int (sg 9 i 0), .int (sg 10 i 0), .int (sg 11 i 0), .int (nI 1)])) (by simp) hLP
          have hLA := xu_of (t := (6, i, 0)) (e := .inr (1, [.int (sg 7 i 0), .int (sg 8 i 0), .int (sg 9 i 0), .int (sg 10 i 0), .int (sg 11 i 0), .int (nI 1)])) (by simp) hLA
          have hd_16 : (xu (rcw w sg na (rcI sg rc p f i)) (6, i, 0) (.inr (1, [.int (sg 7 i 0), .int (sg 8 i 0), .int (sg 9 i 0), .int (sg 10 i 0), .int (sg 11 i 0), .int (nI 1)]))) (6, i, 0) = some (.inr (1, [.int (sg 7 i 0), .int (sg 8 i 0), .int (sg 9 i 0), .int (sg 10 i 0), .int (sg 11 i 0), .int (nI 1)])) := xu_self _ _ _
          refine lv_iinc (v := nI (y + 1)) (lv' := [(3, .int (nI (y + 1))), (5, .ref (al (6, i, 0))), (4, .int (nI i)), (2, .int (nI f)), (1, .ref (al (2, p, 0))), (0, .ref (al (0, 0, 0)))]) hx hb dX6_recall_58 hl (k := 2) rfl (nI_1 _) (by decide) rfl (fun ls hl => ?_)
          refine lv_iinc (v := nI (i + 1)) (lv' := [(4, .int (nI (i + 1))), (3, .int (nI (y + 1))), (5, .ref (al (6, i, 0))), (2, .int (nI f)), (1, .ref (al (2, p, 0))), (0, .ref (al (0, 0, 0)))]) hx hb dX6_recall_61 hl (k := 2) rfl (nI_1 _) (by decide) rfl (fun ls hl => ?_)
          refine lv_goto (tgt := 5) hx hb dX6_recall_64 (by decide) ?_
          exact ih5 (by omega) (y + 1) _ _ _ (by rw [hy]; exact prc_s c_12 c_15) (by rw [rcw_step (by omega), rcI_s c_12 c_15] at hH; exact hH) hS (lv_sub hl [0, 1, 3, 4, 5] rfl)
  exact lp5 0 (Nat.zero_le _) 0 _ _ _ rfl (by rw [rcI_0, rcw_self hAn]; exact hH) hS (lv_sub hl [0, 1, 4, 3, 2] rfl)
