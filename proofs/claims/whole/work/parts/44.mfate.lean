theorem spn_sml {c : Nat → Bool} {S : Nat → Int32} {m : Nat} : ∀ (n : Nat) (y : Int32), (∀ a, a < n → c a = true → sml m (S a)) → spn c S n y → sml m y
  | 0, y, _, h => by
    have e : y = 0 := h
    rw [e]; exact sml_z m
  | n + 1, y, hs, h => by
    rcases h with h | ⟨hc, h⟩
    · exact spn_sml n y (fun a ha => hs a (by omega)) h
    · have := sml_x (spn_sml n _ (fun a ha => hs a (by omega)) h) (hs n (Nat.lt_succ_self n) hc)
      rw [x_yy] at this; exact this
theorem bt_fBs {P : Nat → Bool} {f : Nat} (hf : f < 32) : ∀ n, n ≤ 32 → bt (fBs P n) f = (decide (f < n) && P f)
  | 0, _ => by show bt (nI 0) f = _; rw [nI_0, b_0]; simp
  | n + 1, hn => by
    have ih := bt_fBs (P := P) hf n (by omega)
    show bt (if P n then fBs P n ||| (nI 1 <<< (nI n &&& 31)) else fBs P n) f = _
    by_cases hp : P n = true
    · rw [if_pos hp, b_or, ih, b_shl n (by omega) _ hf, b_1]
      by_cases e : f = n
      · subst e; simp [hp]
      · by_cases k : n ≤ f
        · rw [decide_eq_false (by omega : ¬ f - n = 0), decide_eq_false (by omega : ¬ f < n), decide_eq_false (by omega : ¬ f < n + 1)]; simp
        · rw [decide_eq_false k, decide_eq_true (by omega : f < n), decide_eq_true (by omega : f < n + 1)]; simp
    · rw [if_neg hp, ih]
      by_cases e : f = n
      · subst e
        have : P f = false := by cases h : P f; rfl; exact absurd h hp
        rw [this]; simp
      · rw [show decide (f < n) = decide (f < n + 1) from decide_eq_decide.mpr (by omega)]
theorem b_not {x : Int32} {i : Nat} (hi : i < 32) : bt (x ^^^ (-1)) i = !bt x i := by
  rw [b_xor]
  have : ∀ i, i < 32 → bt (-1) i = true := by unfold bt; decide +kernel
  rw [this i hi]; simp
section WTE
variable {nf np na nw : Nat} {sg : Nat → Nat → Nat → Int32} {rc : Nat → Bool} {p : Nat} {x bit : Int32}
theorem wt_eq (hI : INV nf np na nw sg rc) (hp : p < np) (hxs : sml nf x) : anyB (fun b => cov bit b && anyB (fun f => bt ((fBs (fun f => decide (red (mlF (mrw (kc sg rc (nI 1 <<< (nI p &&& 31)) b) (sets sg) na) x) 16 (nI 1 <<< (nI f &&& 31)) = 0)) nf) &&& ((fBs (fun f => decide (red (mrw (kc sg rc (nI 1 <<< (nI p &&& 31)) b) (sets sg) na) 16 (nI 1 <<< (nI f &&& 31)) = 0)) nf) ^^^ (-1))) f && !decide (rIn (sg 4 p f) (sg 5 p f) (sg 6 p f) (nI nw) = nI 2)) nf) 8 = wTl nw na sg rc p x bit := by
  have v16 : nf ≤ 16 := hI.1
  have key : ∀ b f, f < nf → bt ((fBs (fun f => decide (red (mlF (mrw (kc sg rc (nI 1 <<< (nI p &&& 31)) b) (sets sg) na) x) 16 (nI 1 <<< (nI f &&& 31)) = 0)) nf) &&& ((fBs (fun f => decide (red (mrw (kc sg rc (nI 1 <<< (nI p &&& 31)) b) (sets sg) na) 16 (nI 1 <<< (nI f &&& 31)) = 0)) nf) ^^^ (-1))) f = wre (KFs sg rc na p b) (nI 1 <<< (nI f &&& 31)) x := by
    intro b f hf
    rw [b_and, b_not (by omega), bt_fBs (by omega) nf (by omega), bt_fBs (by omega) nf (by omega), decide_eq_true hf, Bool.true_and, Bool.true_and]
    have hE := (mrw_ok (c := kc sg rc (nI 1 <<< (nI p &&& 31)) b) (S := sets sg) na (fun a ha _ => sml_16 hI a ha)).1
    have hk := (ml_ker hE (x := x) (fun j hj => hxs j (by omega))).2 (nI 1 <<< (nI f &&& 31))
    unfold wre
    rw [show decide (red (mlF (mrw (kc sg rc (nI 1 <<< (nI p &&& 31)) b) (sets sg) na) x) 16 (nI 1 <<< (nI f &&& 31)) = 0) = (decide (red (KFs sg rc na p b) 16 (nI 1 <<< (nI f &&& 31)) = 0) || decide (red (KFs sg rc na p b) 16 ((nI 1 <<< (nI f &&& 31)) ^^^ x) = 0)) by
      rw [← Bool.decide_or]; exact decide_eq_decide.mpr (hk.trans (or_congr (red_kc hI hp) (red_kc hI hp)))]
    rw [show decide (red (mrw (kc sg rc (nI 1 <<< (nI p &&& 31)) b) (sets sg) na) 16 (nI 1 <<< (nI f &&& 31)) = 0) = decide (red (KFs sg rc na p b) 16 (nI 1 <<< (nI f &&& 31)) = 0) from decide_eq_decide.mpr (red_kc hI hp)]
    generalize decide (red (KFs sg rc na p b) 16 (nI 1 <<< (nI f &&& 31)) = 0) = A
    generalize decide (red (KFs sg rc na p b) 16 ((nI 1 <<< (nI f &&& 31)) ^^^ x) = 0) = B
    cases A <;> cases B <;> rfl
  have out : ∀ b f, nf ≤ f → f < 16 → wre (KFs sg rc na p b) (nI 1 <<< (nI f &&& 31)) x = false := by
    intro b f h1 h2
    unfold wre
    rw [decide_eq_false (fun q => ?_)]
    · rfl
    · have h3 := ((rws_ok (c := stdb sg rc p b) (S := sets sg) na (fun a ha _ => sml_16 hI a ha)).2 _).mp q
      have h4 := sml_x (spn_sml (m := nf) na _ (fun a ha _ => (hI.2.2.2.2.1 a ha).2.1) h3) hxs
      rw [x_yy] at h4
      have h5 := h4 f h1
      rw [b_shl f (by omega) _ (by omega), b_1] at h5
      simp at h5
  rw [Bool.eq_iff_iff]
  unfold wTl
  rw [anyB_iff, anyB_iff]
  constructor
  · rintro ⟨b, hb, h⟩
    rw [Bool.and_eq_true, anyB_iff] at h
    obtain ⟨hc, f, hf, h⟩ := h
    rw [key b f hf, Bool.and_eq_true] at h
    refine ⟨f, by omega, ?_⟩
    rw [Bool.and_eq_true, anyB_iff]
    exact ⟨h.2, b, hb, by rw [hc, h.1]; rfl⟩
  · rintro ⟨f, hf, h⟩
    rw [Bool.and_eq_true, anyB_iff] at h
    obtain ⟨h1, b, hb, h2⟩ := h
    rw [Bool.and_eq_true] at h2
    have hfn : f < nf := by
      rcases Nat.lt_or_ge f nf with q | q
      · exact q
      · rw [out b f q hf] at h2; cases h2.2
    refine ⟨b, hb, ?_⟩
    rw [Bool.and_eq_true, anyB_iff]
    exact ⟨h2.1, f, hfn, by rw [key b f hfn, h2.2, h1]; rfl⟩
end WTE
def rkP (sg : Nat → Nat → Nat → Int32) (rc : Nat → Bool) (f : Nat) (pp : Int32) (a : Nat) : Bool := !rc a && (bt (sg 8 a 0) f && (decide (pp = -1) || decide (sg 7 a 0 = pp)))
def rcK (sg : Nat → Nat → Nat → Int32) (rc : Nat → Bool) (f : Nat) (pp : Int32) (i : Nat) : Nat → Bool := fun a => rc a || (decide (a < i) && (bt (sg 8 a 0) f && (decide (pp = -1) || decide (sg 7 a 0 = pp))))
section RCK
variable {sg : Nat → Nat → Nat → Int32} {rc : Nat → Bool} {f i : Nat} {pp : Int32}
theorem rcK_0 : (fun a => ob (rcK sg rc f pp 0 a)) = fun a => ob (rc a) := by funext a; simp [rcK]
theorem rcK_i : rcK sg rc f pp i i = rc i := by simp [rcK]
theorem rcK_s {B : Bool} (h : B = (rc i || (bt (sg 8 i 0) f && (decide (pp = -1) || decide (sg 7 i 0 = pp))))) : upd (fun a => ob (rcK sg rc f pp i a)) i (ob B) = fun a => ob (rcK sg rc f pp (i + 1) a) := by
  funext a
  by_cases e : a = i
  · subst e
    show (if a = a then ob B else _) = _
    rw [if_pos rfl, h]
    unfold rcK
    rw [decide_eq_true (Nat.lt_succ_self a), Bool.true_and]
  · show (if a = i then ob B else ob (rcK sg rc f pp i a)) = _
    rw [if_neg e]
    unfold rcK
    rw [show decide (a < i) = decide (a < i + 1) from decide_eq_decide.mpr (by omega)]
end RCK
theorem MMf.rc {E : xE} {al : Tg → Nat} {w : Tg → Option va_E} {th : Int32} {nf np na nw : Nat} {sg : Nat → Nat → Nat → Int32} {rc : Nat → Bool} {fr : Nat → Int32} (h : MMf E al w th nf np na nw sg rc fr) (r : Nat → Bool) : MMf E al (xu w (10, 16, 0) (.inl (E.2.1 2, 150, .inl (fun a => ob (r a))))) th nf np na nw sg r fr := by
  obtain ⟨hM, mm3, mm4, mm6, mm7, mm8, mm9, mm11, mm12, mm13, mm14, mm15, mm16, mm17, mm18⟩ := h
  exact ⟨xu_of (by simp) hM, xu_of (by simp) mm3, xu_of (by simp) mm4, xu_of (by simp) mm6, xu_of (by simp) mm7, xu_of (by simp) mm8, xu_of (by simp) mm9, xu_of (by simp) mm11, xu_of (by simp) mm12, xu_of (by simp) mm13, xu_of (by simp) mm14, xu_of (by simp) mm15, xu_self _ _ _, xu_of (by simp) mm17, xu_of (by simp) mm18⟩
set_option maxHeartbeats 4000000 in
set_option maxRecDepth 100000 in
theorem m_refusal (l : Launch) {E : xE} {base : Nat} {al : Tg → Nat} {w : Tg → Option va_E} {th : Int32} {nf np na nw : Nat} {sg : Nat → Nat → Nat → Int32} {rc : Nat → Bool} {fr : Nat → Int32} (hMM : MMf E al w th nf np na nw sg rc fr) (hI : INV nf np na nw sg rc) {p : Nat} {x bit : Int32} (hp : p < np) (hxs : sml nf x) : xMet l yX7_refusal cX7_refusal 7 (some (.int)) ({ frames := 4, cells := 0, slots := 0, locals := 98 } : Room) E base [.ref (al (10, 0, 0)), .int (nI p), .int x, .int bit] (fun H => xH E base al w H) (fun r H => r = some (.int (-nI (fate nf na nw sg rc p x bit))) ∧ ∃ fr9 : Nat → Int32, xH E base al (xu w (10, 18, 0) (.inl (E.2.1 0, 16, .inl fr9))) H) := by
  refine xMet.of (by decide +kernel) "DataroomModel" rfl (Nat.le_of_ble_eq_true rfl) ?_
  intro p9 e9 s m9 below meth c9 ls C hin hP hS hl
  have hx := C.hx
  have hb := C.hb
  have hH := hP
  have hl : lv_has ls 7 [(0, .ref (al (10, 0, 0))), (1, .int (nI p)), (2, .int x), (3, .int bit)] := hl
  obtain ⟨post, hpost⟩ : ∃ zz9 : Option Value → Heap → Prop, zz9 = (fun r H => r = some (.int (-nI (fate nf na nw sg rc p x bit))) ∧ ∃ fr9 : Nat → Int32, xH E base al (xu w (10, 18, 0) (.inl (E.2.1 0, 16, .inl fr9))) H) := ⟨_, rfl⟩
  rw [← hpost]
  generalize hQ : (MQ below (xQ base post) ([.ref (al (10, 0, 0)), .int (nI p), .int x, .int bit] : List Value).toArray s 0 0 (xA base)) = Q
  have hMM0 := hMM
  obtain ⟨hM, mm3, mm4, mm6, mm7, mm8, mm9, mm11, mm12, mm13, mm14, mm15, mm16, mm17, mm18⟩ := hMM
  have hI0 := hI
  obtain ⟨v16, v6, v150, vnow, vA, vS, vP, vK, vR⟩ := hI
  refine lv_iconst (v := nI 1) hx hb dX7_refusal_0 (by decide +kernel) ?_
  refine lv_istore (lv' := [(4, .int (nI 1)), (0, .ref (al (10, 0, 0))), (1, .int (nI p)), (2, .int x), (3, .int bit)]) hx hb dX7_refusal_1 hl (by decide) rfl (fun ls hl => ?_)
  refine lv_iconst (v := nI 0) hx hb dX7_refusal_3 (by decide +kernel) ?_
  refine lv_istore (lv' := [(5, .int (nI 0)), (4, .int (nI 1)), (0, .ref (al (10, 0, 0))), (1, .int (nI p)), (2, .int x), (3, .int bit)]) hx hb dX7_refusal_4 hl (by decide) rfl (fun ls hl => ?_)
  refine lv_iconst (v := nI 0) hx hb dX7_refusal_6 (by decide +kernel) ?_
  refine lv_istore (lv' := [(6, .int (nI 0)), (5, .int (nI 0)), (4, .int (nI 1)), (0, .ref (al (10, 0, 0))), (1, .int (nI p)), (2, .int x), (3, .int bit)]) hx hb dX7_refusal_7 hl (by decide) rfl (fun ls hl => ?_)
  have lp9 : ∀ (i : Nat), i ≤ nf → ∀ (ha hc : Bool) (H : Heap) (locs : List Loc) (ls : Array Slot), ha = !anyB (fun f => bt x f && decide (rIn (sg 4 p f) (sg 5 p f) (sg 6 p f) (nI nw) = 0)) i → hc = anyB (fun f => bt x f && decide (nI nw ≤ sg 2 f 0)) i → xH E base al w H → va_S (xA base) s.heap H locs → lv_has ls 7 [(6, .int (nI i)), (5, .int (ob hc)), (4, .int (ob ha)), (3, .int bit), (2, .int x), (1, .int (nI p)), (0, .ref (al (10, 0, 0)))] → W p9 l e9 ({ frames := 4, cells := 0, slots := 0, locals := 98 } : Room) s m9 ([.ref (al (10, 0, 0)), .int (nI p), .int x, .int bit] : List Value).toArray below meth c9 H locs 0 0 Q (F0 m9 9 ls []) := by
    refine lp_up ?_
    intro i hii ih9 ha hc H locs ls hy hz hH hS hl
    refine lv_iload hx hb dX7_refusal_9 (lv_at hl 0 rfl) ?_
    refine lv_aload_n hx hb dX7_refusal_11 rfl (lv_at hl 6 rfl) ?_
    refine x_get C hH (ci := 8) (T := TX7) (N := 19) hM rfl iWX7 2 (by decide) qw_698 rfl rfl dX7_refusal_12 ?_
    refine lv_icmp_ge (tgt := 82) hx hb dX7_refusal_15 (by decide) (fun c_1 => ?_) (fun c_1 => ?_)
    · skip
      replace c_1 := (nI_leI (by omega) (by omega)).mp c_1
      have e8 : i = nf := by omega
      rw [e8] at hy hz
      refine lv_iload hx hb dX7_refusal_82 (lv_at hl 2 rfl) ?_
      refine lv_if_ne (tgt := 89) hx hb dX7_refusal_84 (by decide) (fun c_2 => ?_) (fun c_2 => ?_)
      · skip
        replace c_2 := ob_n.mp c_2
        refine lv_iload hx hb dX7_refusal_89 (lv_at hl 1 rfl) ?_
        refine lv_if_eq (tgt := 97) hx hb dX7_refusal_91 (by decide) (fun c_3 => ?_) (fun c_3 => ?_)
        · skip
          replace c_3 := ob_0.mp c_3
          refine lv_aload_n hx hb dX7_refusal_97 rfl (lv_at hl 6 rfl) ?_
          refine lv_iload_n hx hb dX7_refusal_98 rfl (lv_at hl 5 rfl) ?_
          refine lv_iload_n hx hb dX7_refusal_99 rfl (lv_at hl 4 rfl) ?_
          refine lv_iload_n hx hb dX7_refusal_100 rfl (lv_at hl 3 rfl) ?_
          refine x_callV C hH hS (ci := 8) (t := (10, 0, 0)) hM rfl rfl (m_wouldTell0 l (E := E) (base := base) hMM0 hI0 (x := x) (bit := bit) hp hxs) hH kX7_wouldTell qw_828 (ws_p (List.mem_of_getElem? (i := 26) rfl) rfl) qw_826  rfl [] rfl hl.1 (Nat.le_of_ble_eq_true rfl) ⟨Nat.le_of_ble_eq_true rfl, Nat.le_of_ble_eq_true rfl⟩ dX7_refusal_101 ⟨Nat.le_of_ble_eq_true rfl, Nat.le_of_ble_eq_true rfl⟩ (fun r_5 H locs hp_4 hS => ?_)
          obtain ⟨rfl, fr9, hH⟩ := hp_4
          have hMM1 := hMM0.fr fr9
          have hMMx := hMM1
          obtain ⟨hM, mm3, mm4, mm6, mm7, mm8, mm9, mm11, mm12, mm13, mm14, mm15, mm16, mm17, mm18⟩ := hMMx
          refine lv_re (y := ob (wTl nw na sg rc p x bit)) (by rw [wt_eq hI0 hp hxs]) ?_
          refine lv_if_eq (tgt := 110) hx hb dX7_refusal_104 (by decide) (fun c_6 => ?_) (fun c_6 => ?_)
          · skip
            replace c_6 := ob_0.mp c_6
            refine lv_aload_n hx hb dX7_refusal_110 rfl (lv_at hl 6 rfl) ?_
            refine lv_iload_n hx hb dX7_refusal_111 rfl (lv_at hl 5 rfl) ?_
            refine x_callV C hH hS (ci := 8) (t := (10, 0, 0)) hM rfl rfl (m_spentBy l (E := E) (base := base) hMM1 hI0 hp) hH kX7_spentBy qw_854 (ws_p (List.mem_of_getElem? (i := 31) rfl) rfl) qw_852  rfl [] rfl hl.1 (Nat.le_of_ble_eq_true rfl) ⟨Nat.le_of_ble_eq_true rfl, Nat.le_of_ble_eq_true rfl⟩ dX7_refusal_112 ⟨Nat.le_of_ble_eq_true rfl, Nat.le_of_ble_eq_true rfl⟩ (fun r_8 H locs hp_7 hS => ?_)
            obtain ⟨rfl, fr8, hH⟩ := hp_7
            rw [xu_uu] at hH
            have hMM2 := hMM0.fr fr8
            have hMMx := hMM2
            obtain ⟨hM, mm3, mm4, mm6, mm7, mm8, mm9, mm11, mm12, mm13, mm14, mm15, mm16, mm17, mm18⟩ := hMMx
            refine lv_aload_n hx hb dX7_refusal_115 rfl (lv_at hl 6 rfl) ?_
            refine lv_iload_n hx hb dX7_refusal_116 rfl (lv_at hl 5 rfl) ?_
            refine lv_iload_n hx hb dX7_refusal_117 rfl (lv_at hl 4 rfl) ?_
            refine lv_iload_n hx hb dX7_refusal_118 rfl (lv_at hl 3 rfl) ?_
            refine x_callV C hH hS (ci := 8) (t := (10, 0, 0)) hM rfl rfl (m_costOf l (E := E) (base := base) hMM2 hI0 (x := x) (bit := bit) hp) hH kX7_costOf qw_858 (ws_p (List.mem_of_getElem? (i := 32) rfl) rfl) qw_856  rfl [.int (nI (sC (KCs sg rc na p) 8))] rfl hl.1 (Nat.le_of_ble_eq_true rfl) ⟨Nat.le_of_ble_eq_true rfl, Nat.le_of_ble_eq_true rfl⟩ dX7_refusal_119 ⟨Nat.le_of_ble_eq_true rfl, Nat.le_of_ble_eq_true rfl⟩ (fun r_10 H locs hp_9 hS => ?_)
            obtain ⟨rfl, fr7, hH⟩ := hp_9
            rw [xu_uu] at hH
            have hMM3 := hMM0.fr fr7
            have hMMx := hMM3
            obtain ⟨hM, mm3, mm4, mm6, mm7, mm8, mm9, mm11, mm12, mm13, mm14, mm15, mm16, mm17, mm18⟩ := hMMx
            refine lv_iadd hx hb dX7_refusal_122 ?_
            refine lv_re (nI_add _ _) ?_
            refine lv_aload_n hx hb dX7_refusal_123 rfl (lv_at hl 6 rfl) ?_
            refine x_get C hH (ci := 8) (T := TX7) (N := 19) hM rfl iWX7 6 (by decide) qw_702 rfl rfl dX7_refusal_124 ?_
            refine lv_iload_n hx hb dX7_refusal_127 rfl (lv_at hl 5 rfl) ?_
            refine x_iald C hH mm6 (j := p) rfl (by omega) (by omega) dX7_refusal_128 ?_
            refine lv_icmp_le (tgt := 137) hx hb dX7_refusal_129 (by decide) (fun c_11 => ?_) (fun c_11 => ?_)
            · skip
              refine lv_iconst (v := nI 0) hx hb dX7_refusal_137 (by decide +kernel) ?_
              rw [← hQ]
              refine x_reti C rfl hS (Nat.le_of_ble_eq_true rfl) (Nat.le_of_ble_eq_true rfl) dX7_refusal_138 ?_
              rw [hpost]
              exact ⟨by unfold fate lack seld; simp only [(show anyB (fun f => bt x f && decide (rIn (sg 4 p f) (sg 5 p f) (sg 6 p f) (nI nw) = 0)) nf = false from by have q := hy.symm.trans c_2; simpa using q), (show anyB (fun f => bt x f && decide (nI nw ≤ sg 2 f 0)) nf = false from hz.symm.trans c_3), (show wTl nw na sg rc p x bit = false from c_6), (show dear na sg rc p x bit = false from decide_eq_false (Int32.not_lt.mpr c_11)), if_true, if_false, Bool.false_eq_true]; rfl, fr7, hH⟩
            · skip
              refine lv_bipush (v := (-4)) hx hb dX7_refusal_132 (by decide +kernel) ?_
              refine lv_goto (tgt := 138) hx hb dX7_refusal_134 (by decide) ?_
              rw [← hQ]
              refine x_reti C rfl hS (Nat.le_of_ble_eq_true rfl) (Nat.le_of_ble_eq_true rfl) dX7_refusal_138 ?_
              rw [hpost]
              exact ⟨by unfold fate lack seld; simp only [(show anyB (fun f => bt x f && decide (rIn (sg 4 p f) (sg 5 p f) (sg 6 p f) (nI nw) = 0)) nf = false from by have q := hy.symm.trans c_2; simpa using q), (show anyB (fun f => bt x f && decide (nI nw ≤ sg 2 f 0)) nf = false from hz.symm.trans c_3), (show wTl nw na sg rc p x bit = false from c_6), (show dear na sg rc p x bit = true from decide_eq_true (Int32.not_le.mp c_11)), if_true, if_false, Bool.false_eq_true]; rfl, fr7, hH⟩
          · skip
            replace c_6 := ob_n.mp c_6
            refine lv_bipush (v := (-3)) hx hb dX7_refusal_107 (by decide +kernel) ?_
            rw [← hQ]
            refine x_reti C rfl hS (Nat.le_of_ble_eq_true rfl) (Nat.le_of_ble_eq_true rfl) dX7_refusal_109 ?_
            rw [hpost]
            exact ⟨by unfold fate lack seld; simp only [(show anyB (fun f => bt x f && decide (rIn (sg 4 p f) (sg 5 p f) (sg 6 p f) (nI nw) = 0)) nf = false from by have q := hy.symm.trans c_2; simpa using q), (show anyB (fun f => bt x f && decide (nI nw ≤ sg 2 f 0)) nf = false from hz.symm.trans c_3), (show wTl nw na sg rc p x bit = true from c_6), if_true, if_false, Bool.false_eq_true]; rfl, fr9, hH⟩
        · skip
          replace c_3 := ob_n.mp c_3
          refine lv_bipush (v := (-2)) hx hb dX7_refusal_94 (by decide +kernel) ?_
          rw [← hQ]
          refine x_reti C rfl hS (Nat.le_of_ble_eq_true rfl) (Nat.le_of_ble_eq_true rfl) dX7_refusal_96 ?_
          rw [hpost]
          exact ⟨by unfold fate lack seld; simp only [(show anyB (fun f => bt x f && decide (rIn (sg 4 p f) (sg 5 p f) (sg 6 p f) (nI nw) = 0)) nf = false from by have q := hy.symm.trans c_2; simpa using q), (show anyB (fun f => bt x f && decide (nI nw ≤ sg 2 f 0)) nf = true from hz.symm.trans c_3), if_true, if_false, Bool.false_eq_true]; rfl, fr, by rw [xu_same mm18]; exact hH⟩
      · skip
        replace c_2 := ob_0.mp c_2
        refine lv_iconst (v := (-1)) hx hb dX7_refusal_87 (by decide +kernel) ?_
        rw [← hQ]
        refine x_reti C rfl hS (Nat.le_of_ble_eq_true rfl) (Nat.le_of_ble_eq_true rfl) dX7_refusal_88 ?_
        rw [hpost]
        exact ⟨by unfold fate lack seld; simp only [(show anyB (fun f => bt x f && decide (rIn (sg 4 p f) (sg 5 p f) (sg 6 p f) (nI nw) = 0)) nf = true from by have q := hy.symm.trans c_2; simpa using q), if_true, if_false, Bool.false_eq_true]; rfl, fr, by rw [xu_same mm18]; exact hH⟩
    · skip
      replace c_1 := mt (nI_leI (by omega) (by omega)).mpr c_1
      refine lv_iload_n hx hb dX7_refusal_18 rfl (lv_at hl 4 rfl) ?_
      refine lv_iload hx hb dX7_refusal_19 (lv_at hl 0 rfl) ?_
      refine lv_ishr hx hb dX7_refusal_21 ?_
      refine lv_iconst (v := nI 1) hx hb dX7_refusal_22 (by decide +kernel) ?_
      refine lv_iand hx hb dX7_refusal_23 ?_
      refine lv_re (hd_bt x (k := i) (by omega)) ?_
      refine lv_iconst (v := nI 1) hx hb dX7_refusal_24 (by decide +kernel) ?_
      refine lv_icmp_ne (tgt := 76) hx hb dX7_refusal_25 (by decide) (fun c_12 => ?_) (fun c_12 => ?_)
      · skip
        replace c_12 := ob_n1.mp c_12
        refine lv_iinc (v := nI (i + 1)) (lv' := [(6, .int (nI (i + 1))), (5, .int (ob hc)), (4, .int (ob ha)), (3, .int bit), (2, .int x), (1, .int (nI p)), (0, .ref (al (10, 0, 0)))]) hx hb dX7_refusal_76 hl (k := 0) rfl (nI_1 _) (by decide) rfl (fun ls hl => ?_)
        refine lv_goto (tgt := 9) hx hb dX7_refusal_79 (by decide) ?_
        exact ih9 (by omega) ha hc _ _ _ (by show _ = !(anyB (fun f => bt x f && decide (rIn (sg 4 p f) (sg 5 p f) (sg 6 p f) (nI nw) = 0)) i || (bt x i && decide (rIn (sg 4 p i) (sg 5 p i) (sg 6 p i) (nI nw) = 0))); rw [Bool.not_or, ← hy]; simp only [c_12, decide_true, decide_false, Bool.or_true, Bool.true_or, Bool.false_or, Bool.or_false, Bool.not_true, Bool.not_false, Bool.and_true, Bool.true_and, Bool.and_false, Bool.false_and, Bool.not_or, Bool.not_and]) (by show _ = (anyB (fun f => bt x f && decide (nI nw ≤ sg 2 f 0)) i || (bt x i && decide (nI nw ≤ sg 2 i 0))); rw [← hz]; simp only [c_12, decide_true, decide_false, Bool.or_true, Bool.true_or, Bool.false_or, Bool.or_false, Bool.not_true, Bool.not_false, Bool.and_true, Bool.true_and, Bool.and_false, Bool.false_and, Bool.not_or, Bool.not_and]) hH hS (lv_sub hl [0, 1, 2, 3, 4, 5, 6] rfl)
      · skip
        replace c_12 := ob_1.mp c_12
        refine lv_iload hx hb dX7_refusal_28 (lv_at hl 2 rfl) ?_
        refine lv_if_eq (tgt := 47) hx hb dX7_refusal_30 (by decide) (fun c_13 => ?_) (fun c_13 => ?_)
        · skip
          replace c_13 := ob_0.mp c_13
          refine lv_iconst (v := nI 0) hx hb dX7_refusal_47 (by decide +kernel) ?_
          refine lv_istore (lv' := [(4, .int (nI 0)), (6, .int (nI i)), (5, .int (ob hc)), (3, .int bit), (2, .int x), (1, .int (nI p)), (0, .ref (al (10, 0, 0)))]) hx hb dX7_refusal_48 hl (by decide) rfl (fun ls hl => ?_)
          refine lv_iload hx hb dX7_refusal_50 (lv_at hl 2 rfl) ?_
          refine lv_if_ne (tgt := 69) hx hb dX7_refusal_52 (by decide) (fun c_14 => ?_) (fun c_14 => ?_)
          · skip
            replace c_14 := ob_n.mp c_14
            refine lv_iconst (v := nI 1) hx hb dX7_refusal_69 (by decide +kernel) ?_
            refine lv_goto (tgt := 74) hx hb dX7_refusal_70 (by decide) ?_
            refine lv_istore (lv' := [(5, .int (nI 1)), (4, .int (nI 0)), (6, .int (nI i)), (3, .int bit), (2, .int x), (1, .int (nI p)), (0, .ref (al (10, 0, 0)))]) hx hb dX7_refusal_74 hl (by decide) rfl (fun ls hl => ?_)
            refine lv_iinc (v := nI (i + 1)) (lv' := [(6, .int (nI (i + 1))), (5, .int (nI 1)), (4, .int (nI 0)), (3, .int bit), (2, .int x), (1, .int (nI p)), (0, .ref (al (10, 0, 0)))]) hx hb dX7_refusal_76 hl (k := 2) rfl (nI_1 _) (by decide) rfl (fun ls hl => ?_)
            refine lv_goto (tgt := 9) hx hb dX7_refusal_79 (by decide) ?_
            exact ih9 (by omega) false true _ _ _ (by show _ = !(anyB (fun f => bt x f && decide (rIn (sg 4 p f) (sg 5 p f) (sg 6 p f) (nI nw) = 0)) i || (bt x i && decide (rIn (sg 4 p i) (sg 5 p i) (sg 6 p i) (nI nw) = 0))); rw [Bool.not_or, ← hy]; simp only [c_12, c_13, c_14, decide_true, decide_false, Bool.or_true, Bool.true_or, Bool.false_or, Bool.or_false, Bool.not_true, Bool.not_false, Bool.and_true, Bool.true_and, Bool.and_false, Bool.false_and, Bool.not_or, Bool.not_and]) (by show _ = (anyB (fun f => bt x f && decide (nI nw ≤ sg 2 f 0)) i || (bt x i && decide (nI nw ≤ sg 2 i 0))); rw [← hz]; simp only [c_12, c_13, c_14, decide_true, decide_false, Bool.or_true, Bool.true_or, Bool.false_or, Bool.or_false, Bool.not_true, Bool.not_false, Bool.and_true, Bool.true_and, Bool.and_false, Bool.false_and, Bool.not_or, Bool.not_and]) hH hS (lv_sub hl [0, 1, 2, 3, 4, 5, 6] rfl)
          · skip
            replace c_14 := ob_0.mp c_14
            refine lv_aload_n hx hb dX7_refusal_55 rfl (lv_at hl 6 rfl) ?_
            refine x_get C hH (ci := 8) (T := TX7) (N := 19) hM rfl iWX7 4 (by decide) qw_700 rfl rfl dX7_refusal_56 ?_
            refine lv_iload hx hb dX7_refusal_59 (lv_at hl 1 rfl) ?_
            refine x_iald C hH mm4 (j := i) rfl (by omega) (by omega) dX7_refusal_61 ?_
            refine lv_aload_n hx hb dX7_refusal_62 rfl (lv_at hl 6 rfl) ?_
            refine x_get C hH (ci := 8) (T := TX7) (N := 19) hM rfl iWX7 1 (by decide) qw_697 rfl rfl dX7_refusal_63 ?_
            refine lv_icmp_lt (tgt := 73) hx hb dX7_refusal_66 (by decide) (fun c_15 => ?_) (fun c_15 => ?_)
            · skip
              refine lv_iconst (v := nI 0) hx hb dX7_refusal_73 (by decide +kernel) ?_
              refine lv_istore (lv' := [(5, .int (nI 0)), (4, .int (nI 0)), (6, .int (nI i)), (3, .int bit), (2, .int x), (1, .int (nI p)), (0, .ref (al (10, 0, 0)))]) hx hb dX7_refusal_74 hl (by decide) rfl (fun ls hl => ?_)
              refine lv_iinc (v := nI (i + 1)) (lv' := [(6, .int (nI (i + 1))), (5, .int (nI 0)), (4, .int (nI 0)), (3, .int bit), (2, .int x), (1, .int (nI p)), (0, .ref (al (10, 0, 0)))]) hx hb dX7_refusal_76 hl (k := 2) rfl (nI_1 _) (by decide) rfl (fun ls hl => ?_)
              refine lv_goto (tgt := 9) hx hb dX7_refusal_79 (by decide) ?_
              exact ih9 (by omega) false false _ _ _ (by show _ = !(anyB (fun f => bt x f && decide (rIn (sg 4 p f) (sg 5 p f) (sg 6 p f) (nI nw) = 0)) i || (bt x i && decide (rIn (sg 4 p i) (sg 5 p i) (sg 6 p i) (nI nw) = 0))); rw [Bool.not_or, ← hy]; simp only [c_12, c_13, c_14, Int32.not_le.mpr c_15, decide_true, decide_false, Bool.or_true, Bool.true_or, Bool.false_or, Bool.or_false, Bool.not_true, Bool.not_false, Bool.and_true, Bool.true_and, Bool.and_false, Bool.false_and, Bool.not_or, Bool.not_and]) (by show _ = (anyB (fun f => bt x f && decide (nI nw ≤ sg 2 f 0)) i || (bt x i && decide (nI nw ≤ sg 2 i 0))); rw [← hz]; simp only [c_12, c_13, c_14, Int32.not_le.mpr c_15, decide_true, decide_false, Bool.or_true, Bool.true_or, Bool.false_or, Bool.or_false, Bool.not_true, Bool.not_false, Bool.and_true, Bool.true_and, Bool.and_false, Bool.false_and, Bool.not_or, Bool.not_and]) hH hS (lv_sub hl [0, 1, 2, 3, 4, 5, 6] rfl)
            · skip
              refine lv_iconst (v := nI 1) hx hb dX7_refusal_69 (by decide +kernel) ?_
              refine lv_goto (tgt := 74) hx hb dX7_refusal_70 (by decide) ?_
              refine lv_istore (lv' := [(5, .int (nI 1)), (4, .int (nI 0)), (6, .int (nI i)), (3, .int bit), (2, .int x), (1, .int (nI p)), (0, .ref (al (10, 0, 0)))]) hx hb dX7_refusal_74 hl (by decide) rfl (fun ls hl => ?_)
              refine lv_iinc (v := nI (i + 1)) (lv' := [(6, .int (nI (i + 1))), (5, .int (nI 1)), (4, .int (nI 0)), (3, .int bit), (2, .int x), (1, .int (nI p)), (0, .ref (al (10, 0, 0)))]) hx hb dX7_refusal_76 hl (k := 2) rfl (nI_1 _) (by decide) rfl (fun ls hl => ?_)
              refine lv_goto (tgt := 9) hx hb dX7_refusal_79 (by decide) ?_
              exact ih9 (by omega) false true _ _ _ (by show _ = !(anyB (fun f => bt x f && decide (rIn (sg 4 p f) (sg 5 p f) (sg 6 p f) (nI nw) = 0)) i || (bt x i && decide (rIn (sg 4 p i) (sg 5 p i) (sg 6 p i) (nI nw) = 0))); rw [Bool.not_or, ← hy]; simp only [c_12, c_13, c_14, Int32.not_lt.mp c_15, decide_true, decide_false, Bool.or_true, Bool.true_or, Bool.false_or, Bool.or_false, Bool.not_true, Bool.not_false, Bool.and_true, Bool.true_and, Bool.and_false, Bool.false_and, Bool.not_or, Bool.not_and]) (by show _ = (anyB (fun f => bt x f && decide (nI nw ≤ sg 2 f 0)) i || (bt x i && decide (nI nw ≤ sg 2 i 0))); rw [← hz]; simp only [c_12, c_13, c_14, Int32.not_lt.mp c_15, decide_true, decide_false, Bool.or_true, Bool.true_or, Bool.false_or, Bool.or_false, Bool.not_true, Bool.not_false, Bool.and_true, Bool.true_and, Bool.and_false, Bool.false_and, Bool.not_or, Bool.not_and]) hH hS (lv_sub hl [0, 1, 2, 3, 4, 5, 6] rfl)
        · skip
          replace c_13 := ob_n.mp c_13
          refine lv_aload_n hx hb dX7_refusal_33 rfl (lv_at hl 6 rfl) ?_
          refine lv_iload_n hx hb dX7_refusal_34 rfl (lv_at hl 5 rfl) ?_
          refine lv_iload hx hb dX7_refusal_35 (lv_at hl 0 rfl) ?_
          refine x_callV C hH hS (ci := 8) (t := (10, 0, 0)) hM rfl rfl (m_rightOf l (E := E) (base := base) hMM0 (p := p) (f := i) (by omega) (by omega)) hH kX7_rightOf qw_824 (ws_p (List.mem_of_getElem? (i := 25) rfl) rfl) qw_822  rfl [] rfl hl.1 (Nat.le_of_ble_eq_true rfl) ⟨Nat.le_of_ble_eq_true rfl, Nat.le_of_ble_eq_true rfl⟩ dX7_refusal_37 ⟨Nat.le_of_ble_eq_true rfl, Nat.le_of_ble_eq_true rfl⟩ (fun r_17 H locs hp_16 hS => ?_)
          obtain ⟨rfl, hH⟩ := hp_16
          refine lv_if_eq (tgt := 47) hx hb dX7_refusal_40 (by decide) (fun c_18 => ?_) (fun c_18 => ?_)
          · skip
            refine lv_iconst (v := nI 0) hx hb dX7_refusal_47 (by decide +kernel) ?_
            refine lv_istore (lv' := [(4, .int (nI 0)), (6, .int (nI i)), (5, .int (ob hc)), (3, .int bit), (2, .int x), (1, .int (nI p)), (0, .ref (al (10, 0, 0)))]) hx hb dX7_refusal_48 hl (by decide) rfl (fun ls hl => ?_)
            refine lv_iload hx hb dX7_refusal_50 (lv_at hl 2 rfl) ?_
            refine lv_if_ne (tgt := 69) hx hb dX7_refusal_52 (by decide) (fun c_19 => ?_) (fun c_19 => ?_)
            · skip
              replace c_19 := ob_n.mp c_19
              refine lv_iconst (v := nI 1) hx hb dX7_refusal_69 (by decide +kernel) ?_
              refine lv_goto (tgt := 74) hx hb dX7_refusal_70 (by decide) ?_
              refine lv_istore (lv' := [(5, .int (nI 1)), (4, .int (nI 0)), (6, .int (nI i)), (3, .int bit), (2, .int x), (1, .int (nI p)), (0, .ref (al (10, 0, 0)))]) hx hb dX7_refusal_74 hl (by decide) rfl (fun ls hl => ?_)
              refine lv_iinc (v := nI (i + 1)) (lv' := [(6, .int (nI (i + 1))), (5, .int (nI 1)), (4, .int (nI 0)), (3, .int bit), (2, .int x), (1, .int (nI p)), (0, .ref (al (10, 0, 0)))]) hx hb dX7_refusal_76 hl (k := 2) rfl (nI_1 _) (by decide) rfl (fun ls hl => ?_)
              refine lv_goto (tgt := 9) hx hb dX7_refusal_79 (by decide) ?_
              exact ih9 (by omega) false true _ _ _ (by show _ = !(anyB (fun f => bt x f && decide (rIn (sg 4 p f) (sg 5 p f) (sg 6 p f) (nI nw) = 0)) i || (bt x i && decide (rIn (sg 4 p i) (sg 5 p i) (sg 6 p i) (nI nw) = 0))); rw [Bool.not_or, ← hy]; simp only [c_12, c_13, c_18, c_19, decide_true, decide_false, Bool.or_true, Bool.true_or, Bool.false_or, Bool.or_false, Bool.not_true, Bool.not_false, Bool.and_true, Bool.true_and, Bool.and_false, Bool.false_and, Bool.not_or, Bool.not_and]) (by show _ = (anyB (fun f => bt x f && decide (nI nw ≤ sg 2 f 0)) i || (bt x i && decide (nI nw ≤ sg 2 i 0))); rw [← hz]; simp only [c_12, c_13, c_18, c_19, decide_true, decide_false, Bool.or_true, Bool.true_or, Bool.false_or, Bool.or_false, Bool.not_true, Bool.not_false, Bool.and_true, Bool.true_and, Bool.and_false, Bool.false_and, Bool.not_or, Bool.not_and]) hH hS (lv_sub hl [0, 1, 2, 3, 4, 5, 6] rfl)
            · skip
              replace c_19 := ob_0.mp c_19
              refine lv_aload_n hx hb dX7_refusal_55 rfl (lv_at hl 6 rfl) ?_
              refine x_get C hH (ci := 8) (T := TX7) (N := 19) hM rfl iWX7 4 (by decide) qw_700 rfl rfl dX7_refusal_56 ?_
              refine lv_iload hx hb dX7_refusal_59 (lv_at hl 1 rfl) ?_
              refine x_iald C hH mm4 (j := i) rfl (by omega) (by omega) dX7_refusal_61 ?_
              refine lv_aload_n hx hb dX7_refusal_62 rfl (lv_at hl 6 rfl) ?_
              refine x_get C hH (ci := 8) (T := TX7) (N := 19) hM rfl iWX7 1 (by decide) qw_697 rfl rfl dX7_refusal_63 ?_
              refine lv_icmp_lt (tgt := 73) hx hb dX7_refusal_66 (by decide) (fun c_20 => ?_) (fun c_20 => ?_)
              · skip
                refine lv_iconst (v := nI 0) hx hb dX7_refusal_73 (by decide +kernel) ?_
                refine lv_istore (lv' := [(5, .int (nI 0)), (4, .int (nI 0)), (6, .int (nI i)), (3, .int bit), (2, .int x), (1, .int (nI p)), (0, .ref (al (10, 0, 0)))]) hx hb dX7_refusal_74 hl (by decide) rfl (fun ls hl => ?_)
                refine lv_iinc (v := nI (i + 1)) (lv' := [(6, .int (nI (i + 1))), (5, .int (nI 0)), (4, .int (nI 0)), (3, .int bit), (2, .int x), (1, .int (nI p)), (0, .ref (al (10, 0, 0)))]) hx hb dX7_refusal_76 hl (k := 2) rfl (nI_1 _) (by decide) rfl (fun ls hl => ?_)
                refine lv_goto (tgt := 9) hx hb dX7_refusal_79 (by decide) ?_
                exact ih9 (by omega) false false _ _ _ (by show _ = !(anyB (fun f => bt x f && decide (rIn (sg 4 p f) (sg 5 p f) (sg 6 p f) (nI nw) = 0)) i || (bt x i && decide (rIn (sg 4 p i) (sg 5 p i) (sg 6 p i) (nI nw) = 0))); rw [Bool.not_or, ← hy]; simp only [c_12, c_13, c_18, c_19, Int32.not_le.mpr c_20, decide_true, decide_false, Bool.or_true, Bool.true_or, Bool.false_or, Bool.or_false, Bool.not_true, Bool.not_false, Bool.and_true, Bool.true_and, Bool.and_false, Bool.false_and, Bool.not_or, Bool.not_and]) (by show _ = (anyB (fun f => bt x f && decide (nI nw ≤ sg 2 f 0)) i || (bt x i && decide (nI nw ≤ sg 2 i 0))); rw [← hz]; simp only [c_12, c_13, c_18, c_19, Int32.not_le.mpr c_20, decide_true, decide_false, Bool.or_true, Bool.true_or, Bool.false_or, Bool.or_false, Bool.not_true, Bool.not_false, Bool.and_true, Bool.true_and, Bool.and_false, Bool.false_and, Bool.not_or, Bool.not_and]) hH hS (lv_sub hl [0, 1, 2, 3, 4, 5, 6] rfl)
              · skip
                refine lv_iconst (v := nI 1) hx hb dX7_refusal_69 (by decide +kernel) ?_
                refine lv_goto (tgt := 74) hx hb dX7_refusal_70 (by decide) ?_
                refine lv_istore (lv' := [(5, .int (nI 1)), (4, .int (nI 0)), (6, .int (nI i)), (3, .int bit), (2, .int x), (1, .int (nI p)), (0, .ref (al (10, 0, 0)))]) hx hb dX7_refusal_74 hl (by decide) rfl (fun ls hl => ?_)
                refine lv_iinc (v := nI (i + 1)) (lv' := [(6, .int (nI (i + 1))), (5, .int (nI 1)), (4, .int (nI 0)), (3, .int bit), (2, .int x), (1, .int (nI p)), (0, .ref (al (10, 0, 0)))]) hx hb dX7_refusal_76 hl (k := 2) rfl (nI_1 _) (by decide) rfl (fun ls hl => ?_)
                refine lv_goto (tgt := 9) hx hb dX7_refusal_79 (by decide) ?_
                exact ih9 (by omega) false true _ _ _ (by show _ = !(anyB (fun f => bt x f && decide (rIn (sg 4 p f) (sg 5 p f) (sg 6 p f) (nI nw) = 0)) i || (bt x i && decide (rIn (sg 4 p i) (sg 5 p i) (sg 6 p i) (nI nw) = 0))); rw [Bool.not_or, ← hy]; simp only [c_12, c_13, c_18, c_19, Int32.not_lt.mp c_20, decide_true, decide_false, Bool.or_true, Bool.true_or, Bool.false_or, Bool.or_false, Bool.not_true, Bool.not_false, Bool.and_true, Bool.true_and, Bool.and_false, Bool.false_and, Bool.not_or, Bool.not_and]) (by show _ = (anyB (fun f => bt x f && decide (nI nw ≤ sg 2 f 0)) i || (bt x i && decide (nI nw ≤ sg 2 i 0))); rw [← hz]; simp only [c_12, c_13, c_18, c_19, Int32.not_lt.mp c_20, decide_true, decide_false, Bool.or_true, Bool.true_or, Bool.false_or, Bool.or_false, Bool.not_true, Bool.not_false, Bool.and_true, Bool.true_and, Bool.and_false, Bool.false_and, Bool.not_or, Bool.not_and]) hH hS (lv_sub hl [0, 1, 2, 3, 4, 5, 6] rfl)
          · skip
            refine lv_iconst (v := nI 1) hx hb dX7_refusal_43 (by decide +kernel) ?_
            refine lv_goto (tgt := 48) hx hb dX7_refusal_44 (by decide) ?_
            refine lv_istore (lv' := [(4, .int (nI 1)), (6, .int (nI i)), (5, .int (ob hc)), (3, .int bit), (2, .int x), (1, .int (nI p)), (0, .ref (al (10, 0, 0)))]) hx hb dX7_refusal_48 hl (by decide) rfl (fun ls hl => ?_)
            refine lv_iload hx hb dX7_refusal_50 (lv_at hl 2 rfl) ?_
            refine lv_if_ne (tgt := 69) hx hb dX7_refusal_52 (by decide) (fun c_21 => ?_) (fun c_21 => ?_)
            · skip
              replace c_21 := ob_n.mp c_21
              refine lv_iconst (v := nI 1) hx hb dX7_refusal_69 (by decide +kernel) ?_
              refine lv_goto (tgt := 74) hx hb dX7_refusal_70 (by decide) ?_
              refine lv_istore (lv' := [(5, .int (nI 1)), (4, .int (nI 1)), (6, .int (nI i)), (3, .int bit), (2, .int x), (1, .int (nI p)), (0, .ref (al (10, 0, 0)))]) hx hb dX7_refusal_74 hl (by decide) rfl (fun ls hl => ?_)
              refine lv_iinc (v := nI (i + 1)) (lv' := [(6, .int (nI (i + 1))), (5, .int (nI 1)), (4, .int (nI 1)), (3, .int bit), (2, .int x), (1, .int (nI p)), (0, .ref (al (10, 0, 0)))]) hx hb dX7_refusal_76 hl (k := 2) rfl (nI_1 _) (by decide) rfl (fun ls hl => ?_)
              refine lv_goto (tgt := 9) hx hb dX7_refusal_79 (by decide) ?_
              exact ih9 (by omega) true true _ _ _ (by show _ = !(anyB (fun f => bt x f && decide (rIn (sg 4 p f) (sg 5 p f) (sg 6 p f) (nI nw) = 0)) i || (bt x i && decide (rIn (sg 4 p i) (sg 5 p i) (sg 6 p i) (nI nw) = 0))); rw [Bool.not_or, ← hy]; simp only [c_12, c_13, c_18, c_21, decide_true, decide_false, Bool.or_true, Bool.true_or, Bool.false_or, Bool.or_false, Bool.not_true, Bool.not_false, Bool.and_true, Bool.true_and, Bool.and_false, Bool.false_and, Bool.not_or, Bool.not_and]) (by show _ = (anyB (fun f => bt x f && decide (nI nw ≤ sg 2 f 0)) i || (bt x i && decide (nI nw ≤ sg 2 i 0))); rw [← hz]; simp only [c_12, c_13, c_18, c_21, decide_true, decide_false, Bool.or_true, Bool.true_or, Bool.false_or, Bool.or_false, Bool.not_true, Bool.not_false, Bool.and_true, Bool.true_and, Bool.and_false, Bool.false_and, Bool.not_or, Bool.not_and]) hH hS (lv_sub hl [0, 1, 2, 3, 4, 5, 6] rfl)
            · skip
              replace c_21 := ob_0.mp c_21
              refine lv_aload_n hx hb dX7_refusal_55 rfl (lv_at hl 6 rfl) ?_
              refine x_get C hH (ci := 8) (T := TX7) (N := 19) hM rfl iWX7 4 (by decide) qw_700 rfl rfl dX7_refusal_56 ?_
              refine lv_iload hx hb dX7_refusal_59 (lv_at hl 1 rfl) ?_
              refine x_iald C hH mm4 (j := i) rfl (by omega) (by omega) dX7_refusal_61 ?_
              refine lv_aload_n hx hb dX7_refusal_62 rfl (lv_at hl 6 rfl) ?_
              refine x_get C hH (ci := 8) (T := TX7) (N := 19) hM rfl iWX7 1 (by decide) qw_697 rfl rfl dX7_refusal_63 ?_
              refine lv_icmp_lt (tgt := 73) hx hb dX7_refusal_66 (by decide) (fun c_22 => ?_) (fun c_22 => ?_)
              · skip
                refine lv_iconst (v := nI 0) hx hb dX7_refusal_73 (by decide +kernel) ?_
                refine lv_istore (lv' := [(5, .int (nI 0)), (4, .int (nI 1)), (6, .int (nI i)), (3, .int bit), (2, .int x), (1, .int (nI p)), (0, .ref (al (10, 0, 0)))]) hx hb dX7_refusal_74 hl (by decide) rfl (fun ls hl => ?_)
                refine lv_iinc (v := nI (i + 1)) (lv' := [(6, .int (nI (i + 1))), (5, .int (nI 0)), (4, .int (nI 1)), (3, .int bit), (2, .int x), (1, .int (nI p)), (0, .ref (al (10, 0, 0)))]) hx hb dX7_refusal_76 hl (k := 2) rfl (nI_1 _) (by decide) rfl (fun ls hl => ?_)
                refine lv_goto (tgt := 9) hx hb dX7_refusal_79 (by decide) ?_
                exact ih9 (by omega) true false _ _ _ (by show _ = !(anyB (fun f => bt x f && decide (rIn (sg 4 p f) (sg 5 p f) (sg 6 p f) (nI nw) = 0)) i || (bt x i && decide (rIn (sg 4 p i) (sg 5 p i) (sg 6 p i) (nI nw) = 0))); rw [Bool.not_or, ← hy]; simp only [c_12, c_13, c_18, c_21, Int32.not_le.mpr c_22, decide_true, decide_false, Bool.or_true, Bool.true_or, Bool.false_or, Bool.or_false, Bool.not_true, Bool.not_false, Bool.and_true, Bool.true_and, Bool.and_false, Bool.false_and, Bool.not_or, Bool.not_and]) (by show _ = (anyB (fun f => bt x f && decide (nI nw ≤ sg 2 f 0)) i || (bt x i && decide (nI nw ≤ sg 2 i 0))); rw [← hz]; simp only [c_12, c_13, c_18, c_21, Int32.not_le.mpr c_22, decide_true, decide_false, Bool.or_true, Bool.true_or, Bool.false_or, Bool.or_false, Bool.not_true, Bool.not_false, Bool.and_true, Bool.true_and, Bool.and_false, Bool.false_and, Bool.not_or, Bool.not_and]) hH hS (lv_sub hl [0, 1, 2, 3, 4, 5, 6] rfl)
              · skip
                refine lv_iconst (v := nI 1) hx hb dX7_refusal_69 (by decide +kernel) ?_
                refine lv_goto (tgt := 74) hx hb dX7_refusal_70 (by decide) ?_
                refine lv_istore (lv' := [(5, .int (nI 1)), (4, .int (nI 1)), (6, .int (nI i)), (3, .int bit), (2, .int x), (1, .int (nI p)), (0, .ref (al (10, 0, 0)))]) hx hb dX7_refusal_74 hl (by decide) rfl (fun ls hl => ?_)
                refine lv_iinc (v := nI (i + 1)) (lv' := [(6, .int (nI (i + 1))), (5, .int (nI 1)), (4, .int (nI 1)), (3, .int bit), (2, .int x), (1, .int (nI p)), (0, .ref (al (10, 0, 0)))]) hx hb dX7_refusal_76 hl (k := 2) rfl (nI_1 _) (by decide) rfl (fun ls hl => ?_)
                refine lv_goto (tgt := 9) hx hb dX7_refusal_79 (by decide) ?_
                exact ih9 (by omega) true true _ _ _ (by show _ = !(anyB (fun f => bt x f && decide (rIn (sg 4 p f) (sg 5 p f) (sg 6 p f) (nI nw) = 0)) i || (bt x i && decide (rIn (sg 4 p i) (sg 5 p i) (sg 6 p i) (nI nw) = 0))); rw [Bool.not_or, ← hy]; simp only [c_12, c_13, c_18, c_21, Int32.not_lt.mp c_22, decide_true, decide_false, Bool.or_true, Bool.true_or, Bool.false_or, Bool.or_false, Bool.not_true, Bool.not_false, Bool.and_true, Bool.true_and, Bool.and_false, Bool.false_and, Bool.not_or, Bool.not_and]) (by show _ = (anyB (fun f => bt x f && decide (nI nw ≤ sg 2 f 0)) i || (bt x i && decide (nI nw ≤ sg 2 i 0))); rw [← hz]; simp only [c_12, c_13, c_18, c_21, Int32.not_lt.mp c_22, decide_true, decide_false, Bool.or_true, Bool.true_or, Bool.false_or, Bool.or_false, Bool.not_true, Bool.not_false, Bool.and_true, Bool.true_and, Bool.and_false, Bool.false_and, Bool.not_or, Bool.not_and]) hH hS (lv_sub hl [0, 1, 2, 3, 4, 5, 6] rfl)
  exact lp9 0 (Nat.zero_le _) true false _ _ _ rfl rfl hH hS (lv_sub hl [0, 1, 2, 6, 5, 4, 3] rfl)

set_option maxHeartbeats 4000000 in
set_option maxRecDepth 100000 in
theorem m_recall (l : Launch) {E : xE} {base : Nat} {al : Tg → Nat} {w : Tg → Option va_E} {th : Int32} {nf np na nw : Nat} {sg : Nat → Nat → Nat → Int32} {rc : Nat → Bool} {fr : Nat → Int32} (hMM : MMf E al w th nf np na nw sg rc fr) (hI : INV nf np na nw sg rc) {f : Nat} {pp : Int32} (hf : f < 16) : xMet l yX7_recall cX7_recall 6 (some (.int)) ({ frames := 0, cells := 0, slots := 0, locals := 0 } : Room) E base [.ref (al (10, 0, 0)), .int (nI f), .int pp] (fun H => xH E base al w H) (fun r H => r = some (.int (nI (bsum (rkP sg rc f pp) na))) ∧ xH E base al (xu w (10, 16, 0) (.inl (E.2.1 2, 150, .inl (fun a => ob (rcK sg rc f pp na a))))) H) := by
  refine xMet.of (by decide +kernel) "DataroomModel" rfl (Nat.le_of_ble_eq_true rfl) ?_
  intro p9 e9 s m9 below meth c9 ls C hin hP hS hl
  have hx := C.hx
  have hb := C.hb
  have hH := hP
  have hl : lv_has ls 6 [(0, .ref (al (10, 0, 0))), (1, .int (nI f)), (2, .int pp)] := hl
  obtain ⟨post, hpost⟩ : ∃ zz9 : Option Value → Heap → Prop, zz9 = (fun r H => r = some (.int (nI (bsum (rkP sg rc f pp) na))) ∧ xH E base al (xu w (10, 16, 0) (.inl (E.2.1 2, 150, .inl (fun a => ob (rcK sg rc f pp na a))))) H) := ⟨_, rfl⟩
  rw [← hpost]
  generalize hQ : (MQ below (xQ base post) ([.ref (al (10, 0, 0)), .int (nI f), .int pp] : List Value).toArray s 0 0 (xA base)) = Q
  have hMM0 := hMM
  obtain ⟨hM, mm3, mm4, mm6, mm7, mm8, mm9, mm11, mm12, mm13, mm14, mm15, mm16, mm17, mm18⟩ := hMM
  have hI0 := hI
  obtain ⟨v16, v6, v150, vnow, vA, vS, vP, vK, vR⟩ := hI
  refine lv_iconst (v := nI 0) hx hb dX7_recall_0 (by decide +kernel) ?_
  refine lv_istore_n (lv' := [(3, .int (nI 0)), (0, .ref (al (10, 0, 0))), (1, .int (nI f)), (2, .int pp)]) hx hb dX7_recall_1 rfl hl (by decide) rfl (fun ls hl => ?_)
  refine lv_iconst (v := nI 0) hx hb dX7_recall_2 (by decide +kernel) ?_
  refine lv_istore (lv' := [(4, .int (nI 0)), (3, .int (nI 0)), (0, .ref (al (10, 0, 0))), (1, .int (nI f)), (2, .int pp)]) hx hb dX7_recall_3 hl (by decide) rfl (fun ls hl => ?_)
  have lp5 : ∀ (i : Nat), i ≤ na → ∀ (y : Nat) (H : Heap) (locs : List Loc) (ls : Array Slot), y = bsum (rkP sg rc f pp) i → xH E base al (xu w (10, 16, 0) (.inl (E.2.1 2, 150, .inl (fun a => ob (rcK sg rc f pp i a))))) H → va_S (xA base) s.heap H locs → lv_has ls 6 [(4, .int (nI i)), (3, .int (nI y)), (2, .int pp), (1, .int (nI f)), (0, .ref (al (10, 0, 0)))] → W p9 l e9 ({ frames := 0, cells := 0, slots := 0, locals := 0 } : Room) s m9 ([.ref (al (10, 0, 0)), .int (nI f), .int pp] : List Value).toArray below meth c9 H locs 0 0 Q (F0 m9 5 ls []) := by
    refine lp_up ?_
    intro i hii ih5 y H locs ls hy hH hS hl
    have hMM1 := hMM0.rc (rcK sg rc f pp i)
    have hMMx := hMM1
    obtain ⟨hM, mm3, mm4, mm6, mm7, mm8, mm9, mm11, mm12, mm13, mm14, mm15, mm16, mm17, mm18⟩ := hMMx
    refine lv_iload hx hb dX7_recall_5 (lv_at hl 0 rfl) ?_
    refine lv_aload_n hx hb dX7_recall_7 rfl (lv_at hl 4 rfl) ?_
    refine x_get C hH (ci := 8) (T := TX7) (N := 19) hM rfl iWX7 10 (by decide) qw_706 rfl rfl dX7_recall_8 ?_
    refine lv_icmp_ge (tgt := 108) hx hb dX7_recall_11 (by decide) (fun c_1 => ?_) (fun c_1 => ?_)
    · skip
      replace c_1 := (nI_leI (by omega) (by omega)).mp c_1
      refine lv_iload_n hx hb dX7_recall_108 rfl (lv_at hl 1 rfl) ?_
      rw [← hQ]
      refine x_reti C rfl hS (Nat.le_of_ble_eq_true rfl) (Nat.le_of_ble_eq_true rfl) dX7_recall_109 ?_
      rw [hpost]
      have e8 : i = na := by omega
      subst e8
      exact ⟨by rw [hy], hH⟩
    · skip
      replace c_1 := mt (nI_leI (by omega) (by omega)).mpr c_1
      refine lv_aload_n hx hb dX7_recall_14 rfl (lv_at hl 4 rfl) ?_
      refine x_get C hH (ci := 8) (T := TX7) (N := 19) hM rfl iWX7 16 (by decide) qw_712 rfl rfl dX7_recall_15 ?_
      refine lv_iload hx hb dX7_recall_18 (lv_at hl 0 rfl) ?_
      refine x_zald C hH mm16 (j := i) rfl (by omega) (by omega) dX7_recall_20 ?_
      refine lv_re (y := ob (rc i)) (by rw [rcK_i]) ?_
      refine lv_if_ne (tgt := 59) hx hb dX7_recall_21 (by decide) (fun c_2 => ?_) (fun c_2 => ?_)
      · skip
        replace c_2 := ob_n.mp c_2
        refine lv_iconst (v := nI 0) hx hb dX7_recall_59 (by decide +kernel) ?_
        refine lv_istore (lv' := [(5, .int (nI 0)), (4, .int (nI i)), (3, .int (nI y)), (2, .int pp), (1, .int (nI f)), (0, .ref (al (10, 0, 0)))]) hx hb dX7_recall_60 hl (by decide) rfl (fun ls hl => ?_)
        refine lv_aload_n hx hb dX7_recall_62 rfl (lv_at hl 5 rfl) ?_
        refine x_get C hH (ci := 8) (T := TX7) (N := 19) hM rfl iWX7 16 (by decide) qw_712 rfl rfl dX7_recall_63 ?_
        refine lv_iload hx hb dX7_recall_66 (lv_at hl 1 rfl) ?_
        refine lv_aload_n hx hb dX7_recall_68 rfl (lv_at hl 5 rfl) ?_
        refine x_get C hH (ci := 8) (T := TX7) (N := 19) hM rfl iWX7 16 (by decide) qw_712 rfl rfl dX7_recall_69 ?_
        refine lv_iload hx hb dX7_recall_72 (lv_at hl 1 rfl) ?_
        refine x_zald C hH mm16 (j := i) rfl (by omega) (by omega) dX7_recall_74 ?_
        refine lv_re (y := ob (rc i)) (by rw [rcK_i]) ?_
        refine lv_if_ne (tgt := 83) hx hb dX7_recall_75 (by decide) (fun _ => ?_) (fun c_3 => absurd c_3 (ob_n.mpr c_2))
        refine lv_iconst (v := nI 1) hx hb dX7_recall_83 (by decide +kernel) ?_
        refine lv_goto (tgt := 88) hx hb dX7_recall_84 (by decide) ?_
        refine x_zast C hH hS mm16 (j := i) rfl (by omega) (by omega) (Or.inr rfl) dX7_recall_88 (fun H locs hH hS => ?_)
        have hM := xu_of (t := (10, 16, 0)) (e := .inl (E.2.1 2, 150, .inl (upd (fun a => ob (rcK sg rc f pp i a)) i (nI 1)))) (by simp) hM
        have mm3 := xu_of (t := (10, 16, 0)) (e := .inl (E.2.1 2, 150, .inl (upd (fun a => ob (rcK sg rc f pp i a)) i (nI 1)))) (by simp) mm3
        have mm4 := xu_of (t := (10, 16, 0)) (e := .inl (E.2.1 2, 150, .inl (upd (fun a => ob (rcK sg rc f pp i a)) i (nI 1)))) (by simp) mm4
        have mm6 := xu_of (t := (10, 16, 0)) (e := .inl (E.2.1 2, 150, .inl (upd (fun a => ob (rcK sg rc f pp i a)) i (nI 1)))) (by simp) mm6
        have mm7 := xu_of (t := (10, 16, 0)) (e := .inl (E.2.1 2, 150, .inl (upd (fun a => ob (rcK sg rc f pp i a)) i (nI 1)))) (by simp) mm7
        have mm8 := xu_of (t := (10, 16, 0)) (e := .inl (E.2.1 2, 150, .inl (upd (fun a => ob (rcK sg rc f pp i a)) i (nI 1)))) (by simp) mm8
        have mm9 := xu_of (t := (10, 16, 0)) (e := .inl (E.2.1 2, 150, .inl (upd (fun a => ob (rcK sg rc f pp i a)) i (nI 1)))) (by simp) mm9
        have mm11 := xu_of (t := (10, 16, 0)) (e := .inl (E.2.1 2, 150, .inl (upd (fun a => ob (rcK sg rc f pp i a)) i (nI 1)))) (by simp) mm11
        have mm12 := xu_of (t := (10, 16, 0)) (e := .inl (E.2.1 2, 150, .inl (upd (fun a => ob (rcK sg rc f pp i a)) i (nI 1)))) (by simp) mm12
        have mm13 := xu_of (t := (10, 16, 0)) (e := .inl (E.2.1 2, 150, .inl (upd (fun a => ob (rcK sg rc f pp i a)) i (nI 1)))) (by simp) mm13
        have mm14 := xu_of (t := (10, 16, 0)) (e := .inl (E.2.1 2, 150, .inl (upd (fun a => ob (rcK sg rc f pp i a)) i (nI 1)))) (by simp) mm14
        have mm15 := xu_of (t := (10, 16, 0)) (e := .inl (E.2.1 2, 150, .inl (upd (fun a => ob (rcK sg rc f pp i a)) i (nI 1)))) (by simp) mm15
        have mm17 := xu_of (t := (10, 16, 0)) (e := .inl (E.2.1 2, 150, .inl (upd (fun a => ob (rcK sg rc f pp i a)) i (nI 1)))) (by simp) mm17
        have mm18 := xu_of (t := (10, 16, 0)) (e := .inl (E.2.1 2, 150, .inl (upd (fun a => ob (rcK sg rc f pp i a)) i (nI 1)))) (by simp) mm18
        have mm16 : (xu (xu w (10, 16, 0) (.inl (E.2.1 2, 150, .inl (fun a => ob (rcK sg rc f pp i a))))) (10, 16, 0) (.inl (E.2.1 2, 150, .inl (upd (fun a => ob (rcK sg rc f pp i a)) i (nI 1))))) (10, 16, 0) = some (.inl (E.2.1 2, 150, .inl (upd (fun a => ob (rcK sg rc f pp i a)) i (nI 1)))) := xu_self _ _ _
        refine lv_iload_n hx hb dX7_recall_89 rfl (lv_at hl 2 rfl) ?_
        refine lv_iload hx hb dX7_recall_90 (lv_at hl 0 rfl) ?_
        refine lv_if_eq (tgt := 99) hx hb dX7_recall_92 (by decide) (fun c_4 => ?_) (fun c_4 => absurd (by decide +kernel) c_4)
        clear c_4
        refine lv_iconst (v := nI 0) hx hb dX7_recall_99 (by decide +kernel) ?_
        refine lv_iadd hx hb dX7_recall_100 ?_
        refine lv_re (nI_add _ _) ?_
        refine lv_istore_n (lv' := [(3, .int (nI (y + 0))), (5, .int (nI 0)), (4, .int (nI i)), (2, .int pp), (1, .int (nI f)), (0, .ref (al (10, 0, 0)))]) hx hb dX7_recall_101 rfl hl (by decide) rfl (fun ls hl => ?_)
        refine lv_iinc (v := nI (i + 1)) (lv' := [(4, .int (nI (i + 1))), (3, .int (nI (y + 0))), (5, .int (nI 0)), (2, .int pp), (1, .int (nI f)), (0, .ref (al (10, 0, 0)))]) hx hb dX7_recall_102 hl (k := 2) rfl (nI_1 _) (by decide) rfl (fun ls hl => ?_)
        refine lv_goto (tgt := 5) hx hb dX7_recall_105 (by decide) ?_
        exact ih5 (by omega) (y + 0) _ _ _ (by rw [hy]; show _ = bsum _ i + (if (!rc i && (bt (sg 8 i 0) f && (decide (pp = -1) || decide (sg 7 i 0 = pp)))) = true then 1 else 0); simp [c_2]) (by rw [xu_uu, show upd (fun a => ob (rcK sg rc f pp i a)) i (nI 1) = (fun a => ob (rcK sg rc f pp (i + 1) a)) from rcK_s (B := true) (by simp [c_2])] at hH; exact hH) hS (lv_sub hl [0, 1, 3, 4, 5] rfl)
      · skip
        replace c_2 := ob_0.mp c_2
        refine lv_aload_n hx hb dX7_recall_24 rfl (lv_at hl 4 rfl) ?_
        refine x_get C hH (ci := 8) (T := TX7) (N := 19) hM rfl iWX7 12 (by decide) qw_708 rfl rfl dX7_recall_25 ?_
        refine lv_iload hx hb dX7_recall_28 (lv_at hl 0 rfl) ?_
        refine x_iald C hH mm12 (j := i) rfl (by omega) (by omega) dX7_recall_30 ?_
        refine lv_iload_n hx hb dX7_recall_31 rfl (lv_at hl 3 rfl) ?_
        refine lv_ishr hx hb dX7_recall_32 ?_
        refine lv_iconst (v := nI 1) hx hb dX7_recall_33 (by decide +kernel) ?_
        refine lv_iand hx hb dX7_recall_34 ?_
        refine lv_re (hd_bt (sg 8 i 0) (k := f) (by omega)) ?_
        refine lv_iconst (v := nI 1) hx hb dX7_recall_35 (by decide +kernel) ?_
        refine lv_icmp_ne (tgt := 59) hx hb dX7_recall_36 (by decide) (fun c_5 => ?_) (fun c_5 => ?_)
        · skip
          replace c_5 := ob_n1.mp c_5
          refine lv_iconst (v := nI 0) hx hb dX7_recall_59 (by decide +kernel) ?_
          refine lv_istore (lv' := [(5, .int (nI 0)), (4, .int (nI i)), (3, .int (nI y)), (2, .int pp), (1, .int (nI f)), (0, .ref (al (10, 0, 0)))]) hx hb dX7_recall_60 hl (by decide) rfl (fun ls hl => ?_)
          refine lv_aload_n hx hb dX7_recall_62 rfl (lv_at hl 5 rfl) ?_
          refine x_get C hH (ci := 8) (T := TX7) (N := 19) hM rfl iWX7 16 (by decide) qw_712 rfl rfl dX7_recall_63 ?_
          refine lv_iload hx hb dX7_recall_66 (lv_at hl 1 rfl) ?_
          refine lv_aload_n hx hb dX7_recall_68 rfl (lv_at hl 5 rfl) ?_
          refine x_get C hH (ci := 8) (T := TX7) (N := 19) hM rfl iWX7 16 (by decide) qw_712 rfl rfl dX7_recall_69 ?_
          refine lv_iload hx hb dX7_recall_72 (lv_at hl 1 rfl) ?_
          refine x_zald C hH mm16 (j := i) rfl (by omega) (by omega) dX7_recall_74 ?_
          refine lv_re (y := ob (rc i)) (by rw [rcK_i]) ?_
          refine lv_if_ne (tgt := 83) hx hb dX7_recall_75 (by decide) (fun c_6 => absurd (ob_0.mpr c_2) c_6) (fun _ => ?_)
          refine lv_iload hx hb dX7_recall_78 (lv_at hl 0 rfl) ?_
          refine lv_if_eq (tgt := 87) hx hb dX7_recall_80 (by decide) (fun c_7 => ?_) (fun c_7 => absurd (by decide +kernel) c_7)
          clear c_7
          refine lv_iconst (v := nI 0) hx hb dX7_recall_87 (by decide +kernel) ?_
          refine x_zast C hH hS mm16 (j := i) rfl (by omega) (by omega) (Or.inl rfl) dX7_recall_88 (fun H locs hH hS => ?_)
          have hM := xu_of (t := (10, 16, 0)) (e := .inl (E.2.1 2, 150, .inl (upd (fun a => ob (rcK sg rc f pp i a)) i (nI 0)))) (by simp) hM
          have mm3 := xu_of (t := (10, 16, 0)) (e := .inl (E.2.1 2, 150, .inl (upd (fun a => ob (rcK sg rc f pp i a)) i (nI 0)))) (by simp) mm3
          have mm4 := xu_of (t := (10, 16, 0)) (e := .inl (E.2.1 2, 150, .inl (upd (fun a => ob (rcK sg rc f pp i a)) i (nI 0)))) (by simp) mm4
          have mm6 := xu_of (t := (10, 16, 0)) (e := .inl (E.2.1 2, 150, .inl (upd (fun a => ob (rcK sg rc f pp i a)) i (nI 0)))) (by simp) mm6
          have mm7 := xu_of (t := (10, 16, 0)) (e := .inl (E.2.1 2, 150, .inl (upd (fun a => ob (rcK sg rc f pp i a)) i (nI 0)))) (by simp) mm7
          have mm8 := xu_of (t := (10, 16, 0)) (e := .inl (E.2.1 2, 150, .inl (upd (fun a => ob (rcK sg rc f pp i a)) i (nI 0)))) (by simp) mm8
          have mm9 := xu_of (t := (10, 16, 0)) (e := .inl (E.2.1 2, 150, .inl (upd (fun a => ob (rcK sg rc f pp i a)) i (nI 0)))) (by simp) mm9
          have mm11 := xu_of (t := (10, 16, 0)) (e := .inl (E.2.1 2, 150, .inl (upd (fun a => ob (rcK sg rc f pp i a)) i (nI 0)))) (by simp) mm11
          have mm12 := xu_of (t := (10, 16, 0)) (e := .inl (E.2.1 2, 150, .inl (upd (fun a => ob (rcK sg rc f pp i a)) i (nI 0)))) (by simp) mm12
          have mm13 := xu_of (t := (10, 16, 0)) (e := .inl (E.2.1 2, 150, .inl (upd (fun a => ob (rcK sg rc f pp i a)) i (nI 0)))) (by simp) mm13
          have mm14 := xu_of (t := (10, 16, 0)) (e := .inl (E.2.1 2, 150, .inl (upd (fun a => ob (rcK sg rc f pp i a)) i (nI 0)))) (by simp) mm14
          have mm15 := xu_of (t := (10, 16, 0)) (e := .inl (E.2.1 2, 150, .inl (upd (fun a => ob (rcK sg rc f pp i a)) i (nI 0)))) (by simp) mm15
          have mm17 := xu_of (t := (10, 16, 0)) (e := .inl (E.2.1 2, 150, .inl (upd (fun a => ob (rcK sg rc f pp i a)) i (nI 0)))) (by simp) mm17
          have mm18 := xu_of (t := (10, 16, 0)) (e := .inl (E.2.1 2, 150, .inl (upd (fun a => ob (rcK sg rc f pp i a)) i (nI 0)))) (by simp) mm18
          have mm16 : (xu (xu w (10, 16, 0) (.inl (E.2.1 2, 150, .inl (fun a => ob (rcK sg rc f pp i a))))) (10, 16, 0) (.inl (E.2.1 2, 150, .inl (upd (fun a => ob (rcK sg rc f pp i a)) i (nI 0))))) (10, 16, 0) = some (.inl (E.2.1 2, 150, .inl (upd (fun a => ob (rcK sg rc f pp i a)) i (nI 0)))) := xu_self _ _ _
          refine lv_iload_n hx hb dX7_recall_89 rfl (lv_at hl 2 rfl) ?_
          refine lv_iload hx hb dX7_recall_90 (lv_at hl 0 rfl) ?_
          refine lv_if_eq (tgt := 99) hx hb dX7_recall_92 (by decide) (fun c_8 => ?_) (fun c_8 => absurd (by decide +kernel) c_8)
          clear c_8
          refine lv_iconst (v := nI 0) hx hb dX7_recall_99 (by decide +kernel) ?_
          refine lv_iadd hx hb dX7_recall_100 ?_
          refine lv_re (nI_add _ _) ?_
          refine lv_istore_n (lv' := [(3, .int (nI (y + 0))), (5, .int (nI 0)), (4, .int (nI i)), (2, .int pp), (1, .int (nI f)), (0, .ref (al (10, 0, 0)))]) hx hb dX7_recall_101 rfl hl (by decide) rfl (fun ls hl => ?_)
          refine lv_iinc (v := nI (i + 1)) (lv' := [(4, .int (nI (i + 1))), (3, .int (nI (y + 0))), (5, .int (nI 0)), (2, .int pp), (1, .int (nI f)), (0, .ref (al (10, 0, 0)))]) hx hb dX7_recall_102 hl (k := 2) rfl (nI_1 _) (by decide) rfl (fun ls hl => ?_)
          refine lv_goto (tgt := 5) hx hb dX7_recall_105 (by decide) ?_
          exact ih5 (by omega) (y + 0) _ _ _ (by rw [hy]; show _ = bsum _ i + (if (!rc i && (bt (sg 8 i 0) f && (decide (pp = -1) || decide (sg 7 i 0 = pp)))) = true then 1 else 0); simp [c_2, c_5]) (by rw [xu_uu, show upd (fun a => ob (rcK sg rc f pp i a)) i (nI 0) = (fun a => ob (rcK sg rc f pp (i + 1) a)) from rcK_s (B := false) (by simp [c_2, c_5])] at hH; exact hH) hS (lv_sub hl [0, 1, 3, 4, 5] rfl)
        · skip
          replace c_5 := ob_1.mp c_5
          refine lv_iload_n hx hb dX7_recall_39 rfl (lv_at hl 2 rfl) ?_
          refine lv_iconst (v := (-1)) hx hb dX7_recall_40 (by decide +kernel) ?_
          refine lv_icmp_eq (tgt := 55) hx hb dX7_recall_41 (by decide) (fun c_9 => ?_) (fun c_9 => ?_)
          · skip
            refine lv_iconst (v := nI 1) hx hb dX7_recall_55 (by decide +kernel) ?_
            refine lv_goto (tgt := 60) hx hb dX7_recall_56 (by decide) ?_
            refine lv_istore (lv' := [(5, .int (nI 1)), (4, .int (nI i)), (3, .int (nI y)), (2, .int pp), (1, .int (nI f)), (0, .ref (al (10, 0, 0)))]) hx hb dX7_recall_60 hl (by decide) rfl (fun ls hl => ?_)
            refine lv_aload_n hx hb dX7_recall_62 rfl (lv_at hl 5 rfl) ?_
            refine x_get C hH (ci := 8) (T := TX7) (N := 19) hM rfl iWX7 16 (by decide) qw_712 rfl rfl dX7_recall_63 ?_
            refine lv_iload hx hb dX7_recall_66 (lv_at hl 1 rfl) ?_
            refine lv_aload_n hx hb dX7_recall_68 rfl (lv_at hl 5 rfl) ?_
            refine x_get C hH (ci := 8) (T := TX7) (N := 19) hM rfl iWX7 16 (by decide) qw_712 rfl rfl dX7_recall_69 ?_
            refine lv_iload hx hb dX7_recall_72 (lv_at hl 1 rfl) ?_
            refine x_zald C hH mm16 (j := i) rfl (by omega) (by omega) dX7_recall_74 ?_
            refine lv_re (y := ob (rc i)) (by rw [rcK_i]) ?_
            refine lv_if_ne (tgt := 83) hx hb dX7_recall_75 (by decide) (fun c_10 => absurd (ob_0.mpr c_2) c_10) (fun _ => ?_)
            refine lv_iload hx hb dX7_recall_78 (lv_at hl 0 rfl) ?_
            refine lv_if_eq (tgt := 87) hx hb dX7_recall_80 (by decide) (fun c_11 => absurd c_11 (by decide +kernel)) (fun c_11 => ?_)
            clear c_11
            refine lv_iconst (v := nI 1) hx hb dX7_recall_83 (by decide +kernel) ?_
            refine lv_goto (tgt := 88) hx hb dX7_recall_84 (by decide) ?_
            refine x_zast C hH hS mm16 (j := i) rfl (by omega) (by omega) (Or.inr rfl) dX7_recall_88 (fun H locs hH hS => ?_)
            have hM := xu_of (t := (10, 16, 0)) (e := .inl (E.2.1 2, 150, .inl (upd (fun a => ob (rcK sg rc f pp i a)) i (nI 1)))) (by simp) hM
            have mm3 := xu_of (t := (10, 16, 0)) (e := .inl (E.2.1 2, 150, .inl (upd (fun a => ob (rcK sg rc f pp i a)) i (nI 1)))) (by simp) mm3
            have mm4 := xu_of (t := (10, 16, 0)) (e := .inl (E.2.1 2, 150, .inl (upd (fun a => ob (rcK sg rc f pp i a)) i (nI 1)))) (by simp) mm4
            have mm6 := xu_of (t := (10, 16, 0)) (e := .inl (E.2.1 2, 150, .inl (upd (fun a => ob (rcK sg rc f pp i a)) i (nI 1)))) (by simp) mm6
            have mm7 := xu_of (t := (10, 16, 0)) (e := .inl (E.2.1 2, 150, .inl (upd (fun a => ob (rcK sg rc f pp i a)) i (nI 1)))) (by simp) mm7
            have mm8 := xu_of (t := (10, 16, 0)) (e := .inl (E.2.1 2, 150, .inl (upd (fun a => ob (rcK sg rc f pp i a)) i (nI 1)))) (by simp) mm8
            have mm9 := xu_of (t := (10, 16, 0)) (e := .inl (E.2.1 2, 150, .inl (upd (fun a => ob (rcK sg rc f pp i a)) i (nI 1)))) (by simp) mm9
            have mm11 := xu_of (t := (10, 16, 0)) (e := .inl (E.2.1 2, 150, .inl (upd (fun a => ob (rcK sg rc f pp i a)) i (nI 1)))) (by simp) mm11
            have mm12 := xu_of (t := (10, 16, 0)) (e := .inl (E.2.1 2, 150, .inl (upd (fun a => ob (rcK sg rc f pp i a)) i (nI 1)))) (by simp) mm12
            have mm13 := xu_of (t := (10, 16, 0)) (e := .inl (E.2.1 2, 150, .inl (upd (fun a => ob (rcK sg rc f pp i a)) i (nI 1)))) (by simp) mm13
            have mm14 := xu_of (t := (10, 16, 0)) (e := .inl (E.2.1 2, 150, .inl (upd (fun a => ob (rcK sg rc f pp i a)) i (nI 1)))) (by simp) mm14
            have mm15 := xu_of (t := (10, 16, 0)) (e := .inl (E.2.1 2, 150, .inl (upd (fun a => ob (rcK sg rc f pp i a)) i (nI 1)))) (by simp) mm15
            have mm17 := xu_of (t := (10, 16, 0)) (e := .inl (E.2.1 2, 150, .inl (upd (fun a => ob (rcK sg rc f pp i a)) i (nI 1)))) (by simp) mm17
            have mm18 := xu_of (t := (10, 16, 0)) (e := .inl (E.2.1 2, 150, .inl (upd (fun a => ob (rcK sg rc f pp i a)) i (nI 1)))) (by simp) mm18
            have mm16 : (xu (xu w (10, 16, 0) (.inl (E.2.1 2, 150, .inl (fun a => ob (rcK sg rc f pp i a))))) (10, 16, 0) (.inl (E.2.1 2, 150, .inl (upd (fun a => ob (rcK sg rc f pp i a)) i (nI 1))))) (10, 16, 0) = some (.inl (E.2.1 2, 150, .inl (upd (fun a => ob (rcK sg rc f pp i a)) i (nI 1)))) := xu_self _ _ _
            refine lv_iload_n hx hb dX7_recall_89 rfl (lv_at hl 2 rfl) ?_
            refine lv_iload hx hb dX7_recall_90 (lv_at hl 0 rfl) ?_
            refine lv_if_eq (tgt := 99) hx hb dX7_recall_92 (by decide) (fun c_12 => absurd c_12 (by decide +kernel)) (fun c_12 => ?_)
            clear c_12
            refine lv_iconst (v := nI 1) hx hb dX7_recall_95 (by decide +kernel) ?_
            refine lv_goto (tgt := 100) hx hb dX7_recall_96 (by decide) ?_
            refine lv_iadd hx hb dX7_recall_100 ?_
            refine lv_re (nI_add _ _) ?_
            refine lv_istore_n (lv' := [(3, .int (nI (y + 1))), (5, .int (nI 1)), (4, .int (nI i)), (2, .int pp), (1, .int (nI f)), (0, .ref (al (10, 0, 0)))]) hx hb dX7_recall_101 rfl hl (by decide) rfl (fun ls hl => ?_)
            refine lv_iinc (v := nI (i + 1)) (lv' := [(4, .int (nI (i + 1))), (3, .int (nI (y + 1))), (5, .int (nI 1)), (2, .int pp), (1, .int (nI f)), (0, .ref (al (10, 0, 0)))]) hx hb dX7_recall_102 hl (k := 2) rfl (nI_1 _) (by decide) rfl (fun ls hl => ?_)
            refine lv_goto (tgt := 5) hx hb dX7_recall_105 (by decide) ?_
            exact ih5 (by omega) (y + 1) _ _ _ (by rw [hy]; show _ = bsum _ i + (if (!rc i && (bt (sg 8 i 0) f && (decide (pp = -1) || decide (sg 7 i 0 = pp)))) = true then 1 else 0); simp [c_2, c_5, c_9]) (by rw [xu_uu, show upd (fun a => ob (rcK sg rc f pp i a)) i (nI 1) = (fun a => ob (rcK sg rc f pp (i + 1) a)) from rcK_s (B := true) (by simp [c_2, c_5, c_9])] at hH; exact hH) hS (lv_sub hl [0, 1, 3, 4, 5] rfl)
          · skip
            refine lv_aload_n hx hb dX7_recall_44 rfl (lv_at hl 4 rfl) ?_
            refine x_get C hH (ci := 8) (T := TX7) (N := 19) hM rfl iWX7 11 (by decide) qw_707 rfl rfl dX7_recall_45 ?_
            refine lv_iload hx hb dX7_recall_48 (lv_at hl 0 rfl) ?_
            refine x_iald C hH mm11 (j := i) rfl (by omega) (by omega) dX7_recall_50 ?_
            refine lv_iload_n hx hb dX7_recall_51 rfl (lv_at hl 2 rfl) ?_
            refine lv_icmp_ne (tgt := 59) hx hb dX7_recall_52 (by decide) (fun c_13 => ?_) (fun c_13 => ?_)
            · skip
              refine lv_iconst (v := nI 0) hx hb dX7_recall_59 (by decide +kernel) ?_
              refine lv_istore (lv' := [(5, .int (nI 0)), (4, .int (nI i)), (3, .int (nI y)), (2, .int pp), (1, .int (nI f)), (0, .ref (al (10, 0, 0)))]) hx hb dX7_recall_60 hl (by decide) rfl (fun ls hl => ?_)
              refine lv_aload_n hx hb dX7_recall_62 rfl (lv_at hl 5 rfl) ?_
              refine x_get C hH (ci := 8) (T := TX7) (N := 19) hM rfl iWX7 16 (by decide) qw_712 rfl rfl dX7_recall_63 ?_
              refine lv_iload hx hb dX7_recall_66 (lv_at hl 1 rfl) ?_
              refine lv_aload_n hx hb dX7_recall_68 rfl (lv_at hl 5 rfl) ?_
              refine x_get C hH (ci := 8) (T := TX7) (N := 19) hM rfl iWX7 16 (by decide) qw_712 rfl rfl dX7_recall_69 ?_
              refine lv_iload hx hb dX7_recall_72 (lv_at hl 1 rfl) ?_
              refine x_zald C hH mm16 (j := i) rfl (by omega) (by omega) dX7_recall_74 ?_
              refine lv_re (y := ob (rc i)) (by rw [rcK_i]) ?_
              refine lv_if_ne (tgt := 83) hx hb dX7_recall_75 (by decide) (fun c_14 => absurd (ob_0.mpr c_2) c_14) (fun _ => ?_)
              refine lv_iload hx hb dX7_recall_78 (lv_at hl 0 rfl) ?_
              refine lv_if_eq (tgt := 87) hx hb dX7_recall_80 (by decide) (fun c_15 => ?_) (fun c_15 => absurd (by decide +kernel) c_15)
              clear c_15
              refine lv_iconst (v := nI 0) hx hb dX7_recall_87 (by decide +kernel) ?_
              refine x_zast C hH hS mm16 (j := i) rfl (by omega) (by omega) (Or.inl rfl) dX7_recall_88 (fun H locs hH hS => ?_)
              have hM := xu_of (t := (10, 16, 0)) (e := .inl (E.2.1 2, 150, .inl (upd (fun a => ob (rcK sg rc f pp i a)) i (nI 0)))) (by simp) hM
              have mm3 := xu_of (t := (10, 16, 0)) (e := .inl (E.2.1 2, 150, .inl (upd (fun a => ob (rcK sg rc f pp i a)) i (nI 0)))) (by simp) mm3
              have mm4 := xu_of (t := (10, 16, 0)) (e := .inl (E.2.1 2, 150, .inl (upd (fun a => ob (rcK sg rc f pp i a)) i (nI 0)))) (by simp) mm4
              have mm6 := xu_of (t := (10, 16, 0)) (e := .inl (E.2.1 2, 150, .inl (upd (fun a => ob (rcK sg rc f pp i a)) i (nI 0)))) (by simp) mm6
              have mm7 := xu_of (t := (10, 16, 0)) (e := .inl (E.2.1 2, 150, .inl (upd (fun a => ob (rcK sg rc f pp i a)) i (nI 0)))) (by simp) mm7
              have mm8 := xu_of (t := (10, 16, 0)) (e := .inl (E.2.1 2, 150, .inl (upd (fun a => ob (rcK sg rc f pp i a)) i (nI 0)))) (by simp) mm8
              have mm9 := xu_of (t := (10, 16, 0)) (e := .inl (E.2.1 2, 150, .inl (upd (fun a => ob (rcK sg rc f pp i a)) i (nI 0)))) (by simp) mm9
              have mm11 := xu_of (t := (10, 16, 0)) (e := .inl (E.2.1 2, 150, .inl (upd (fun a => ob (rcK sg rc f pp i a)) i (nI 0)))) (by simp) mm11
              have mm12 := xu_of (t := (10, 16, 0)) (e := .inl (E.2.1 2, 150, .inl (upd (fun a => ob (rcK sg rc f pp i a)) i (nI 0)))) (by simp) mm12
              have mm13 := xu_of (t := (10, 16, 0)) (e := .inl (E.2.1 2, 150, .inl (upd (fun a => ob (rcK sg rc f pp i a)) i (nI 0)))) (by simp) mm13
              have mm14 := xu_of (t := (10, 16, 0)) (e := .inl (E.2.1 2, 150, .inl (upd (fun a => ob (rcK sg rc f pp i a)) i (nI 0)))) (by simp) mm14
              have mm15 := xu_of (t := (10, 16, 0)) (e := .inl (E.2.1 2, 150, .inl (upd (fun a => ob (rcK sg rc f pp i a)) i (nI 0)))) (by simp) mm15
              have mm17 := xu_of (t := (10, 16, 0)) (e := .inl (E.2.1 2, 150, .inl (upd (fun a => ob (rcK sg rc f pp i a)) i (nI 0)))) (by simp) mm17
              have mm18 := xu_of (t := (10, 16, 0)) (e := .inl (E.2.1 2, 150, .inl (upd (fun a => ob (rcK sg rc f pp i a)) i (nI 0)))) (by simp) mm18
              have mm16 : (xu (xu w (10, 16, 0) (.inl (E.2.1 2, 150, .inl (fun a => ob (rcK sg rc f pp i a))))) (10, 16, 0) (.inl (E.2.1 2, 150, .inl (upd (fun a => ob (rcK sg rc f pp i a)) i (nI 0))))) (10, 16, 0) = some (.inl (E.2.1 2, 150, .inl (upd (fun a => ob (rcK sg rc f pp i a)) i (nI 0)))) := xu_self _ _ _
              refine lv_iload_n hx hb dX7_recall_89 rfl (lv_at hl 2 rfl) ?_
              refine lv_iload hx hb dX7_recall_90 (lv_at hl 0 rfl) ?_
              refine lv_if_eq (tgt := 99) hx hb dX7_recall_92 (by decide) (fun c_16 => ?_) (fun c_16 => absurd (by decide +kernel) c_16)
              clear c_16
              refine lv_iconst (v := nI 0) hx hb dX7_recall_99 (by decide +kernel) ?_
              refine lv_iadd hx hb dX7_recall_100 ?_
              refine lv_re (nI_add _ _) ?_
              refine lv_istore_n (lv' := [(3, .int (nI (y + 0))), (5, .int (nI 0)), (4, .int (nI i)), (2, .int pp), (1, .int (nI f)), (0, .ref (al (10, 0, 0)))]) hx hb dX7_recall_101 rfl hl (by decide) rfl (fun ls hl => ?_)
              refine lv_iinc (v := nI (i + 1)) (lv' := [(4, .int (nI (i + 1))), (3, .int (nI (y + 0))), (5, .int (nI 0)), (2, .int pp), (1, .int (nI f)), (0, .ref (al (10, 0, 0)))]) hx hb dX7_recall_102 hl (k := 2) rfl (nI_1 _) (by decide) rfl (fun ls hl => ?_)
              refine lv_goto (tgt := 5) hx hb dX7_recall_105 (by decide) ?_
              exact ih5 (by omega) (y + 0) _ _ _ (by rw [hy]; show _ = bsum _ i + (if (!rc i && (bt (sg 8 i 0) f && (decide (pp = -1) || decide (sg 7 i 0 = pp)))) = true then 1 else 0); simp [c_2, c_5, c_9, c_13]) (by rw [xu_uu, show upd (fun a => ob (rcK sg rc f pp i a)) i (nI 0) = (fun a => ob (rcK sg rc f pp (i + 1) a)) from rcK_s (B := false) (by simp [c_2, c_5, c_9, c_13])] at hH; exact hH) hS (lv_sub hl [0, 1, 3, 4, 5] rfl)
            · skip
              refine lv_iconst (v := nI 1) hx hb dX7_recall_55 (by decide +kernel) ?_
              refine lv_goto (tgt := 60) hx hb dX7_recall_56 (by decide) ?_
              refine lv_istore (lv' := [(5, .int (nI 1)), (4, .int (nI i)), (3, .int (nI y)), (2, .int pp), (1, .int (nI f)), (0, .ref (al (10, 0, 0)))]) hx hb dX7_recall_60 hl (by decide) rfl (fun ls hl => ?_)
              refine lv_aload_n hx hb dX7_recall_62 rfl (lv_at hl 5 rfl) ?_
              refine x_get C hH (ci := 8) (T := TX7) (N := 19) hM rfl iWX7 16 (by decide) qw_712 rfl rfl dX7_recall_63 ?_
              refine lv_iload hx hb dX7_recall_66 (lv_at hl 1 rfl) ?_
              refine lv_aload_n hx hb dX7_recall_68 rfl (lv_at hl 5 rfl) ?_
              refine x_get C hH (ci := 8) (T := TX7) (N := 19) hM rfl iWX7 16 (by decide) qw_712 rfl rfl dX7_recall_69 ?_
              refine lv_iload hx hb dX7_recall_72 (lv_at hl 1 rfl) ?_
              refine x_zald C hH mm16 (j := i) rfl (by omega) (by omega) dX7_recall_74 ?_
              refine lv_re (y := ob (rc i)) (by rw [rcK_i]) ?_
              refine lv_if_ne (tgt := 83) hx hb dX7_recall_75 (by decide) (fun c_17 => absurd (ob_0.mpr c_2) c_17) (fun _ => ?_)
              refine lv_iload hx hb dX7_recall_78 (lv_at hl 0 rfl) ?_
              refine lv_if_eq (tgt := 87) hx hb dX7_recall_80 (by decide) (fun c_18 => absurd c_18 (by decide +kernel)) (fun c_18 => ?_)
              clear c_18
              refine lv_iconst (v := nI 1) hx hb dX7_recall_83 (by decide +kernel) ?_
              refine lv_goto (tgt := 88) hx hb dX7_recall_84 (by decide) ?_
              refine x_zast C hH hS mm16 (j := i) rfl (by omega) (by omega) (Or.inr rfl) dX7_recall_88 (fun H locs hH hS => ?_)
              have hM := xu_of (t := (10, 16, 0)) (e := .inl (E.2.1 2, 150, .inl (upd (fun a => ob (rcK sg rc f pp i a)) i (nI 1)))) (by simp) hM
              have mm3 := xu_of (t := (10, 16, 0)) (e := .inl (E.2.1 2, 150, .inl (upd (fun a => ob (rcK sg rc f pp i a)) i (nI 1)))) (by simp) mm3
              have mm4 := xu_of (t := (10, 16, 0)) (e := .inl (E.2.1 2, 150, .inl (upd (fun a => ob (rcK sg rc f pp i a)) i (nI 1)))) (by simp) mm4
              have mm6 := xu_of (t := (10, 16, 0)) (e := .inl (E.2.1 2, 150, .inl (upd (fun a => ob (rcK sg rc f pp i a)) i (nI 1)))) (by simp) mm6
              have mm7 := xu_of (t := (10, 16, 0)) (e := .inl (E.2.1 2, 150, .inl (upd (fun a => ob (rcK sg rc f pp i a)) i (nI 1)))) (by simp) mm7
              have mm8 := xu_of (t := (10, 16, 0)) (e := .inl (E.2.1 2, 150, .inl (upd (fun a => ob (rcK sg rc f pp i a)) i (nI 1)))) (by simp) mm8
              have mm9 := xu_of (t := (10, 16, 0)) (e := .inl (E.2.1 2, 150, .inl (upd (fun a => ob (rcK sg rc f pp i a)) i (nI 1)))) (by simp) mm9
              have mm11 := xu_of (t := (10, 16, 0)) (e := .inl (E.2.1 2, 150, .inl (upd (fun a => ob (rcK sg rc f pp i a)) i (nI 1)))) (by simp) mm11
              have mm12 := xu_of (t := (10, 16, 0)) (e := .inl (E.2.1 2, 150, .inl (upd (fun a => ob (rcK sg rc f pp i a)) i (nI 1)))) (by simp) mm12
              have mm13 := xu_of (t := (10, 16, 0)) (e := .inl (E.2.1 2, 150, .inl (upd (fun a => ob (rcK sg rc f pp i a)) i (nI 1)))) (by simp) mm13
              have mm14 := xu_of (t := (10, 16, 0)) (e := .inl (E.2.1 2, 150, .inl (upd (fun a => ob (rcK sg rc f pp i a)) i (nI 1)))) (by simp) mm14
              have mm15 := xu_of (t := (10, 16, 0)) (e := .inl (E.2.1 2, 150, .inl (upd (fun a => ob (rcK sg rc f pp i a)) i (nI 1)))) (by simp) mm15
              have mm17 := xu_of (t := (10, 16, 0)) (e := .inl (E.2.1 2, 150, .inl (upd (fun a => ob (rcK sg rc f pp i a)) i (nI 1)))) (by simp) mm17
              have mm18 := xu_of (t := (10, 16, 0)) (e := .inl (E.2.1 2, 150, .inl (upd (fun a => ob (rcK sg rc f pp i a)) i (nI 1)))) (by simp) mm18
              have mm16 : (xu (xu w (10, 16, 0) (.inl (E.2.1 2, 150, .inl (fun a => ob (rcK sg rc f pp i a))))) (10, 16, 0) (.inl (E.2.1 2, 150, .inl (upd (fun a => ob (rcK sg rc f pp i a)) i (nI 1))))) (10, 16, 0) = some (.inl (E.2.1 2, 150, .inl (upd (fun a => ob (rcK sg rc f pp i a)) i (nI 1)))) := xu_self _ _ _
              refine lv_iload_n hx hb dX7_recall_89 rfl (lv_at hl 2 rfl) ?_
              refine lv_iload hx hb dX7_recall_90 (lv_at hl 0 rfl) ?_
              refine lv_if_eq (tgt := 99) hx hb dX7_recall_92 (by decide) (fun c_19 => absurd c_19 (by decide +kernel)) (fun c_19 => ?_)
              clear c_19
              refine lv_iconst (v := nI 1) hx hb dX7_recall_95 (by decide +kernel) ?_
              refine lv_goto (tgt := 100) hx hb dX7_recall_96 (by decide) ?_
              refine lv_iadd hx hb dX7_recall_100 ?_
              refine lv_re (nI_add _ _) ?_
              refine lv_istore_n (lv' := [(3, .int (nI (y + 1))), (5, .int (nI 1)), (4, .int (nI i)), (2, .int pp), (1, .int (nI f)), (0, .ref (al (10, 0, 0)))]) hx hb dX7_recall_101 rfl hl (by decide) rfl (fun ls hl => ?_)
              refine lv_iinc (v := nI (i + 1)) (lv' := [(4, .int (nI (i + 1))), (3, .int (nI (y + 1))), (5, .int (nI 1)), (2, .int pp), (1, .int (nI f)), (0, .ref (al (10, 0, 0)))]) hx hb dX7_recall_102 hl (k := 2) rfl (nI_1 _) (by decide) rfl (fun ls hl => ?_)
              refine lv_goto (tgt := 5) hx hb dX7_recall_105 (by decide) ?_
              exact ih5 (by omega) (y + 1) _ _ _ (by rw [hy]; show _ = bsum _ i + (if (!rc i && (bt (sg 8 i 0) f && (decide (pp = -1) || decide (sg 7 i 0 = pp)))) = true then 1 else 0); simp [c_2, c_5, c_9, c_13]) (by rw [xu_uu, show upd (fun a => ob (rcK sg rc f pp i a)) i (nI 1) = (fun a => ob (rcK sg rc f pp (i + 1) a)) from rcK_s (B := true) (by simp [c_2, c_5, c_9, c_13])] at hH; exact hH) hS (lv_sub hl [0, 1, 3, 4, 5] rfl)
  exact lp5 0 (Nat.zero_le _) 0 _ _ _ rfl (by rw [rcK_0, xu_same mm16]; exact hH) hS (lv_sub hl [0, 1, 4, 3, 2] rfl)
