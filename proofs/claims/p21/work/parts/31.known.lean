section LCM
variable {p : Program} {l : Launch} {e : Env} {R : Room} {s : State} {m : MethodId} {args : Array Value} {below : List Frame} {meth : Method} {c : Code} {H : Heap} {locs : List Loc} {cells slots : Nat} {Q : State → Prop} {pc : Nat} {ls : Array Slot} {rest : List Value} {cc : ByteArray}
def lcv (x y : Int64) : Int32 := if x > y then 1 else if x == y then 0 else -1
theorem lv_lcmp (hexec : p.tables.exec = Jvm.exec) (hb : c.code = cc) {x y : Int64} (hdg : decode cc pc = .ok (.lcmp, 1))
    (k : W p l e R s m args below meth c H locs cells slots Q (F0 m (pc + 1) ls (.int (lcv x y) :: rest))) : W p l e R s m args below meth c H locs cells slots Q (F0 m pc ls (.long y :: .long x :: rest)) := by
  intro T hT X
  obtain ⟨t, a, b⟩ := k T hT X
  refine ⟨t, ?_, b⟩
  have e : lcv x y = if y < x then 1 else if x = y then 0 else -1 := by unfold lcv; simp
  rw [e] at a
  jvm_step X.here [X.here.top, hexec, hb, hdg]
  by_cases h1 : y < x
  · rw [if_pos h1] at a ⊢; exact a
  · rw [if_neg h1] at a ⊢
    by_cases h2 : x = y
    · rw [if_pos h2] at a ⊢; exact a
    · rw [if_neg h2] at a ⊢; exact a
end LCM
theorem lcv_0 {x : Int64} : lcv x 0 = 0 ↔ x = 0 := by
  unfold lcv
  by_cases h : x = 0
  · subst h; exact ⟨fun _ => rfl, fun _ => rfl⟩
  · refine ⟨fun q => absurd q ?_, fun q => absurd q h⟩
    split
    · decide
    · rw [if_neg (by simpa using h)]; decide
theorem lcv_bit (x : Int64) {k : Nat} (hk : k < 64) : lcv ((x.toUInt64 >>> ((nI k).toInt64.toUInt64 &&& Int64.toUInt64 63)).toInt64 &&& 1) 0 = ob (bL x k) := by
  have e : ((x.toUInt64 >>> ((nI k).toInt64.toUInt64 &&& Int64.toUInt64 63)).toInt64 &&& 1) = if bL x k then 1 else 0 := by
    refine bL_ext fun i hi => ?_
    rw [bL_and, bL_shrK x _ _ i (sK k hk), bL_1]
    by_cases q : i = 0
    · subst q
      rw [Nat.add_zero]
      cases bL x k
      · rw [if_neg (by decide), bL_0]; rfl
      · rw [if_pos rfl, bL_1]; rfl
    · rw [decide_eq_false q, Bool.and_false]
      split
      · rw [bL_1, decide_eq_false q]
      · rw [bL_0]
  rw [e]
  cases bL x k <;> decide
def bz (f : Nat → Int64) (i : Nat) : Nat → Int64 := fun v => if v < i then 0 else f v
theorem bz_0 (f : Nat → Int64) : bz f 0 = f := by funext v; exact if_neg (Nat.not_lt_zero v)
theorem bz_s (f : Nat → Int64) (i : Nat) : vp_updL (bz f i) i 0 = bz f (i + 1) := by
  funext v
  show (if v = i then 0 else (if v < i then 0 else f v)) = if v < i + 1 then 0 else f v
  by_cases h : v = i
  · subst h; rw [if_pos rfl, if_pos (Nat.lt_succ_self v)]
  · rw [if_neg h]
    by_cases k : v < i
    · rw [if_pos k, if_pos (Nat.lt_succ_of_lt k)]
    · rw [if_neg k, if_neg (by omega)]
theorem mk_max : ∀ nf, nf ≤ 16 → (if nI 0 < nI nf - nI 6 then nI nf - nI 6 else nI 0) = nI (nf - 6) := by decide +kernel
theorem mk_min : ∀ nf, nf ≤ 16 → (if nI 1 <<< (nI (nf - 6) &&& 31) < nI 1024 then nI 1 <<< (nI (nf - 6) &&& 31) else nI 1024) = nI (2 ^ (nf - 6)) := by decide +kernel
theorem mk_U : ∀ nf, nf ≤ 16 → 2 ^ (nf - 6) ≤ 1024 := by decide +kernel
theorem mk_lt {nf s : Nat} (h : s < 2 ^ nf) : s < 64 * 2 ^ (nf - 6) := by
  refine Nat.lt_of_lt_of_le h ?_
  rw [show (64 : Nat) = 2 ^ 6 from rfl, ← Nat.pow_add]
  exact Nat.pow_le_pow_right (by decide) (by omega)
theorem gen_h {r0 i : Nat} (hr0 : r0 ≤ 16) (hi : i < r0) : nI (2 ^ (r0 - i)) >>> (nI 1 &&& 31) = nI (2 ^ (r0 - (i + 1))) := by
  have k := pk_shrN (n := 2 ^ (r0 - i)) (Nat.pow_lt_pow_right (by decide) (by omega)) ((1 : Int32) &&& 31) 1 (by decide)
  rw [Nat.pow_one, show r0 - i = (r0 - (i + 1)) + 1 by omega, Nat.pow_succ, Nat.mul_div_cancel _ (by decide)] at k
  rw [show r0 - i = (r0 - (i + 1)) + 1 by omega, Nat.pow_succ]
  exact k
/-- the marks are what is known as far as answer i -/
def mkI (sg : Nat → Nat → Nat → Int32) (rc : Nat → Bool) (nf p b : Nat) (f : Nat → Int64) (i : Nat) : Prop := ∀ x, x / 64 < 2 ^ (nf - 6) → bM f x = decide (red (KFs sg rc i p b) 16 (nI x) = 0)
section MKI
variable {sg : Nat → Nat → Nat → Int32} {rc : Nat → Bool} {nf p b i : Nat} {f : Nat → Int64}
theorem mkI_0 {f5 : Nat → Int64} (h16 : nf ≤ 16) : mkI sg rc nf p b (vp_updL (bz f5 (2 ^ (nf - 6))) 0 1) 0 := by
  intro x hx
  show _ = decide (red (fun _ => 0) 16 (nI x) = 0)
  rw [red_0]
  unfold bM
  have h31 : x < 2 ^ 31 ∨ ¬ x < 2 ^ 31 := Decidable.em _
  by_cases q : x / 64 = 0
  · have e : vp_updL (bz f5 (2 ^ (nf - 6))) 0 1 (x / 64) = 1 := if_pos q
    rw [e, bL_1]
    refine decide_eq_decide.mpr ⟨fun z => ?_, fun z => ?_⟩
    · rw [show x = 0 by omega]; rfl
    · have := (nI_eq0 (j := x) (by omega)).mp z; omega
  · have e : vp_updL (bz f5 (2 ^ (nf - 6))) 0 1 (x / 64) = 0 := by
      show (if x / 64 = 0 then 1 else if x / 64 < 2 ^ (nf - 6) then 0 else f5 (x / 64)) = 0
      rw [if_neg q, if_pos hx]
    rw [e, bL_0]
    refine (decide_eq_false fun z => ?_).symm
    rcases h31 with h | h
    · have := (nI_eq0 h).mp z; omega
    · exact absurd (Nat.lt_of_lt_of_le hx (mk_U nf h16)) (by omega)
theorem mkI_n (h : mkI sg rc nf p b f i) (hd : stdb sg rc p b i = false) : mkI sg rc nf p b f (i + 1) := by
  intro x hx
  rw [h x hx]
  have e : KFs sg rc (i + 1) p b = KFs sg rc i p b := by
    show (if stdb sg rc p b i = true then _ else _) = _
    rw [hd]; rfl
  rw [e]
theorem mkI_s {s : Nat} (h : mkI sg rc nf p b f i) (h16 : nf ≤ 16) (hS : ∀ a, a < i + 1 → sml nf (sg 8 a 0)) (hd : stdb sg rc p b i = true) (hs : s < 2 ^ nf) (es : sg 8 i 0 = nI s) : mkI sg rc nf p b (if bM f s then f else adW f s (2 ^ (nf - 6)) (2 ^ (nf - 6))) (i + 1) := by
  intro x hx
  have hs6 : s / 64 < 2 ^ (nf - 6) := Nat.div_lt_of_lt_mul (mk_lt hs)
  have h16' : ∀ a, a < i + 1 → sml 16 (sg 8 a 0) := fun a ha j hj => hS a ha j (by omega)
  obtain ⟨hE, hk⟩ := rws_ok (c := stdb sg rc p b) (S := sets sg) i (fun a ha _ => h16' a (by omega))
  have e : KFs sg rc (i + 1) p b = lrF (KFs sg rc i p b) 16 (nI s) := by
    show (if stdb sg rc p b i = true then lrF _ 16 (sg 8 i 0) else _) = _
    rw [hd, es]; rfl
  have key := lr_ker hE 16 (nI s) (Nat.le_refl _) (by rw [← es]; exact h16' i (Nat.lt_succ_self i)) (nI x)
  rw [e]
  have hm := h s hs6
  cases hb : bM f s with
  | true =>
    rw [if_pos rfl, h x hx]
    rw [hb] at hm
    have hz : red (KFs sg rc i p b) 16 (nI s) = 0 := of_decide_eq_true hm.symm
    refine decide_eq_decide.mpr (Iff.symm (key.trans ⟨fun q => q.elim id (fun q => ?_), Or.inl⟩))
    have q' : red (KFs sg rc i p b) 16 (nI x ^^^ nI s) = 0 := q
    rw [red_x, hz, xor_0] at q'; exact q'
  | false =>
    rw [if_neg (by decide), bM_ad rfl hs6 hx, h x hx, h (x ^^^ s) (by rw [(xor_d x s).1]; exact Nat.xor_lt_two_pow hx hs6), ← Bool.decide_or]
    exact decide_eq_decide.mpr (by rw [← nI_xor]; exact key.symm)
theorem mkI_e (h : mkI sg rc nf p b f i) (h16 : nf ≤ 16) (hS : ∀ a, a < i → sml nf (sg 8 a 0)) : pcW f (2 ^ (nf - 6)) = 2 ^ KCs sg rc i p b := by
  rw [pcW_eq, show 64 * 2 ^ (nf - 6) = 2 ^ (6 + (nf - 6)) by rw [Nat.pow_add]]
  rw [bsum_cong (R := fun x => decide (red (KFs sg rc i p b) 16 (nI x) = 0)) _ (fun x hx => h x (Nat.div_lt_of_lt_mul (by rw [Nat.pow_add] at hx; exact hx)))]
  exact bs_pow (m := 6 + (nf - 6)) (by omega) i (fun a ha _ j hj => hS a ha j (by omega))
theorem kc_16 {na p b nf : Nat} (hS : ∀ a, a < na → sml nf (sg 8 a 0)) (h16 : nf ≤ 16) : KCs sg rc na p b ≤ 16 := by
  have h := bs_pow (c := stdb sg rc p b) (S := sets sg) (m := 16) (Nat.le_refl _) na (fun a ha _ j hj => hS a ha j (by omega))
  have h2 := bsum_le (fun x => decide (red (rws (stdb sg rc p b) (sets sg) na) 16 (nI x) = 0)) (2 ^ 16)
  rw [h] at h2
  exact (Nat.pow_le_pow_iff_right (by decide)).mp h2
end MKI
def mkw (E : xE) (al : Tg → Nat) (w : Tg → Option va_E) (f : Nat → Int64) (m : Int32) : Tg → Option va_E := xu (xu w (0, 5, 1) (.inl (E.2.1 1, 1024, .inr (.inl f)))) (0, 5, 0) (.inr (4, [.ref (al (0, 5, 1)), .int m]))
section MKW
variable {E : xE} {base : Nat} {al : Tg → Nat} {w : Tg → Option va_E} {nf np na nw : Nat} {sg : Nat → Nat → Nat → Int32} {rc : Nat → Bool} {f f' : Nat → Int64} {m m' : Int32} {H : Heap}
theorem mkw_0 : mkw E al w f m (0, 5, 0) = some (.inr (4, [.ref (al (0, 5, 1)), .int m])) := xu_self _ _ _
theorem mkw_1 : mkw E al w f m (0, 5, 1) = some (.inl (E.2.1 1, 1024, .inr (.inl f))) := xu_of (by simp) (xu_self _ _ _)
theorem mkw_o {t : Tg} (h0 : t ≠ (0, 5, 0)) (h1 : t ≠ (0, 5, 1)) : mkw E al w f m t = w t := (xu_ne h0).trans (xu_ne h1)
theorem mkw_mkw : mkw E al (mkw E al w f m) f' m' = mkw E al w f' m' := xu_22 (by simp)
theorem mkw_set1 : xu (mkw E al w f m) (0, 5, 1) (.inl (E.2.1 1, 1024, .inr (.inl f'))) = mkw E al w f' m := by
  unfold mkw; rw [xu_cm (by simp), xu_uu]
theorem mkw_self (h0 : w (0, 5, 0) = some (.inr (4, [.ref (al (0, 5, 1)), .int m]))) (h1 : w (0, 5, 1) = some (.inl (E.2.1 1, 1024, .inr (.inl f)))) : mkw E al w f m = w := by
  unfold mkw; rw [xu_same h1, xu_same h0]
theorem RM_mk (h : RM E al w nf np na nw sg rc) (f : Nat → Int64) (m : Int32) : RM E al (mkw E al w f m) nf np na nw sg rc := by
  have h0 := h
  obtain ⟨-, -, -, -, ⟨n4, f4, a1, a2⟩, -, -, -, -⟩ := h0
  exact h.mv (fun t _ _ _ h1 h2 => mkw_o h1 h2) (fun _ _ => rfl) ⟨n4, f4, (mkw_o (by simp) (by simp)).trans a1, (mkw_o (by simp) (by simp)).trans a2⟩ ⟨m, f, mkw_0, mkw_1⟩
end MKW
set_option maxHeartbeats 4000000 in
set_option maxRecDepth 100000 in
theorem c_bitCount (l : Launch) {E : xE} {base : Nat} {al : Tg → Nat} {w : Tg → Option va_E} {x : Int64} : xMet l yJ13_bitCount_95d88 cJ13_bitCount_95d88 2 (some (.int)) ({ frames := 0, cells := 0, slots := 0, locals := 0 } : Room) E base [.long x] (fun H => xH E base al w H) (fun r H => r = some (.int (nI (bsum (bL x) 64))) ∧ xH E base al w H) := by
  refine xMet.of (by decide +kernel) "java/lang/Long" rfl (Nat.le_of_ble_eq_true rfl) ?_
  intro p9 e9 s m9 below meth c9 ls C hin hP hS hl
  have hx := C.hx
  have hb := C.hb
  have hH := hP
  have hl : lv_has ls 2 [(0, .long x)] := hl
  obtain ⟨post, hpost⟩ : ∃ zz9 : Option Value → Heap → Prop, zz9 = (fun r H => r = some (.int (nI (bsum (bL x) 64))) ∧ xH E base al w H) := ⟨_, rfl⟩
  rw [← hpost]
  generalize hQ : (MQ below (xQ base post) ([.long x] : List Value).toArray s 0 0 (xA base)) = Q
  refine lv_lload_n hx hb dJ13_bitCount_95d88_0 rfl (lv_at hl 0 rfl) ?_
  refine lv_lload_n hx hb dJ13_bitCount_95d88_1 rfl (lv_at hl 0 rfl) ?_
  refine lv_iconst (v := nI 1) hx hb dJ13_bitCount_95d88_2 (by decide +kernel) ?_
  refine lv_lushr hx hb dJ13_bitCount_95d88_3 rfl ?_
  refine lv_ldc2 (v := 6148914691236517205) hx hb C.hown (C.ws _ qw_696) dJ13_bitCount_95d88_4 ?_
  refine lv_land hx hb dJ13_bitCount_95d88_7 ?_
  refine lv_lsub hx hb dJ13_bitCount_95d88_8 ?_
  refine lv_rel (y := (bc1 x)) rfl ?_
  refine lv_lstore_n (lv' := [(0, .long (bc1 x))]) hx hb dJ13_bitCount_95d88_9 rfl hl (by decide) rfl (fun ls hl => ?_)
  refine lv_lload_n hx hb dJ13_bitCount_95d88_10 rfl (lv_at hl 0 rfl) ?_
  refine lv_ldc2 (v := 3689348814741910323) hx hb C.hown (C.ws _ qw_697) dJ13_bitCount_95d88_11 ?_
  refine lv_land hx hb dJ13_bitCount_95d88_14 ?_
  refine lv_lload_n hx hb dJ13_bitCount_95d88_15 rfl (lv_at hl 0 rfl) ?_
  refine lv_iconst (v := nI 2) hx hb dJ13_bitCount_95d88_16 (by decide +kernel) ?_
  refine lv_lushr hx hb dJ13_bitCount_95d88_17 rfl ?_
  refine lv_ldc2 (v := 3689348814741910323) hx hb C.hown (C.ws _ qw_697) dJ13_bitCount_95d88_18 ?_
  refine lv_land hx hb dJ13_bitCount_95d88_21 ?_
  refine lv_ladd hx hb dJ13_bitCount_95d88_22 ?_
  refine lv_rel (y := (bc2 (bc1 x))) rfl ?_
  refine lv_lstore_n (lv' := [(0, .long (bc2 (bc1 x)))]) hx hb dJ13_bitCount_95d88_23 rfl hl (by decide) rfl (fun ls hl => ?_)
  refine lv_lload_n hx hb dJ13_bitCount_95d88_24 rfl (lv_at hl 0 rfl) ?_
  refine lv_lload_n hx hb dJ13_bitCount_95d88_25 rfl (lv_at hl 0 rfl) ?_
  refine lv_iconst (v := nI 4) hx hb dJ13_bitCount_95d88_26 (by decide +kernel) ?_
  refine lv_lushr hx hb dJ13_bitCount_95d88_27 rfl ?_
  refine lv_ladd hx hb dJ13_bitCount_95d88_28 ?_
  refine lv_ldc2 (v := 1085102592571150095) hx hb C.hown (C.ws _ qw_698) dJ13_bitCount_95d88_29 ?_
  refine lv_land hx hb dJ13_bitCount_95d88_32 ?_
  refine lv_rel (y := (bc3 (bc2 (bc1 x)))) rfl ?_
  refine lv_lstore_n (lv' := [(0, .long (bc3 (bc2 (bc1 x))))]) hx hb dJ13_bitCount_95d88_33 rfl hl (by decide) rfl (fun ls hl => ?_)
  refine lv_lload_n hx hb dJ13_bitCount_95d88_34 rfl (lv_at hl 0 rfl) ?_
  refine lv_lload_n hx hb dJ13_bitCount_95d88_35 rfl (lv_at hl 0 rfl) ?_
  refine lv_bipush (v := nI 8) hx hb dJ13_bitCount_95d88_36 (by decide +kernel) ?_
  refine lv_lushr hx hb dJ13_bitCount_95d88_38 rfl ?_
  refine lv_ladd hx hb dJ13_bitCount_95d88_39 ?_
  refine lv_rel (y := (bc4 (bc3 (bc2 (bc1 x))))) rfl ?_
  refine lv_lstore_n (lv' := [(0, .long (bc4 (bc3 (bc2 (bc1 x)))))]) hx hb dJ13_bitCount_95d88_40 rfl hl (by decide) rfl (fun ls hl => ?_)
  refine lv_lload_n hx hb dJ13_bitCount_95d88_41 rfl (lv_at hl 0 rfl) ?_
  refine lv_lload_n hx hb dJ13_bitCount_95d88_42 rfl (lv_at hl 0 rfl) ?_
  refine lv_bipush (v := nI 16) hx hb dJ13_bitCount_95d88_43 (by decide +kernel) ?_
  refine lv_lushr hx hb dJ13_bitCount_95d88_45 rfl ?_
  refine lv_ladd hx hb dJ13_bitCount_95d88_46 ?_
  refine lv_rel (y := (bc5 (bc4 (bc3 (bc2 (bc1 x)))))) rfl ?_
  refine lv_lstore_n (lv' := [(0, .long (bc5 (bc4 (bc3 (bc2 (bc1 x))))))]) hx hb dJ13_bitCount_95d88_47 rfl hl (by decide) rfl (fun ls hl => ?_)
  refine lv_lload_n hx hb dJ13_bitCount_95d88_48 rfl (lv_at hl 0 rfl) ?_
  refine lv_lload_n hx hb dJ13_bitCount_95d88_49 rfl (lv_at hl 0 rfl) ?_
  refine lv_bipush (v := nI 32) hx hb dJ13_bitCount_95d88_50 (by decide +kernel) ?_
  refine lv_lushr hx hb dJ13_bitCount_95d88_52 rfl ?_
  refine lv_ladd hx hb dJ13_bitCount_95d88_53 ?_
  refine lv_rel (y := (bc6 (bc5 (bc4 (bc3 (bc2 (bc1 x))))))) rfl ?_
  refine lv_lstore_n (lv' := [(0, .long (bc6 (bc5 (bc4 (bc3 (bc2 (bc1 x)))))))]) hx hb dJ13_bitCount_95d88_54 rfl hl (by decide) rfl (fun ls hl => ?_)
  refine lv_lload_n hx hb dJ13_bitCount_95d88_55 rfl (lv_at hl 0 rfl) ?_
  refine lv_l2i hx hb dJ13_bitCount_95d88_56 rfl ?_
  refine lv_bipush (v := nI 127) hx hb dJ13_bitCount_95d88_57 (by decide +kernel) ?_
  refine lv_iand hx hb dJ13_bitCount_95d88_59 ?_
  refine lv_re (bc_ok x) ?_
  rw [← hQ]
  refine x_reti C rfl hS (Nat.le_of_ble_eq_true rfl) (Nat.le_of_ble_eq_true rfl) dJ13_bitCount_95d88_60 ?_
  rw [hpost]
  exact ⟨rfl, hH⟩

set_option maxHeartbeats 4000000 in
set_option maxRecDepth 100000 in
theorem c_crossed (l : Launch) {E : xE} {base : Nat} {al : Tg → Nat} {w : Tg → Option va_E} {x : Int64} {S : Int32} : xMet l yX3_crossed cX3_crossed 7 (some (.long)) ({ frames := 1, cells := 0, slots := 0, locals := 21 } : Room) E base [.long x, .int S] (fun H => xH E base al w H) (fun r H => r = some (.long (crS x S 6)) ∧ xH E base al w H) := by
  refine xMet.of (by decide +kernel) "Dataroom$Marks" rfl (Nat.le_of_ble_eq_true rfl) ?_
  intro p9 e9 s m9 below meth c9 ls C hin hP hS hl
  have hx := C.hx
  have hb := C.hb
  have hH := hP
  have hl : lv_has ls 7 [(0, .long x), (2, .int S)] := hl
  obtain ⟨post, hpost⟩ : ∃ zz9 : Option Value → Heap → Prop, zz9 = (fun r H => r = some (.long (crS x S 6)) ∧ xH E base al w H) := ⟨_, rfl⟩
  rw [← hpost]
  generalize hQ : (MQ below (xQ base post) ([.long x, .int S] : List Value).toArray s 0 0 (xA base)) = Q
  refine lv_lload_n hx hb dX3_crossed_0 rfl (lv_at hl 0 rfl) ?_
  refine lv_lstore_n (lv' := [(3, .long x), (0, .long x), (2, .int S)]) hx hb dX3_crossed_1 rfl hl (by decide) rfl (fun ls hl => ?_)
  refine lv_iconst (v := nI 0) hx hb dX3_crossed_2 (by decide +kernel) ?_
  refine lv_istore (lv' := [(5, .int (nI 0)), (3, .long x), (0, .long x), (2, .int S)]) hx hb dX3_crossed_3 hl (by decide) rfl (fun ls hl => ?_)
  have lp5 : ∀ (i : Nat), i ≤ 6 → ∀ (y : Int64) (H : Heap) (locs : List Loc) (ls : Array Slot), y = crS x S i → xH E base al w H → va_S (xA base) s.heap H locs → lv_has ls 7 [(5, .int (nI i)), (3, .long y), (2, .int S), (0, .long x)] → W p9 l e9 ({ frames := 1, cells := 0, slots := 0, locals := 21 } : Room) s m9 ([.long x, .int S] : List Value).toArray below meth c9 H locs 0 0 Q (F0 m9 5 ls []) := by
    refine lp_up ?_
    intro i hii ih5 y H locs ls hy hH hS hl
    refine lv_iload hx hb dX3_crossed_5 (lv_at hl 0 rfl) ?_
    refine x_getsL C hS qw_686 dX3_crossed_7 ?_
    refine x_lenL C hS dX3_crossed_10 ?_
    refine lv_icmp_ge (tgt := 59) hx hb dX3_crossed_11 (by decide) (fun c_1 => ?_) (fun c_1 => ?_)
    · skip
      replace c_1 := (nI_leI (by omega) (by omega)).mp c_1
      refine lv_lload_n hx hb dX3_crossed_59 rfl (lv_at hl 1 rfl) ?_
      rw [← hQ]
      refine x_retl C hS (Nat.le_of_ble_eq_true rfl) (Nat.le_of_ble_eq_true rfl) dX3_crossed_60 ?_
      rw [hpost]
      have e8 : i = 6 := by omega
      subst e8
      exact ⟨by rw [hy], hH⟩
    · skip
      replace c_1 := mt (nI_leI (by omega) (by omega)).mpr c_1
      refine lv_iload_n hx hb dX3_crossed_14 rfl (lv_at hl 2 rfl) ?_
      refine lv_iload hx hb dX3_crossed_15 (lv_at hl 0 rfl) ?_
      refine x_callSN C hS (c_holds l (E := E) (base := base) (al := al) (w := w) (x := S) (k := i) (by omega)) hH kX6_holds qw_347 nw_688  rfl [] rfl hl.1 (Nat.le_of_ble_eq_true rfl) ⟨Nat.le_of_ble_eq_true rfl, Nat.le_of_ble_eq_true rfl⟩ dX3_crossed_17 ⟨Nat.le_of_ble_eq_true rfl, Nat.le_of_ble_eq_true rfl⟩ (fun r_3 H locs hp_2 hS => ?_)
      obtain ⟨rfl, hH⟩ := hp_2
      refine lv_if_eq (tgt := 53) hx hb dX3_crossed_20 (by decide) (fun c_4 => ?_) (fun c_4 => ?_)
      · skip
        replace c_4 := ob_0.mp c_4
        refine lv_iinc (v := nI (i + 1)) (lv' := [(5, .int (nI (i + 1))), (3, .long y), (2, .int S), (0, .long x)]) hx hb dX3_crossed_53 hl (k := 0) rfl (nI_1 _) (by decide) rfl (fun ls hl => ?_)
        refine lv_goto (tgt := 5) hx hb dX3_crossed_56 (by decide) ?_
        exact ih5 (by omega) y _ _ _ (by rw [hy]; show _ = (if bt S i then _ else _); rw [if_neg (by rw [c_4]; decide)]) hH hS (lv_sub hl [0, 1, 2, 3] rfl)
      · skip
        replace c_4 := ob_n.mp c_4
        refine lv_iconst (v := nI 1) hx hb dX3_crossed_23 (by decide +kernel) ?_
        refine lv_iload hx hb dX3_crossed_24 (lv_at hl 0 rfl) ?_
        refine lv_ishl hx hb dX3_crossed_26 ?_
        refine lv_istore (lv' := [(6, .int (nI 1 <<< (nI i &&& 31))), (5, .int (nI i)), (3, .long y), (2, .int S), (0, .long x)]) hx hb dX3_crossed_27 hl (by decide) rfl (fun ls hl => ?_)
        refine lv_lload_n hx hb dX3_crossed_29 rfl (lv_at hl 2 rfl) ?_
        refine x_getsL C hS qw_686 dX3_crossed_30 ?_
        refine lv_iload hx hb dX3_crossed_33 (lv_at hl 1 rfl) ?_
        refine x_laldL C hS (j := i) rfl (by omega) dX3_crossed_35 ?_
        refine lv_land hx hb dX3_crossed_36 ?_
        refine lv_iload hx hb dX3_crossed_37 (lv_at hl 0 rfl) ?_
        refine lv_lshl hx hb dX3_crossed_39 rfl ?_
        refine lv_lload_n hx hb dX3_crossed_40 rfl (lv_at hl 2 rfl) ?_
        refine lv_iload hx hb dX3_crossed_41 (lv_at hl 0 rfl) ?_
        refine lv_lushr hx hb dX3_crossed_43 rfl ?_
        refine x_getsL C hS qw_686 dX3_crossed_44 ?_
        refine lv_iload hx hb dX3_crossed_47 (lv_at hl 1 rfl) ?_
        refine x_laldL C hS (j := i) rfl (by omega) dX3_crossed_49 ?_
        refine lv_land hx hb dX3_crossed_50 ?_
        refine lv_lor hx hb dX3_crossed_51 ?_
        refine lv_lstore_n (lv' := [(3, .long (((y &&& lkf i) <<< ((nI 1 <<< (nI i &&& 31)).toInt64 &&& 63)) ||| ((y.toUInt64 >>> ((nI 1 <<< (nI i &&& 31)).toInt64.toUInt64 &&& Int64.toUInt64 63)).toInt64 &&& lkf i))), (6, .int (nI 1 <<< (nI i &&& 31))), (5, .int (nI i)), (2, .int S), (0, .long x)]) hx hb dX3_crossed_52 rfl hl (by decide) rfl (fun ls hl => ?_)
        refine lv_iinc (v := nI (i + 1)) (lv' := [(5, .int (nI (i + 1))), (3, .long (((y &&& lkf i) <<< ((nI 1 <<< (nI i &&& 31)).toInt64 &&& 63)) ||| ((y.toUInt64 >>> ((nI 1 <<< (nI i &&& 31)).toInt64.toUInt64 &&& Int64.toUInt64 63)).toInt64 &&& lkf i))), (6, .int (nI 1 <<< (nI i &&& 31))), (2, .int S), (0, .long x)]) hx hb dX3_crossed_53 hl (k := 2) rfl (nI_1 _) (by decide) rfl (fun ls hl => ?_)
        refine lv_goto (tgt := 5) hx hb dX3_crossed_56 (by decide) ?_
        exact ih5 (by omega) (((y &&& lkf i) <<< ((nI 1 <<< (nI i &&& 31)).toInt64 &&& 63)) ||| ((y.toUInt64 >>> ((nI 1 <<< (nI i &&& 31)).toInt64.toUInt64 &&& Int64.toUInt64 63)).toInt64 &&& lkf i)) _ _ _ (by rw [hy]; show _ = (if bt S i then _ else _); rw [if_pos c_4]; rfl) hH hS (lv_sub hl [0, 1, 3, 4] rfl)
  exact lp5 0 (Nat.zero_le _) x _ _ _ rfl hH hS (lv_sub hl [0, 1, 3, 2] rfl)

set_option maxHeartbeats 4000000 in
set_option maxRecDepth 100000 in
theorem c_begin (l : Launch) {E : xE} {base : Nat} {al : Tg → Nat} {w : Tg → Option va_E} {t tr : Tg} {n : Int32} {f : Nat → Int64} (ht : w t = some (.inr (4, [.ref (al tr), .int n]))) (hr : w tr = some (.inl (E.2.1 1, 1024, .inr (.inl f)))) {nf : Nat} (h16 : nf ≤ 16) : xMet l yX3_begin cX3_begin 3 none ({ frames := 1, cells := 0, slots := 0, locals := 17 } : Room) E base [.ref (al t), .int (nI nf)] (fun H => xH E base al w H) (fun r H => r = none ∧ xH E base al (xu (xu w tr (.inl (E.2.1 1, 1024, .inr (.inl (vp_updL (bz f (2 ^ (nf - 6))) 0 1))))) t (.inr (4, [.ref (al tr), .int (nI (2 ^ (nf - 6)))]))) H) := by
  refine xMet.of (by decide +kernel) "Dataroom$Marks" rfl (Nat.le_of_ble_eq_true rfl) ?_
  intro p9 e9 s m9 below meth c9 ls C hin hP hS hl
  have hx := C.hx
  have hb := C.hb
  have hH := hP
  have hl : lv_has ls 3 [(0, .ref (al t)), (1, .int (nI nf))] := hl
  obtain ⟨post, hpost⟩ : ∃ zz9 : Option Value → Heap → Prop, zz9 = (fun r H => r = none ∧ xH E base al (xu (xu w tr (.inl (E.2.1 1, 1024, .inr (.inl (vp_updL (bz f (2 ^ (nf - 6))) 0 1))))) t (.inr (4, [.ref (al tr), .int (nI (2 ^ (nf - 6)))]))) H) := ⟨_, rfl⟩
  rw [← hpost]
  generalize hQ : (MQ below (xQ base post) ([.ref (al t), .int (nI nf)] : List Value).toArray s 0 0 (xA base)) = Q
  have htr : t ≠ tr := tg_ne ht hr (by nofun)
  have hU9 := mk_U nf h16
  refine lv_aload_n hx hb dX3_begin_0 rfl (lv_at hl 0 rfl) ?_
  refine lv_aload_n hx hb dX3_begin_1 rfl (lv_at hl 0 rfl) ?_
  refine x_get C hH (ci := 4) (T := TX3) (N := 2) ht rfl iWX3 0 (by decide) qw_79 rfl rfl dX3_begin_2 ?_
  refine x_alen (v := nI 1024) C hH 1 rfl hr rfl dX3_begin_5 ?_
  refine lv_iconst (v := nI 1) hx hb dX3_begin_6 (by decide +kernel) ?_
  refine lv_iconst (v := nI 0) hx hb dX3_begin_7 (by decide +kernel) ?_
  refine lv_iload_n hx hb dX3_begin_8 rfl (lv_at hl 1 rfl) ?_
  refine lv_bipush (v := nI 6) hx hb dX3_begin_9 (by decide +kernel) ?_
  refine lv_isub hx hb dX3_begin_11 ?_
  refine x_mmax C qw_672 qw_251 qw_14 qw_252 hl.1 (Nat.le_of_ble_eq_true rfl) (Nat.le_of_ble_eq_true rfl) (Nat.le_of_ble_eq_true rfl) (Nat.le_of_ble_eq_true rfl) dX3_begin_12 (v := nI (nf - 6)) (mk_max nf h16) ?_
  refine lv_ishl hx hb dX3_begin_15 ?_
  refine x_mmin C qw_673 qw_282 qw_14 qw_283 hl.1 (Nat.le_of_ble_eq_true rfl) (Nat.le_of_ble_eq_true rfl) (Nat.le_of_ble_eq_true rfl) (Nat.le_of_ble_eq_true rfl) dX3_begin_16 (v := nI (2 ^ (nf - 6))) (mk_min nf h16) ?_
  refine x_put C hH hS (ci := 4) (T := TX3) (N := 2) (fs' := [.ref (al tr), .int (nI (2 ^ (nf - 6)))]) ht rfl iWX3 tyX3 tyX3_ok nmX3 1 (by decide) qw_80 rfl rfl rfl rfl (Nat.le_of_ble_eq_true rfl) rfl dX3_begin_19 (fun H locs hH hS => ?_)
  have hr := xu_of (t := t) (e := .inr (4, [.ref (al tr), .int (nI (2 ^ (nf - 6)))])) (tg_ne hr ht (by nofun)) hr
  have ht : (xu w t (.inr (4, [.ref (al tr), .int (nI (2 ^ (nf - 6)))]))) t = some (.inr (4, [.ref (al tr), .int (nI (2 ^ (nf - 6)))])) := xu_self _ _ _
  refine lv_iconst (v := nI 0) hx hb dX3_begin_22 (by decide +kernel) ?_
  refine lv_istore_n (lv' := [(2, .int (nI 0)), (0, .ref (al t)), (1, .int (nI nf))]) hx hb dX3_begin_23 rfl hl (by decide) rfl (fun ls hl => ?_)
  have lp24 : ∀ (i : Nat), i ≤ 2 ^ (nf - 6) → ∀  (H : Heap) (locs : List Loc) (ls : Array Slot), xH E base al (xu (xu w t (.inr (4, [.ref (al tr), .int (nI (2 ^ (nf - 6)))]))) tr (.inl (E.2.1 1, 1024, .inr (.inl (bz f i))))) H → va_S (xA base) s.heap H locs → lv_has ls 3 [(2, .int (nI i)), (1, .int (nI nf)), (0, .ref (al t))] → W p9 l e9 ({ frames := 1, cells := 0, slots := 0, locals := 17 } : Room) s m9 ([.ref (al t), .int (nI nf)] : List Value).toArray below meth c9 H locs 0 0 Q (F0 m9 24 ls []) := by
    refine lp_up ?_
    intro i hii ih24  H locs ls hH hS hl
    have ht1 : (xu (xu w t (.inr (4, [.ref (al tr), .int (nI (2 ^ (nf - 6)))]))) tr (.inl (E.2.1 1, 1024, .inr (.inl (bz f i))))) t = _ := xu_of htr (xu_self _ _ _)
    have hr1 : (xu (xu w t (.inr (4, [.ref (al tr), .int (nI (2 ^ (nf - 6)))]))) tr (.inl (E.2.1 1, 1024, .inr (.inl (bz f i))))) tr = _ := xu_self _ _ _
    refine lv_iload_n hx hb dX3_begin_24 rfl (lv_at hl 0 rfl) ?_
    refine lv_aload_n hx hb dX3_begin_25 rfl (lv_at hl 2 rfl) ?_
    refine x_get C hH (ci := 4) (T := TX3) (N := 2) ht1 rfl iWX3 1 (by decide) qw_80 rfl rfl dX3_begin_26 ?_
    refine lv_icmp_ge (tgt := 45) hx hb dX3_begin_29 (by decide) (fun c_1 => ?_) (fun c_1 => ?_)
    · skip
      replace c_1 := (nI_leI (by omega) (by omega)).mp c_1
      refine lv_aload_n hx hb dX3_begin_45 rfl (lv_at hl 2 rfl) ?_
      refine x_get C hH (ci := 4) (T := TX3) (N := 2) ht1 rfl iWX3 0 (by decide) qw_79 rfl rfl dX3_begin_46 ?_
      refine lv_iconst (v := nI 0) hx hb dX3_begin_49 (by decide +kernel) ?_
      refine lv_lconst (v := 1) hx hb dX3_begin_50 (by decide +kernel) ?_
      refine x_last C hH hS hr1 (j := 0) rfl (by omega) (by omega) dX3_begin_51 (fun H locs hH hS => ?_)
      have ht1 := xu_of (t := tr) (e := .inl (E.2.1 1, 1024, .inr (.inl (vp_updL (bz f i) 0 1)))) (tg_ne ht1 hr1 (by nofun)) ht1
      have hr1 : (xu (xu (xu w t (.inr (4, [.ref (al tr), .int (nI (2 ^ (nf - 6)))]))) tr (.inl (E.2.1 1, 1024, .inr (.inl (bz f i))))) tr (.inl (E.2.1 1, 1024, .inr (.inl (vp_updL (bz f i) 0 1))))) tr = some (.inl (E.2.1 1, 1024, .inr (.inl (vp_updL (bz f i) 0 1)))) := xu_self _ _ _
      rw [← hQ]
      refine x_retv C hS (Nat.le_of_ble_eq_true rfl) (Nat.le_of_ble_eq_true rfl) dX3_begin_52 ?_
      rw [hpost]
      have e8 : i = 2 ^ (nf - 6) := by omega
      rw [e8, xu_uu, xu_cm htr] at hH
      exact ⟨rfl, hH⟩
    · skip
      replace c_1 := mt (nI_leI (by omega) (by omega)).mpr c_1
      refine lv_aload_n hx hb dX3_begin_32 rfl (lv_at hl 2 rfl) ?_
      refine x_get C hH (ci := 4) (T := TX3) (N := 2) ht1 rfl iWX3 0 (by decide) qw_79 rfl rfl dX3_begin_33 ?_
      refine lv_iload_n hx hb dX3_begin_36 rfl (lv_at hl 0 rfl) ?_
      refine lv_lconst (v := 0) hx hb dX3_begin_37 (by decide +kernel) ?_
      refine x_last C hH hS hr1 (j := i) rfl (by omega) (by omega) dX3_begin_38 (fun H locs hH hS => ?_)
      have ht1 := xu_of (t := tr) (e := .inl (E.2.1 1, 1024, .inr (.inl (vp_updL (bz f i) i 0)))) (tg_ne ht1 hr1 (by nofun)) ht1
      have hr1 : (xu (xu (xu w t (.inr (4, [.ref (al tr), .int (nI (2 ^ (nf - 6)))]))) tr (.inl (E.2.1 1, 1024, .inr (.inl (bz f i))))) tr (.inl (E.2.1 1, 1024, .inr (.inl (vp_updL (bz f i) i 0))))) tr = some (.inl (E.2.1 1, 1024, .inr (.inl (vp_updL (bz f i) i 0)))) := xu_self _ _ _
      refine lv_iinc (v := nI (i + 1)) (lv' := [(2, .int (nI (i + 1))), (1, .int (nI nf)), (0, .ref (al t))]) hx hb dX3_begin_39 hl (k := 0) rfl (nI_1 _) (by decide) rfl (fun ls hl => ?_)
      refine lv_goto (tgt := 24) hx hb dX3_begin_42 (by decide) ?_
      exact ih24 (by omega)  _ _ _  (by rw [xu_uu, bz_s] at hH; exact hH) hS (lv_sub hl [0, 1, 2] rfl)
  exact lp24 0 (Nat.zero_le _)  _ _ _  (by rw [bz_0, xu_same hr]; exact hH) hS (lv_sub hl [0, 2, 1] rfl)

set_option maxHeartbeats 4000000 in
set_option maxRecDepth 100000 in
theorem c_isMarked (l : Launch) {E : xE} {base : Nat} {al : Tg → Nat} {w : Tg → Option va_E} {t tr : Tg} {U : Nat} {f : Nat → Int64} (ht : w t = some (.inr (4, [.ref (al tr), .int (nI U)]))) (hr : w tr = some (.inl (E.2.1 1, 1024, .inr (.inl f)))) {z8 : Nat} (hs : z8 < 64 * U) (hU : U ≤ 1024)  : xMet l yX3_isMarked cX3_isMarked 3 (some (.boolean)) ({ frames := 0, cells := 0, slots := 0, locals := 0 } : Room) E base [.ref (al t), .int (nI z8)] (fun H => xH E base al w H) (fun r H => r = some (.int (ob (bM f z8))) ∧ xH E base al w H) := by
  refine xMet.of (by decide +kernel) "Dataroom$Marks" rfl (Nat.le_of_ble_eq_true rfl) ?_
  intro p9 e9 s m9 below meth c9 ls C hin hP hS hl
  have hx := C.hx
  have hb := C.hb
  have hH := hP
  have hl : lv_has ls 3 [(0, .ref (al t)), (1, .int (nI z8))] := hl
  obtain ⟨post, hpost⟩ : ∃ zz9 : Option Value → Heap → Prop, zz9 = (fun r H => r = some (.int (ob (bM f z8))) ∧ xH E base al w H) := ⟨_, rfl⟩
  rw [← hpost]
  generalize hQ : (MQ below (xQ base post) ([.ref (al t), .int (nI z8)] : List Value).toArray s 0 0 (xA base)) = Q
  have hs6 : z8 < 65536 := by omega
  refine lv_iload_n hx hb dX3_isMarked_0 rfl (lv_at hl 1 rfl) ?_
  refine lv_bipush (v := nI 6) hx hb dX3_isMarked_1 (by decide +kernel) ?_
  refine lv_iushr hx hb dX3_isMarked_3 (nI_ush6 hs6) ?_
  refine lv_istore_n (lv' := [(2, .int (nI (z8 / 64))), (0, .ref (al t)), (1, .int (nI z8))]) hx hb dX3_isMarked_4 rfl hl (by decide) rfl (fun ls hl => ?_)
  refine lv_iload_n hx hb dX3_isMarked_5 rfl (lv_at hl 0 rfl) ?_
  refine lv_aload_n hx hb dX3_isMarked_6 rfl (lv_at hl 1 rfl) ?_
  refine x_get C hH (ci := 4) (T := TX3) (N := 2) ht rfl iWX3 1 (by decide) qw_80 rfl rfl dX3_isMarked_7 ?_
  refine lv_icmp_ge (tgt := 35) hx hb dX3_isMarked_10 (by decide) (fun c_1 => ?_) (fun c_1 => ?_)
  · skip
    replace c_1 := (nI_leI (by omega) (by omega)).mp c_1
    exact absurd hs (by omega)
  · skip
    replace c_1 := mt (nI_leI (by omega) (by omega)).mpr c_1
    refine lv_aload_n hx hb dX3_isMarked_13 rfl (lv_at hl 1 rfl) ?_
    refine x_get C hH (ci := 4) (T := TX3) (N := 2) ht rfl iWX3 0 (by decide) qw_79 rfl rfl dX3_isMarked_14 ?_
    refine lv_iload_n hx hb dX3_isMarked_17 rfl (lv_at hl 0 rfl) ?_
    refine x_lald C hH hr (j := z8 / 64) rfl (by omega) (by omega) dX3_isMarked_18 ?_
    refine lv_iload_n hx hb dX3_isMarked_19 rfl (lv_at hl 2 rfl) ?_
    refine lv_bipush (v := nI 63) hx hb dX3_isMarked_20 (by decide +kernel) ?_
    refine lv_iand hx hb dX3_isMarked_22 ?_
    refine lv_re (nI_and63 z8) ?_
    refine lv_lushr hx hb dX3_isMarked_23 rfl ?_
    refine lv_lconst (v := 1) hx hb dX3_isMarked_24 (by decide +kernel) ?_
    refine lv_land hx hb dX3_isMarked_25 ?_
    refine lv_lconst (v := 0) hx hb dX3_isMarked_26 (by decide +kernel) ?_
    refine lv_lcmp hx hb dX3_isMarked_27 ?_
    refine lv_re (lcv_bit (f (z8 / 64)) (Nat.mod_lt z8 (by decide))) ?_
    refine lv_if_eq (tgt := 35) hx hb dX3_isMarked_28 (by decide) (fun c_2 => ?_) (fun c_2 => ?_)
    · skip
      replace c_2 := ob_0.mp c_2
      refine lv_iconst (v := nI 0) hx hb dX3_isMarked_35 (by decide +kernel) ?_
      rw [← hQ]
      refine x_reti C rfl hS (Nat.le_of_ble_eq_true rfl) (Nat.le_of_ble_eq_true rfl) dX3_isMarked_36 ?_
      rw [hpost]
      exact ⟨by unfold bM; rw [c_2]; rfl, hH⟩
    · skip
      replace c_2 := ob_n.mp c_2
      refine lv_iconst (v := nI 1) hx hb dX3_isMarked_31 (by decide +kernel) ?_
      refine lv_goto (tgt := 36) hx hb dX3_isMarked_32 (by decide) ?_
      rw [← hQ]
      refine x_reti C rfl hS (Nat.le_of_ble_eq_true rfl) (Nat.le_of_ble_eq_true rfl) dX3_isMarked_36 ?_
      rw [hpost]
      exact ⟨by unfold bM; rw [c_2]; rfl, hH⟩

set_option maxHeartbeats 4000000 in
set_option maxRecDepth 100000 in
theorem c_markadd (l : Launch) {E : xE} {base : Nat} {al : Tg → Nat} {w : Tg → Option va_E} {t tr : Tg} {U : Nat} {f : Nat → Int64} (ht : w t = some (.inr (4, [.ref (al tr), .int (nI U)]))) (hr : w tr = some (.inl (E.2.1 1, 1024, .inr (.inl f)))) {z8 : Nat} (hs : z8 < 64 * U) (hU : U ≤ 1024) {u : Nat} (hu : U = 2 ^ u) : xMet l yX3_add cX3_add 4 none ({ frames := 2, cells := 0, slots := 0, locals := 47 } : Room) E base [.ref (al t), .int (nI z8)] (fun H => xH E base al w H) (fun r H => r = none ∧ xH E base al (xu w tr (.inl (E.2.1 1, 1024, .inr (.inl (if bM f z8 then f else adW f z8 U U))))) H) := by
  refine xMet.of (by decide +kernel) "Dataroom$Marks" rfl (Nat.le_of_ble_eq_true rfl) ?_
  intro p9 e9 s m9 below meth c9 ls C hin hP hS hl
  have hx := C.hx
  have hb := C.hb
  have hH := hP
  have hl : lv_has ls 4 [(0, .ref (al t)), (1, .int (nI z8))] := hl
  obtain ⟨post, hpost⟩ : ∃ zz9 : Option Value → Heap → Prop, zz9 = (fun r H => r = none ∧ xH E base al (xu w tr (.inl (E.2.1 1, 1024, .inr (.inl (if bM f z8 then f else adW f z8 U U))))) H) := ⟨_, rfl⟩
  rw [← hpost]
  generalize hQ : (MQ below (xQ base post) ([.ref (al t), .int (nI z8)] : List Value).toArray s 0 0 (xA base)) = Q
  have hs6 : z8 < 65536 := by omega
  have htr : t ≠ tr := tg_ne ht hr (by nofun)
  refine lv_aload_n hx hb dX3_add_0 rfl (lv_at hl 0 rfl) ?_
  refine lv_iload_n hx hb dX3_add_1 rfl (lv_at hl 1 rfl) ?_
  refine x_callV C hH hS (ci := 4) (t := t) ht rfl rfl (c_isMarked l (E := E) (base := base) ht hr hs hU) hH kX3_isMarked qw_681 (ws_p (List.mem_of_getElem? (i := 18) rfl) rfl) qw_679  rfl [] rfl hl.1 (Nat.le_of_ble_eq_true rfl) ⟨Nat.le_of_ble_eq_true rfl, Nat.le_of_ble_eq_true rfl⟩ dX3_add_2 ⟨Nat.le_of_ble_eq_true rfl, Nat.le_of_ble_eq_true rfl⟩ (fun r_2 H locs hp_1 hS => ?_)
  obtain ⟨rfl, hH⟩ := hp_1
  refine lv_if_eq (tgt := 9) hx hb dX3_add_5 (by decide) (fun c_3 => ?_) (fun c_3 => ?_)
  · skip
    replace c_3 := ob_0.mp c_3
    refine lv_iconst (v := nI 0) hx hb dX3_add_9 (by decide +kernel) ?_
    refine lv_istore_n (lv' := [(2, .int (nI 0)), (0, .ref (al t)), (1, .int (nI z8))]) hx hb dX3_add_10 rfl hl (by decide) rfl (fun ls hl => ?_)
    have lp11 : ∀ (i : Nat), i ≤ U → ∀  (H : Heap) (locs : List Loc) (ls : Array Slot), xH E base al (xu w tr (.inl (E.2.1 1, 1024, .inr (.inl (adW f z8 U i))))) H → va_S (xA base) s.heap H locs → lv_has ls 4 [(2, .int (nI i)), (1, .int (nI z8)), (0, .ref (al t))] → W p9 l e9 ({ frames := 2, cells := 0, slots := 0, locals := 47 } : Room) s m9 ([.ref (al t), .int (nI z8)] : List Value).toArray below meth c9 H locs 0 0 Q (F0 m9 11 ls []) := by
      refine lp_up ?_
      intro i hii ih11  H locs ls hH hS hl
      have ht1 : (xu w tr (.inl (E.2.1 1, 1024, .inr (.inl (adW f z8 U i))))) t = _ := xu_of htr ht
      have hr1 : (xu w tr (.inl (E.2.1 1, 1024, .inr (.inl (adW f z8 U i))))) tr = _ := xu_self _ _ _
      refine lv_iload_n hx hb dX3_add_11 rfl (lv_at hl 0 rfl) ?_
      refine lv_aload_n hx hb dX3_add_12 rfl (lv_at hl 2 rfl) ?_
      refine x_get C hH (ci := 4) (T := TX3) (N := 2) ht1 rfl iWX3 1 (by decide) qw_80 rfl rfl dX3_add_13 ?_
      refine lv_icmp_ge (tgt := 70) hx hb dX3_add_16 (by decide) (fun c_4 => ?_) (fun c_4 => ?_)
      · skip
        replace c_4 := (nI_leI (by omega) (by omega)).mp c_4
        rw [← hQ]
        refine x_retv C hS (Nat.le_of_ble_eq_true rfl) (Nat.le_of_ble_eq_true rfl) dX3_add_70 ?_
        rw [hpost]
        have e8 : i = U := by omega
        rw [e8] at hH
        exact ⟨rfl, by rw [if_neg (by rw [c_3]; decide)]; exact hH⟩
      · skip
        replace c_4 := mt (nI_leI (by omega) (by omega)).mpr c_4
        refine lv_iload_n hx hb dX3_add_19 rfl (lv_at hl 0 rfl) ?_
        refine lv_iload_n hx hb dX3_add_20 rfl (lv_at hl 1 rfl) ?_
        refine lv_bipush (v := nI 6) hx hb dX3_add_21 (by decide +kernel) ?_
        refine lv_iushr hx hb dX3_add_23 (nI_ush6 hs6) ?_
        refine lv_ixor hx hb dX3_add_24 ?_
        refine lv_re (nI_xor _ _) ?_
        have hx9 : i ^^^ z8 / 64 < U := by rw [hu]; exact Nat.xor_lt_two_pow (by rw [← hu]; omega) (by rw [← hu]; omega)
        refine lv_istore_n (lv' := [(3, .int (nI (i ^^^ z8 / 64))), (2, .int (nI i)), (1, .int (nI z8)), (0, .ref (al t))]) hx hb dX3_add_25 rfl hl (by decide) rfl (fun ls hl => ?_)
        refine lv_aload_n hx hb dX3_add_26 rfl (lv_at hl 3 rfl) ?_
        refine x_get C hH (ci := 4) (T := TX3) (N := 2) ht1 rfl iWX3 0 (by decide) qw_79 rfl rfl dX3_add_27 ?_
        refine lv_iload_n hx hb dX3_add_30 rfl (lv_at hl 1 rfl) ?_
        refine x_lald C hH hr1 (j := i) rfl (by omega) (by omega) dX3_add_31 ?_
        refine lv_lconst (v := 0) hx hb dX3_add_32 (by decide +kernel) ?_
        refine lv_lcmp hx hb dX3_add_33 ?_
        refine lv_if_eq (tgt := 64) hx hb dX3_add_34 (by decide) (fun c_5 => ?_) (fun c_5 => ?_)
        · skip
          refine lv_iinc (v := nI (i + 1)) (lv' := [(2, .int (nI (i + 1))), (3, .int (nI (i ^^^ z8 / 64))), (1, .int (nI z8)), (0, .ref (al t))]) hx hb dX3_add_64 hl (k := 1) rfl (nI_1 _) (by decide) rfl (fun ls hl => ?_)
          refine lv_goto (tgt := 11) hx hb dX3_add_67 (by decide) ?_
          exact ih11 (by omega)  _ _ _  (by rw [adW_n (by omega) (lcv_0.mp c_5)] at hH; exact hH) hS (lv_sub hl [0, 2, 3] rfl)
        · skip
          refine lv_iload_n hx hb dX3_add_37 rfl (lv_at hl 0 rfl) ?_
          refine lv_aload_n hx hb dX3_add_38 rfl (lv_at hl 3 rfl) ?_
          refine x_get C hH (ci := 4) (T := TX3) (N := 2) ht1 rfl iWX3 1 (by decide) qw_80 rfl rfl dX3_add_39 ?_
          refine lv_icmp_ge (tgt := 64) hx hb dX3_add_42 (by decide) (fun c_6 => ?_) (fun c_6 => ?_)
          · skip
            replace c_6 := (nI_leI (by omega) (by omega)).mp c_6
            exact absurd hx9 (by omega)
          · skip
            replace c_6 := mt (nI_leI (by omega) (by omega)).mpr c_6
            refine lv_aload_n hx hb dX3_add_45 rfl (lv_at hl 3 rfl) ?_
            refine x_get C hH (ci := 4) (T := TX3) (N := 2) ht1 rfl iWX3 0 (by decide) qw_79 rfl rfl dX3_add_46 ?_
            refine lv_iload_n hx hb dX3_add_49 rfl (lv_at hl 0 rfl) ?_
            refine lv_dup2_11 hx hb dX3_add_50 rfl rfl ?_
            refine x_lald C hH hr1 (j := i ^^^ z8 / 64) rfl (by omega) (by omega) dX3_add_51 ?_
            refine lv_aload_n hx hb dX3_add_52 rfl (lv_at hl 3 rfl) ?_
            refine x_get C hH (ci := 4) (T := TX3) (N := 2) ht1 rfl iWX3 0 (by decide) qw_79 rfl rfl dX3_add_53 ?_
            refine lv_iload_n hx hb dX3_add_56 rfl (lv_at hl 1 rfl) ?_
            refine x_lald C hH hr1 (j := i) rfl (by omega) (by omega) dX3_add_57 ?_
            refine lv_iload_n hx hb dX3_add_58 rfl (lv_at hl 2 rfl) ?_
            refine x_callS C hS (c_crossed l (E := E) (base := base) (al := al) (w := (xu w tr (.inl (E.2.1 1, 1024, .inr (.inl (adW f z8 U i)))))) (x := ((adW f z8 U i)) i) (S := nI z8)) hH kX3_crossed qw_684 qw_683  rfl [.long (((adW f z8 U i)) (i ^^^ z8 / 64)), .int (nI (i ^^^ z8 / 64)), .ref (al tr)] rfl hl.1 (Nat.le_of_ble_eq_true rfl) ⟨Nat.le_of_ble_eq_true rfl, Nat.le_of_ble_eq_true rfl⟩ dX3_add_59 ⟨Nat.le_of_ble_eq_true rfl, Nat.le_of_ble_eq_true rfl⟩ (fun r_8 H locs hp_7 hS => ?_)
            obtain ⟨rfl, hH⟩ := hp_7
            refine lv_lor hx hb dX3_add_62 ?_
            refine x_last C hH hS hr1 (j := i ^^^ z8 / 64) rfl (by omega) (by omega) dX3_add_63 (fun H locs hH hS => ?_)
            have ht1 := xu_of (t := tr) (e := .inl (E.2.1 1, 1024, .inr (.inl (vp_updL (adW f z8 U i) (i ^^^ z8 / 64) (((adW f z8 U i)) (i ^^^ z8 / 64) ||| (crS (((adW f z8 U i)) i) (nI z8) 6)))))) (tg_ne ht1 hr1 (by nofun)) ht1
            have hr1 : (xu (xu w tr (.inl (E.2.1 1, 1024, .inr (.inl (adW f z8 U i))))) tr (.inl (E.2.1 1, 1024, .inr (.inl (vp_updL (adW f z8 U i) (i ^^^ z8 / 64) (((adW f z8 U i)) (i ^^^ z8 / 64) ||| (crS (((adW f z8 U i)) i) (nI z8) 6))))))) tr = some (.inl (E.2.1 1, 1024, .inr (.inl (vp_updL (adW f z8 U i) (i ^^^ z8 / 64) (((adW f z8 U i)) (i ^^^ z8 / 64) ||| (crS (((adW f z8 U i)) i) (nI z8) 6)))))) := xu_self _ _ _
            refine lv_iinc (v := nI (i + 1)) (lv' := [(2, .int (nI (i + 1))), (3, .int (nI (i ^^^ z8 / 64))), (1, .int (nI z8)), (0, .ref (al t))]) hx hb dX3_add_64 hl (k := 1) rfl (nI_1 _) (by decide) rfl (fun ls hl => ?_)
            refine lv_goto (tgt := 11) hx hb dX3_add_67 (by decide) ?_
            exact ih11 (by omega)  _ _ _  (by rw [xu_uu, adW_s hu (by omega) (by omega)] at hH; exact hH) hS (lv_sub hl [0, 2, 3] rfl)
    exact lp11 0 (Nat.zero_le _)  _ _ _  (by rw [adW_0, xu_same hr]; exact hH) hS (lv_sub hl [0, 2, 1] rfl)
  · skip
    replace c_3 := ob_n.mp c_3
    rw [← hQ]
    refine x_retv C hS (Nat.le_of_ble_eq_true rfl) (Nat.le_of_ble_eq_true rfl) dX3_add_8 ?_
    rw [hpost]
    exact ⟨rfl, by rw [if_pos c_3, xu_same hr]; exact hH⟩

set_option maxHeartbeats 4000000 in
set_option maxRecDepth 100000 in
theorem c_sets (l : Launch) {E : xE} {base : Nat} {al : Tg → Nat} {w : Tg → Option va_E} {t tr : Tg} {U : Nat} {f : Nat → Int64} (ht : w t = some (.inr (4, [.ref (al tr), .int (nI U)]))) (hr : w tr = some (.inl (E.2.1 1, 1024, .inr (.inl f)))) (hU : U ≤ 1024) : xMet l yX3_sets cX3_sets 3 (some (.int)) ({ frames := 1, cells := 0, slots := 0, locals := 21 } : Room) E base [.ref (al t)] (fun H => xH E base al w H) (fun r H => r = some (.int (nI (pcW f U))) ∧ xH E base al w H) := by
  refine xMet.of (by decide +kernel) "Dataroom$Marks" rfl (Nat.le_of_ble_eq_true rfl) ?_
  intro p9 e9 s m9 below meth c9 ls C hin hP hS hl
  have hx := C.hx
  have hb := C.hb
  have hH := hP
  have hl : lv_has ls 3 [(0, .ref (al t))] := hl
  obtain ⟨post, hpost⟩ : ∃ zz9 : Option Value → Heap → Prop, zz9 = (fun r H => r = some (.int (nI (pcW f U))) ∧ xH E base al w H) := ⟨_, rfl⟩
  rw [← hpost]
  generalize hQ : (MQ below (xQ base post) ([.ref (al t)] : List Value).toArray s 0 0 (xA base)) = Q
  refine lv_iconst (v := nI 0) hx hb dX3_sets_0 (by decide +kernel) ?_
  refine lv_istore_n (lv' := [(1, .int (nI 0)), (0, .ref (al t))]) hx hb dX3_sets_1 rfl hl (by decide) rfl (fun ls hl => ?_)
  refine lv_iconst (v := nI 0) hx hb dX3_sets_2 (by decide +kernel) ?_
  refine lv_istore_n (lv' := [(2, .int (nI 0)), (1, .int (nI 0)), (0, .ref (al t))]) hx hb dX3_sets_3 rfl hl (by decide) rfl (fun ls hl => ?_)
  have lp4 : ∀ (i : Nat), i ≤ U → ∀  (H : Heap) (locs : List Loc) (ls : Array Slot), xH E base al w H → va_S (xA base) s.heap H locs → lv_has ls 3 [(2, .int (nI i)), (1, .int (nI (pcW f i))), (0, .ref (al t))] → W p9 l e9 ({ frames := 1, cells := 0, slots := 0, locals := 21 } : Room) s m9 ([.ref (al t)] : List Value).toArray below meth c9 H locs 0 0 Q (F0 m9 4 ls []) := by
    refine lp_up ?_
    intro i hii ih4  H locs ls hH hS hl
    refine lv_iload_n hx hb dX3_sets_4 rfl (lv_at hl 0 rfl) ?_
    refine lv_aload_n hx hb dX3_sets_5 rfl (lv_at hl 2 rfl) ?_
    refine x_get C hH (ci := 4) (T := TX3) (N := 2) ht rfl iWX3 1 (by decide) qw_80 rfl rfl dX3_sets_6 ?_
    refine lv_icmp_ge (tgt := 30) hx hb dX3_sets_9 (by decide) (fun c_1 => ?_) (fun c_1 => ?_)
    · skip
      replace c_1 := (nI_leI (by omega) (by omega)).mp c_1
      refine lv_iload_n hx hb dX3_sets_30 rfl (lv_at hl 1 rfl) ?_
      rw [← hQ]
      refine x_reti C rfl hS (Nat.le_of_ble_eq_true rfl) (Nat.le_of_ble_eq_true rfl) dX3_sets_31 ?_
      rw [hpost]
      have e8 : i = U := by omega
      subst e8
      exact ⟨rfl, hH⟩
    · skip
      replace c_1 := mt (nI_leI (by omega) (by omega)).mpr c_1
      refine lv_iload_n hx hb dX3_sets_12 rfl (lv_at hl 1 rfl) ?_
      refine lv_aload_n hx hb dX3_sets_13 rfl (lv_at hl 2 rfl) ?_
      refine x_get C hH (ci := 4) (T := TX3) (N := 2) ht rfl iWX3 0 (by decide) qw_79 rfl rfl dX3_sets_14 ?_
      refine lv_iload_n hx hb dX3_sets_17 rfl (lv_at hl 0 rfl) ?_
      refine x_lald C hH hr (j := i) rfl (by omega) (by omega) dX3_sets_18 ?_
      refine x_callS C hS (c_bitCount l (E := E) (base := base) (al := al) (w := w) (x := f i)) hH kJ13_bitCount_95d88 qw_694 qw_693  rfl [.int (nI (pcW f i))] rfl hl.1 (Nat.le_of_ble_eq_true rfl) ⟨Nat.le_of_ble_eq_true rfl, Nat.le_of_ble_eq_true rfl⟩ dX3_sets_19 ⟨Nat.le_of_ble_eq_true rfl, Nat.le_of_ble_eq_true rfl⟩ (fun r_3 H locs hp_2 hS => ?_)
      obtain ⟨rfl, hH⟩ := hp_2
      refine lv_iadd hx hb dX3_sets_22 ?_
      refine lv_re (nI_add _ _) ?_
      refine lv_istore_n (lv' := [(1, .int (nI (pcW f i + bsum (bL (f i)) 64))), (2, .int (nI i)), (0, .ref (al t))]) hx hb dX3_sets_23 rfl hl (by decide) rfl (fun ls hl => ?_)
      refine lv_iinc (v := nI (i + 1)) (lv' := [(2, .int (nI (i + 1))), (1, .int (nI (pcW f i + bsum (bL (f i)) 64))), (0, .ref (al t))]) hx hb dX3_sets_24 hl (k := 1) rfl (nI_1 _) (by decide) rfl (fun ls hl => ?_)
      refine lv_goto (tgt := 4) hx hb dX3_sets_27 (by decide) ?_
      exact ih4 (by omega)  _ _ _  hH hS (lv_sub hl [0, 1, 2] rfl)
  exact lp4 0 (Nat.zero_le _)  _ _ _  hH hS (lv_sub hl [0, 1, 2] rfl)

set_option maxHeartbeats 4000000 in
set_option maxRecDepth 100000 in
theorem c_gens (l : Launch) {E : xE} {base : Nat} {al : Tg → Nat} {w : Tg → Option va_E} {r0 : Nat} (hr0 : r0 ≤ 16) : xMet l yX6_generatorsOf cX6_generatorsOf 3 (some (.int)) ({ frames := 0, cells := 0, slots := 0, locals := 0 } : Room) E base [.int (nI (2 ^ r0))] (fun H => xH E base al w H) (fun r H => r = some (.int (nI r0)) ∧ xH E base al w H) := by
  refine xMet.of (by decide +kernel) "Dataroom" rfl (Nat.le_of_ble_eq_true rfl) ?_
  intro p9 e9 s m9 below meth c9 ls C hin hP hS hl
  have hx := C.hx
  have hb := C.hb
  have hH := hP
  have hl : lv_has ls 3 [(0, .int (nI (2 ^ r0)))] := hl
  obtain ⟨post, hpost⟩ : ∃ zz9 : Option Value → Heap → Prop, zz9 = (fun r H => r = some (.int (nI r0)) ∧ xH E base al w H) := ⟨_, rfl⟩
  rw [← hpost]
  generalize hQ : (MQ below (xQ base post) ([.int (nI (2 ^ r0))] : List Value).toArray s 0 0 (xA base)) = Q
  refine lv_iconst (v := nI 0) hx hb dX6_generatorsOf_0 (by decide +kernel) ?_
  refine lv_istore_n (lv' := [(1, .int (nI 0)), (0, .int (nI (2 ^ r0)))]) hx hb dX6_generatorsOf_1 rfl hl (by decide) rfl (fun ls hl => ?_)
  refine lv_iload_n hx hb dX6_generatorsOf_2 rfl (lv_at hl 1 rfl) ?_
  refine lv_istore_n (lv' := [(2, .int (nI (2 ^ r0))), (1, .int (nI 0)), (0, .int (nI (2 ^ r0)))]) hx hb dX6_generatorsOf_3 rfl hl (by decide) rfl (fun ls hl => ?_)
  have lp4 : ∀ (i : Nat), i ≤ r0 → ∀  (H : Heap) (locs : List Loc) (ls : Array Slot), xH E base al w H → va_S (xA base) s.heap H locs → lv_has ls 3 [(2, .int (nI (2 ^ (r0 - i)))), (1, .int (nI i)), (0, .int (nI (2 ^ r0)))] → W p9 l e9 ({ frames := 0, cells := 0, slots := 0, locals := 0 } : Room) s m9 ([.int (nI (2 ^ r0))] : List Value).toArray below meth c9 H locs 0 0 Q (F0 m9 4 ls []) := by
    refine lp_up ?_
    intro i hii ih4  H locs ls hH hS hl
    have h31 : 2 ^ (r0 - i) < 2 ^ 31 := Nat.pow_lt_pow_right (by decide) (by omega)
    refine lv_iload_n hx hb dX6_generatorsOf_4 rfl (lv_at hl 0 rfl) ?_
    refine lv_iconst (v := nI 1) hx hb dX6_generatorsOf_5 (by decide +kernel) ?_
    refine lv_icmp_le (tgt := 19) hx hb dX6_generatorsOf_6 (by decide) (fun c_1 => ?_) (fun c_1 => ?_)
    · skip
      replace c_1 := (nI_leI (by omega) (by omega)).mp c_1
      refine lv_iload_n hx hb dX6_generatorsOf_19 rfl (lv_at hl 1 rfl) ?_
      rw [← hQ]
      refine x_reti C rfl hS (Nat.le_of_ble_eq_true rfl) (Nat.le_of_ble_eq_true rfl) dX6_generatorsOf_20 ?_
      rw [hpost]
      have e8 : i = r0 := by rcases Nat.lt_or_ge i r0 with q | q; exact absurd c_1 (Nat.not_le.mpr (Nat.one_lt_two_pow (by omega))); omega
      rw [e8]
      exact ⟨rfl, hH⟩
    · skip
      replace c_1 := mt (nI_leI (by omega) (by omega)).mpr c_1
      refine lv_iinc (v := nI (i + 1)) (lv' := [(1, .int (nI (i + 1))), (2, .int (nI (2 ^ (r0 - i)))), (0, .int (nI (2 ^ r0)))]) hx hb dX6_generatorsOf_9 hl (k := 1) rfl (nI_1 _) (by decide) rfl (fun ls hl => ?_)
      refine lv_iload_n hx hb dX6_generatorsOf_12 rfl (lv_at hl 1 rfl) ?_
      refine lv_iconst (v := nI 1) hx hb dX6_generatorsOf_13 (by decide +kernel) ?_
      have hi9 : i < r0 := by rcases Nat.lt_or_ge i r0 with q | q; exact q; exact absurd (by rw [show r0 - i = 0 by omega]; decide) c_1
      refine lv_ishr hx hb dX6_generatorsOf_14 ?_
      refine lv_re (y := nI (2 ^ (r0 - (i + 1)))) (gen_h hr0 hi9) ?_
      refine lv_istore_n (lv' := [(2, .int (nI (2 ^ (r0 - (i + 1))))), (1, .int (nI (i + 1))), (0, .int (nI (2 ^ r0)))]) hx hb dX6_generatorsOf_15 rfl hl (by decide) rfl (fun ls hl => ?_)
      refine lv_goto (tgt := 4) hx hb dX6_generatorsOf_16 (by decide) ?_
      exact ih4 (by omega)  _ _ _  hH hS (lv_sub hl [0, 1, 2] rfl)
  exact lp4 0 (Nat.zero_le _)  _ _ _  hH hS (lv_sub hl [0, 1, 2] rfl)

set_option maxHeartbeats 4000000 in
set_option maxRecDepth 100000 in
theorem c_known (l : Launch) {E : xE} {base : Nat} {al : Tg → Nat} {w : Tg → Option va_E} {nf np na nw : Nat} {sg : Nat → Nat → Nat → Int32} {rc : Nat → Bool} (hR : RM E al w nf np na nw sg rc) (hI : INV nf np na nw sg rc) {p b : Nat} (hp : p < np) : xMet l yX6_countKnownSets cX6_countKnownSets 5 (some (.int)) ({ frames := 3, cells := 0, slots := 0, locals := 70 } : Room) E base [.ref (al (0, 0, 0)), .ref (al (2, p, 0)), .int (nI b)] (fun H => xH E base al w H) (fun r H => r = some (.int (nI (2 ^ KCs sg rc na p b))) ∧ ∃ f9 : Nat → Int64, xH E base al (mkw E al w f9 (nI (2 ^ (nf - 6)))) H) := by
  refine xMet.of (by decide +kernel) "Dataroom" rfl (Nat.le_of_ble_eq_true rfl) ?_
  intro p9 e9 s m9 below meth c9 ls C hin hP hS hl
  have hx := C.hx
  have hb := C.hb
  have hH := hP
  have hl : lv_has ls 5 [(0, .ref (al (0, 0, 0))), (1, .ref (al (2, p, 0))), (2, .int (nI b))] := hl
  obtain ⟨post, hpost⟩ : ∃ zz9 : Option Value → Heap → Prop, zz9 = (fun r H => r = some (.int (nI (2 ^ KCs sg rc na p b))) ∧ ∃ f9 : Nat → Int64, xH E base al (mkw E al w f9 (nI (2 ^ (nf - 6)))) H) := ⟨_, rfl⟩
  rw [← hpost]
  generalize hQ : (MQ below (xQ base post) ([.ref (al (0, 0, 0)), .ref (al (2, p, 0)), .int (nI b)] : List Value).toArray s 0 0 (xA base)) = Q
  have hR0 := hR
  have hI0 := hI
  obtain ⟨hX, hF, hPl, hAl, hSh, hMk, hC, hPT, hAn⟩ := hR
  obtain ⟨mcF, aF, hLF⟩ := hF.sz
  obtain ⟨mcP, aP, hLP⟩ := hPl.sz
  obtain ⟨mcA, aA, hLA⟩ := hAl.sz
  obtain ⟨v16, v6, v150, vnow, vA, vS, vP, vK, vR⟩ := hI
  obtain ⟨n5, f5, hM0, hM1⟩ := hMk
  refine lv_aload_n hx hb dX6_countKnownSets_0 rfl (lv_at hl 0 rfl) ?_
  refine x_get C hH (ci := 7) (T := TX6) (N := 6) hX rfl iWX6 5 (by decide) qw_92 rfl rfl dX6_countKnownSets_1 ?_
  refine lv_aload_n hx hb dX6_countKnownSets_4 rfl (lv_at hl 0 rfl) ?_
  refine x_get C hH (ci := 7) (T := TX6) (N := 6) hX rfl iWX6 0 (by decide) qw_87 rfl rfl dX6_countKnownSets_5 ?_
  refine x_callV C hH hS (ci := 0) (t := (0, 1, 0)) hLF rfl rfl (c_size l (E := E) (base := base) (al := al) hLF) hH kJx4a65c_size_8abf5 qw_197 qw_198 qw_196  rfl [.ref (al (0, 5, 0))] rfl hl.1 (Nat.le_of_ble_eq_true rfl) ⟨Nat.le_of_ble_eq_true rfl, Nat.le_of_ble_eq_true rfl⟩ dX6_countKnownSets_8 ⟨Nat.le_of_ble_eq_true rfl, Nat.le_of_ble_eq_true rfl⟩ (fun r_2 H locs hp_1 hS => ?_)
  obtain ⟨rfl, hH⟩ := hp_1
  refine x_callV C hH hS (ci := 4) (t := (0, 5, 0)) hM0 rfl rfl (c_begin l (E := E) (base := base) hM0 hM1 (nf := nf) v16) hH kX3_begin qw_669 qw_670 qw_668  rfl [] rfl hl.1 (Nat.le_of_ble_eq_true rfl) ⟨Nat.le_of_ble_eq_true rfl, Nat.le_of_ble_eq_true rfl⟩ dX6_countKnownSets_11 ⟨Nat.le_of_ble_eq_true rfl, Nat.le_of_ble_eq_true rfl⟩ (fun r_4 H locs hp_3 hS => ?_)
  obtain ⟨rfl, hH⟩ := hp_3
  refine lv_iconst (v := nI 0) hx hb dX6_countKnownSets_14 (by decide +kernel) ?_
  refine lv_istore_n (lv' := [(3, .int (nI 0)), (0, .ref (al (0, 0, 0))), (1, .ref (al (2, p, 0))), (2, .int (nI b))]) hx hb dX6_countKnownSets_15 rfl hl (by decide) rfl (fun ls hl => ?_)
  have lp16 : ∀ (i : Nat), i ≤ na → ∀ (f9 : Nat → Int64) (H : Heap) (locs : List Loc) (ls : Array Slot), mkI sg rc nf p b f9 i → xH E base al (mkw E al w f9 (nI (2 ^ (nf - 6)))) H → va_S (xA base) s.heap H locs → lv_has ls 5 [(3, .int (nI i)), (2, .int (nI b)), (1, .ref (al (2, p, 0))), (0, .ref (al (0, 0, 0)))] → W p9 l e9 ({ frames := 3, cells := 0, slots := 0, locals := 70 } : Room) s m9 ([.ref (al (0, 0, 0)), .ref (al (2, p, 0)), .int (nI b)] : List Value).toArray below meth c9 H locs 0 0 Q (F0 m9 16 ls []) := by
    refine lp_up ?_
    intro i hii ih16 f9 H locs ls hy hH hS hl
    have hR1 := RM_mk hR0 f9 (nI (2 ^ (nf - 6)))
    obtain ⟨hX, hF, hPl, hAl, hSh, hMk, hC, hPT, hAn⟩ := hR1
    obtain ⟨mcF, aF, hLF⟩ := hF.sz
    obtain ⟨mcP, aP, hLP⟩ := hPl.sz
    obtain ⟨mcA, aA, hLA⟩ := hAl.sz
    have hM0 : (mkw E al w f9 (nI (2 ^ (nf - 6)))) (0, 5, 0) = _ := mkw_0
    have hM1 : (mkw E al w f9 (nI (2 ^ (nf - 6)))) (0, 5, 1) = _ := mkw_1
    refine lv_iload_n hx hb dX6_countKnownSets_16 rfl (lv_at hl 0 rfl) ?_
    refine lv_aload_n hx hb dX6_countKnownSets_17 rfl (lv_at hl 3 rfl) ?_
    refine x_get C hH (ci := 7) (T := TX6) (N := 6) hX rfl iWX6 2 (by decide) qw_89 rfl rfl dX6_countKnownSets_18 ?_
    refine x_callV C hH hS (ci := 0) (t := (0, 3, 0)) hLA rfl rfl (c_size l (E := E) (base := base) (al := al) hLA) hH kJx4a65c_size_8abf5 qw_197 qw_198 qw_196  rfl [.int (nI i)] rfl hl.1 (Nat.le_of_ble_eq_true rfl) ⟨Nat.le_of_ble_eq_true rfl, Nat.le_of_ble_eq_true rfl⟩ dX6_countKnownSets_21 ⟨Nat.le_of_ble_eq_true rfl, Nat.le_of_ble_eq_true rfl⟩ (fun r_6 H locs hp_5 hS => ?_)
    obtain ⟨rfl, hH⟩ := hp_5
    refine lv_icmp_ge (tgt := 79) hx hb dX6_countKnownSets_24 (by decide) (fun c_7 => ?_) (fun c_7 => ?_)
    · skip
      replace c_7 := (nI_leI (by omega) (by omega)).mp c_7
      refine lv_aload_n hx hb dX6_countKnownSets_79 rfl (lv_at hl 3 rfl) ?_
      refine x_get C hH (ci := 7) (T := TX6) (N := 6) hX rfl iWX6 5 (by decide) qw_92 rfl rfl dX6_countKnownSets_80 ?_
      refine x_callV C hH hS (ci := 4) (t := (0, 5, 0)) hM0 rfl rfl (c_sets l (E := E) (base := base) hM0 hM1 (mk_U nf v16)) hH kX3_sets qw_690 qw_691 qw_689  rfl [] rfl hl.1 (Nat.le_of_ble_eq_true rfl) ⟨Nat.le_of_ble_eq_true rfl, Nat.le_of_ble_eq_true rfl⟩ dX6_countKnownSets_83 ⟨Nat.le_of_ble_eq_true rfl, Nat.le_of_ble_eq_true rfl⟩ (fun r_9 H locs hp_8 hS => ?_)
      obtain ⟨rfl, hH⟩ := hp_8
      rw [← hQ]
      refine x_reti C rfl hS (Nat.le_of_ble_eq_true rfl) (Nat.le_of_ble_eq_true rfl) dX6_countKnownSets_86 ?_
      rw [hpost]
      have e8 : i = na := by omega
      subst e8
      exact ⟨by rw [mkI_e hy v16 (fun a ha => (vA a ha).2.1)], f9, hH⟩
    · skip
      replace c_7 := mt (nI_leI (by omega) (by omega)).mpr c_7
      refine lv_aload_n hx hb dX6_countKnownSets_27 rfl (lv_at hl 3 rfl) ?_
      refine x_get C hH (ci := 7) (T := TX6) (N := 6) hX rfl iWX6 2 (by decide) qw_89 rfl rfl dX6_countKnownSets_28 ?_
      refine lv_iload_n hx hb dX6_countKnownSets_31 rfl (lv_at hl 0 rfl) ?_
      obtain ⟨mcz_10, capz_10, gz_10, a1z_10, a2z_10, a3z_10, a4z_10, a5z_10⟩ := hAl.at (i := i) (by omega)
      refine x_callV C hH hS (ci := 0) (t := (0, 3, 0)) a1z_10 rfl rfl (c_get l (E := E) (base := base) a1z_10 a2z_10 (i := i) (by omega) a3z_10 a4z_10 a5z_10) hH kJx4a65c_get_915e3 qw_323 qw_324 qw_322  rfl [] rfl hl.1 (Nat.le_of_ble_eq_true rfl) ⟨Nat.le_of_ble_eq_true rfl, Nat.le_of_ble_eq_true rfl⟩ dX6_countKnownSets_32 ⟨Nat.le_of_ble_eq_true rfl, Nat.le_of_ble_eq_true rfl⟩ (fun r_12 H locs hp_11 hS => ?_)
      obtain ⟨rfl, hH⟩ := hp_11
      refine x_cast C hH (ci := 1) (hAn i (by omega)) rfl qw_341 dX6_countKnownSets_35 ?_
      refine lv_astore (lv' := [(4, .ref (al (6, i, 0))), (3, .int (nI i)), (2, .int (nI b)), (1, .ref (al (2, p, 0))), (0, .ref (al (0, 0, 0)))]) hx hb dX6_countKnownSets_38 hl (by decide) rfl (fun ls hl => ?_)
      refine lv_aload hx hb dX6_countKnownSets_40 (lv_at hl 0 rfl) ?_
      refine lv_aload_n hx hb dX6_countKnownSets_42 rfl (lv_at hl 3 rfl) ?_
      refine x_callV C hH hS (ci := 1) (t := (6, i, 0)) (hAn i (by omega)) rfl rfl (c_stands l (E := E) (base := base) (hAn i (by omega)) (hPT p (by omega)).1) hH kX0_standsFor qw_343 qw_344 qw_342  rfl [] rfl hl.1 (Nat.le_of_ble_eq_true rfl) ⟨Nat.le_of_ble_eq_true rfl, Nat.le_of_ble_eq_true rfl⟩ dX6_countKnownSets_43 ⟨Nat.le_of_ble_eq_true rfl, Nat.le_of_ble_eq_true rfl⟩ (fun r_14 H locs hp_13 hS => ?_)
      obtain ⟨rfl, hH⟩ := hp_13
      refine lv_if_eq (tgt := 73) hx hb dX6_countKnownSets_46 (by decide) (fun c_15 => ?_) (fun c_15 => ?_)
      · skip
        replace c_15 := ob_0.mp c_15
        refine lv_iinc (v := nI (i + 1)) (lv' := [(3, .int (nI (i + 1))), (4, .ref (al (6, i, 0))), (2, .int (nI b)), (1, .ref (al (2, p, 0))), (0, .ref (al (0, 0, 0)))]) hx hb dX6_countKnownSets_73 hl (k := 1) rfl (nI_1 _) (by decide) rfl (fun ls hl => ?_)
        refine lv_goto (tgt := 16) hx hb dX6_countKnownSets_76 (by decide) ?_
        exact ih16 (by omega) _ _ _ _ (mkI_n hy (by show (_ && _) = false; rw [c_15]; simp)) hH hS (lv_sub hl [0, 2, 3, 4] rfl)
      · skip
        replace c_15 := ob_n.mp c_15
        refine lv_aload hx hb dX6_countKnownSets_49 (lv_at hl 0 rfl) ?_
        refine x_getN C hH (ci := 1) (T := TX0) (N := 6) (hAn i (by omega)) rfl iWX0 2 (by decide) nw_556 rfl rfl dX6_countKnownSets_51 ?_
        refine lv_iload_n hx hb dX6_countKnownSets_54 rfl (lv_at hl 2 rfl) ?_
        refine x_callS C hS (c_covers l (E := E) (base := base) (al := al) (w := (mkw E al w f9 (nI (2 ^ (nf - 6))))) (x := (sg 9 i 0)) (k := b)) hH kX6_covers qw_366 qw_674  rfl [] rfl hl.1 (Nat.le_of_ble_eq_true rfl) ⟨Nat.le_of_ble_eq_true rfl, Nat.le_of_ble_eq_true rfl⟩ dX6_countKnownSets_55 ⟨Nat.le_of_ble_eq_true rfl, Nat.le_of_ble_eq_true rfl⟩ (fun r_17 H locs hp_16 hS => ?_)
        obtain ⟨rfl, hH⟩ := hp_16
        refine lv_if_eq (tgt := 73) hx hb dX6_countKnownSets_58 (by decide) (fun c_18 => ?_) (fun c_18 => ?_)
        · skip
          replace c_18 := ob_0.mp c_18
          refine lv_iinc (v := nI (i + 1)) (lv' := [(3, .int (nI (i + 1))), (4, .ref (al (6, i, 0))), (2, .int (nI b)), (1, .ref (al (2, p, 0))), (0, .ref (al (0, 0, 0)))]) hx hb dX6_countKnownSets_73 hl (k := 1) rfl (nI_1 _) (by decide) rfl (fun ls hl => ?_)
          refine lv_goto (tgt := 16) hx hb dX6_countKnownSets_76 (by decide) ?_
          exact ih16 (by omega) _ _ _ _ (mkI_n hy (by show (_ && _) = false; rw [c_15, c_18]; simp)) hH hS (lv_sub hl [0, 2, 3, 4] rfl)
        · skip
          replace c_18 := ob_n.mp c_18
          refine lv_aload_n hx hb dX6_countKnownSets_61 rfl (lv_at hl 4 rfl) ?_
          refine x_get C hH (ci := 7) (T := TX6) (N := 6) hX rfl iWX6 5 (by decide) qw_92 rfl rfl dX6_countKnownSets_62 ?_
          refine lv_aload hx hb dX6_countKnownSets_65 (lv_at hl 0 rfl) ?_
          refine x_getN C hH (ci := 1) (T := TX0) (N := 6) (hAn i (by omega)) rfl iWX0 1 (by decide) nw_554 rfl rfl dX6_countKnownSets_67 ?_
          obtain ⟨s9, hs9, es9⟩ := sml_nI (by omega) (vA i (by omega)).2.1
          refine lv_re es9 ?_
          have hs8 := mk_lt hs9
          refine x_callV C hH hS (ci := 4) (t := (0, 5, 0)) hM0 rfl rfl (c_markadd l (E := E) (base := base) hM0 hM1 (z8 := s9) hs8 (mk_U nf v16) (u := nf - 6) rfl) hH kX3_add qw_676 qw_677 qw_675  rfl [] rfl hl.1 (Nat.le_of_ble_eq_true rfl) ⟨Nat.le_of_ble_eq_true rfl, Nat.le_of_ble_eq_true rfl⟩ dX6_countKnownSets_70 ⟨Nat.le_of_ble_eq_true rfl, Nat.le_of_ble_eq_true rfl⟩ (fun r_20 H locs hp_19 hS => ?_)
          obtain ⟨rfl, hH⟩ := hp_19
          rw [mkw_set1] at hH
          refine lv_iinc (v := nI (i + 1)) (lv' := [(3, .int (nI (i + 1))), (4, .ref (al (6, i, 0))), (2, .int (nI b)), (1, .ref (al (2, p, 0))), (0, .ref (al (0, 0, 0)))]) hx hb dX6_countKnownSets_73 hl (k := 1) rfl (nI_1 _) (by decide) rfl (fun ls hl => ?_)
          refine lv_goto (tgt := 16) hx hb dX6_countKnownSets_76 (by decide) ?_
          exact ih16 (by omega) _ _ _ _ (mkI_s hy v16 (fun a ha => (vA a (by omega)).2.1) (by show (_ && _) = true; rw [c_15, c_18]; rfl) hs9 es9) hH hS (lv_sub hl [0, 2, 3, 4] rfl)
  exact lp16 0 (Nat.zero_le _) (vp_updL (bz f5 (2 ^ (nf - 6))) 0 1) _ _ _ (mkI_0 v16) hH hS (lv_sub hl [0, 3, 2, 1] rfl)

set_option maxHeartbeats 4000000 in
set_option maxRecDepth 100000 in
theorem c_spentAnew (l : Launch) (hfl : l.stackTraces = false) {E : xE} {base : Nat} {al : Tg → Nat} {w : Tg → Option va_E} {nf np na nw : Nat} {sg : Nat → Nat → Nat → Int32} {rc : Nat → Bool} (hR : RM E al w nf np na nw sg rc) (hI : INV nf np na nw sg rc) {x : Int32} : xMetX l yX6_spentAnew cX6_spentAnew 5 (some (.int)) ({ frames := 7, cells := 1, slots := 6, locals := 103 } : Room) E base [.ref (al (0, 0, 0)), .int x] (fun H => xH E base al w H) (fun r H => ∃ p, p < np ∧ x = nI p ∧ r = some (.int (nI (sC (KCs sg rc na p) 8))) ∧ ∃ (f : Nat → Int64) (m : Int32), xH E base al (mkw E al w f m) H) (fun X H => X = "java/lang/IndexOutOfBoundsException" ∧ ¬ inR x np ∧ xH E base al w H) := by
  refine xMetX.of (by decide +kernel) "Dataroom" rfl (Nat.le_of_ble_eq_true rfl) ?_
  intro p9 e9 s m9 below meth c9 ls C het hP hS hl
  have hx := C.hx
  have hb := C.hb
  have hH := hP
  have hl : lv_has ls 5 [(0, .ref (al (0, 0, 0))), (1, .int x)] := hl
  obtain ⟨post, hpost⟩ : ∃ zz9 : Option Value → Heap → Prop, zz9 = (fun r H => ∃ p, p < np ∧ x = nI p ∧ r = some (.int (nI (sC (KCs sg rc na p) 8))) ∧ ∃ (f : Nat → Int64) (m : Int32), xH E base al (mkw E al w f m) H) := ⟨_, rfl⟩
  obtain ⟨px, hpx⟩ : ∃ zz9 : String → Heap → Prop, zz9 = (fun X H => X = "java/lang/IndexOutOfBoundsException" ∧ ¬ inR x np ∧ xH E base al w H) := ⟨_, rfl⟩
  rw [← hpost, ← hpx]
  generalize hQ : (vx_MQ below (xQ base post) (xX base px) ([.ref (al (0, 0, 0)), .int x] : List Value).toArray s 1 6 (xA base)) = Q
  have hR0 := hR
  have hI0 := hI
  obtain ⟨hX, hF, hPl, hAl, hSh, hMk, hC, hPT, hAn⟩ := hR
  obtain ⟨mcF, aF, hLF⟩ := hF.sz
  obtain ⟨mcP, aP, hLP⟩ := hPl.sz
  obtain ⟨mcA, aA, hLA⟩ := hAl.sz
  obtain ⟨v16, v6, v150, vnow, vA, vS, vP, vK, vR⟩ := hI
  obtain ⟨n5, f5, hM0, hM1⟩ := hMk
  refine lv_aload_n hx hb dX6_spentAnew_0 rfl (lv_at hl 0 rfl) ?_
  refine lv_iload_n hx hb dX6_spentAnew_1 rfl (lv_at hl 1 rfl) ?_
  refine x_thrV C hH hS (ci := 7) (t := (0, 0, 0)) hX rfl rfl (c_pAt l hfl (E := E) (base := base) hR0 hI0 (x := x)) hH kX6_partyAt qw_420 (ws_p (List.mem_of_getElem? (i := 8) rfl) rfl) qw_418  rfl [] rfl hl.1 (Nat.le_of_ble_eq_true rfl) ⟨Nat.le_of_ble_eq_true rfl, Nat.le_of_ble_eq_true rfl⟩ dX6_spentAnew_2 ⟨Nat.le_of_ble_eq_true rfl, Nat.le_of_ble_eq_true rfl⟩ (fun X ce q9 H locs hp_1 hS hce hcv hcl => ?_) (fun r_2 H locs hp_1 hS => ?_)
  · skip
    obtain ⟨rfl, hno, hH⟩ := hp_1
    rw [← hQ]
    refine x_outX C het hS hce hcv hcl (Nat.le_of_ble_eq_true rfl) (Nat.le_of_ble_eq_true rfl) ?_
    rw [hpx]
    exact ⟨rfl, hno, hH⟩
  · skip
    obtain ⟨p_3, hp_3, rfl, rfl, hH⟩ := hp_1
    refine lv_astore_n (lv' := [(2, .ref (al (2, p_3, 0))), (0, .ref (al (0, 0, 0))), (1, .int (nI p_3))]) hx hb dX6_spentAnew_5 rfl hl (by decide) rfl (fun ls hl => ?_)
    refine lv_iconst (v := nI 0) hx hb dX6_spentAnew_6 (by decide +kernel) ?_
    refine lv_istore_n (lv' := [(3, .int (nI 0)), (2, .ref (al (2, p_3, 0))), (0, .ref (al (0, 0, 0))), (1, .int (nI p_3))]) hx hb dX6_spentAnew_7 rfl hl (by decide) rfl (fun ls hl => ?_)
    refine lv_iconst (v := nI 0) hx hb dX6_spentAnew_8 (by decide +kernel) ?_
    refine lv_istore (lv' := [(4, .int (nI 0)), (3, .int (nI 0)), (2, .ref (al (2, p_3, 0))), (0, .ref (al (0, 0, 0))), (1, .int (nI p_3))]) hx hb dX6_spentAnew_9 hl (by decide) rfl (fun ls hl => ?_)
    have lp11 : ∀ (i : Nat), i ≤ 8 → ∀ (f9 : Nat → Int64) (u9 : Int32) (H : Heap) (locs : List Loc) (ls : Array Slot), xH E base al (mkw E al w f9 u9) H → va_S (xA base) s.heap H locs → lv_has ls 5 [(4, .int (nI i)), (3, .int (nI (sC (KCs sg rc na p_3) i))), (2, .ref (al (2, p_3, 0))), (1, .int (nI p_3)), (0, .ref (al (0, 0, 0)))] → W p9 l e9 ({ frames := 7, cells := 1, slots := 6, locals := 103 } : Room) s m9 ([.ref (al (0, 0, 0)), .int (nI p_3)] : List Value).toArray below meth c9 H locs 1 6 Q (F0 m9 11 ls []) := by
      refine lp_up ?_
      intro i hii ih11 f9 u9 H locs ls hH hS hl
      have hR1 := RM_mk hR0 f9 u9
      obtain ⟨hX, hF, hPl, hAl, hSh, hMk, hC, hPT, hAn⟩ := hR1
      obtain ⟨mcF, aF, hLF⟩ := hF.sz
      obtain ⟨mcP, aP, hLP⟩ := hPl.sz
      obtain ⟨mcA, aA, hLA⟩ := hAl.sz
      have hM0 : (mkw E al w f9 u9) (0, 5, 0) = _ := mkw_0
      have hM1 : (mkw E al w f9 u9) (0, 5, 1) = _ := mkw_1
      refine lv_iload hx hb dX6_spentAnew_11 (lv_at hl 0 rfl) ?_
      refine lv_bipush (v := nI 8) hx hb dX6_spentAnew_13 (by decide +kernel) ?_
      refine lv_icmp_ge (tgt := 37) hx hb dX6_spentAnew_15 (by decide) (fun c_4 => ?_) (fun c_4 => ?_)
      · skip
        replace c_4 := (nI_leI (by omega) (by omega)).mp c_4
        refine lv_iload_n hx hb dX6_spentAnew_37 rfl (lv_at hl 1 rfl) ?_
        rw [← hQ]
        refine vx_ret (x_reti C rfl hS (Nat.le_of_ble_eq_true rfl) (Nat.le_of_ble_eq_true rfl) dX6_spentAnew_38 ?_)
        rw [hpost]
        have e8 : i = 8 := by omega
        subst e8
        exact ⟨p_3, hp_3, rfl, rfl, f9, u9, hH⟩
      · skip
        replace c_4 := mt (nI_leI (by omega) (by omega)).mpr c_4
        refine lv_iload_n hx hb dX6_spentAnew_18 rfl (lv_at hl 1 rfl) ?_
        refine lv_aload_n hx hb dX6_spentAnew_19 rfl (lv_at hl 4 rfl) ?_
        refine lv_aload_n hx hb dX6_spentAnew_20 rfl (lv_at hl 2 rfl) ?_
        refine lv_iload hx hb dX6_spentAnew_21 (lv_at hl 0 rfl) ?_
        refine x_callV C hH hS (ci := 7) (t := (0, 0, 0)) hX rfl rfl (c_known l (E := E) (base := base) (RM_mk hR0 f9 u9) hI0 (p := p_3) (b := i) (by omega)) hH kX6_countKnownSets qw_666 (ws_p (List.mem_of_getElem? (i := 17) rfl) rfl) qw_664  rfl [.int (nI (sC (KCs sg rc na p_3) i))] rfl hl.1 (Nat.le_of_ble_eq_true rfl) ⟨Nat.le_of_ble_eq_true rfl, Nat.le_of_ble_eq_true rfl⟩ dX6_spentAnew_23 ⟨Nat.le_of_ble_eq_true rfl, Nat.le_of_ble_eq_true rfl⟩ (fun r_6 H locs hp_5 hS => ?_)
        obtain ⟨rfl, f8, hH⟩ := hp_5
        rw [mkw_mkw] at hH
        have hR1 := RM_mk hR0 f8 (nI (2 ^ (nf - 6)))
        obtain ⟨hX, hF, hPl, hAl, hSh, hMk, hC, hPT, hAn⟩ := hR1
        obtain ⟨mcF, aF, hLF⟩ := hF.sz
        obtain ⟨mcP, aP, hLP⟩ := hPl.sz
        obtain ⟨mcA, aA, hLA⟩ := hAl.sz
        have hM0 : (mkw E al w f8 (nI (2 ^ (nf - 6)))) (0, 5, 0) = _ := mkw_0
        have hM1 : (mkw E al w f8 (nI (2 ^ (nf - 6)))) (0, 5, 1) = _ := mkw_1
        refine x_callS C hS (c_gens l (E := E) (base := base) (al := al) (w := (mkw E al w f8 (nI (2 ^ (nf - 6))))) (kc_16 (fun a ha => (vA a ha).2.1) v16)) hH kX6_generatorsOf qw_700 qw_699  rfl [.int (nI (sC (KCs sg rc na p_3) i))] rfl hl.1 (Nat.le_of_ble_eq_true rfl) ⟨Nat.le_of_ble_eq_true rfl, Nat.le_of_ble_eq_true rfl⟩ dX6_spentAnew_26 ⟨Nat.le_of_ble_eq_true rfl, Nat.le_of_ble_eq_true rfl⟩ (fun r_8 H locs hp_7 hS => ?_)
        obtain ⟨rfl, hH⟩ := hp_7
        refine lv_iadd hx hb dX6_spentAnew_29 ?_
        refine lv_re (nI_add _ _) ?_
        refine lv_istore_n (lv' := [(3, .int (nI (sC (KCs sg rc na p_3) i + KCs sg rc na p_3 i))), (4, .int (nI i)), (2, .ref (al (2, p_3, 0))), (1, .int (nI p_3)), (0, .ref (al (0, 0, 0)))]) hx hb dX6_spentAnew_30 rfl hl (by decide) rfl (fun ls hl => ?_)
        refine lv_iinc (v := nI (i + 1)) (lv' := [(4, .int (nI (i + 1))), (3, .int (nI (sC (KCs sg rc na p_3) i + KCs sg rc na p_3 i))), (2, .ref (al (2, p_3, 0))), (1, .int (nI p_3)), (0, .ref (al (0, 0, 0)))]) hx hb dX6_spentAnew_31 hl (k := 1) rfl (nI_1 _) (by decide) rfl (fun ls hl => ?_)
        refine lv_goto (tgt := 11) hx hb dX6_spentAnew_34 (by decide) ?_
        exact ih11 (by omega) _ _ _ _ _  hH hS (lv_sub hl [0, 1, 2, 3, 4] rfl)
    exact lp11 0 (Nat.zero_le _) f5 n5 _ _ _  (by rw [mkw_self hM0 hM1]; exact hH) hS (lv_sub hl [0, 1, 2, 4, 3] rfl)
